-- ===== PART A: goes FIRST, ahead of the names: the tables' words, and 'selects' of the private methods out of them =====
/-- a private method of a class that the tables say can be made, by its rows of tables_1 -/
def lw_okq (q : MethodName × Nat) : Prop := (q.1.cls ≠ "java/lang/invoke/MethodHandle" ∧ q.1.cls ≠ "java/lang/invoke/VarHandle") ∧ Cond.instantiable q.1.cls q.2 ∈ tables_1 ∧ Cond.privateMethod q.1 ∈ tables_1 ∧ Cond.instanceMethod q.1 ∈ tables_1
theorem lw_p0 : lw_okq (⟨"SwitchYard$Layout", "areJoined", "(II)Z"⟩, 9) := ⟨⟨by decide +kernel, by decide +kernel⟩, List.mem_of_getElem? (i := 125) (by decide +kernel), List.mem_of_getElem? (i := 439) (by decide +kernel), List.mem_of_getElem? (i := 440) (by decide +kernel)⟩
theorem lw_p1 : lw_okq (⟨"SwitchYard$Layout", "mayGetLink", "(I)Z"⟩, 9) := ⟨⟨by decide +kernel, by decide +kernel⟩, List.mem_of_getElem? (i := 125) (by decide +kernel), List.mem_of_getElem? (i := 447) (by decide +kernel), List.mem_of_getElem? (i := 448) (by decide +kernel)⟩
theorem lw_p2 : lw_okq (⟨"SwitchYard$Layout", "addLink", "(II)V"⟩, 9) := ⟨⟨by decide +kernel, by decide +kernel⟩, List.mem_of_getElem? (i := 125) (by decide +kernel), List.mem_of_getElem? (i := 456) (by decide +kernel), List.mem_of_getElem? (i := 457) (by decide +kernel)⟩
theorem lw_p3 : lw_okq (⟨"SwitchYard", "standNew", "(IIIII)I"⟩, 11) := ⟨⟨by decide +kernel, by decide +kernel⟩, List.mem_of_getElem? (i := 19) (by decide +kernel), List.mem_of_getElem? (i := 472) (by decide +kernel), List.mem_of_getElem? (i := 473) (by decide +kernel)⟩
theorem lw_p4 : lw_okq (⟨"SwitchYard$Stock", "set", "(III)V"⟩, 2) := ⟨⟨by decide +kernel, by decide +kernel⟩, List.mem_of_getElem? (i := 112) (by decide +kernel), List.mem_of_getElem? (i := 518) (by decide +kernel), List.mem_of_getElem? (i := 519) (by decide +kernel)⟩
theorem lw_p5 : lw_okq (⟨"SwitchYard$Bodies", "isBarred", "(II)Z"⟩, 4) := ⟨⟨by decide +kernel, by decide +kernel⟩, List.mem_of_getElem? (i := 228) (by decide +kernel), List.mem_of_getElem? (i := 534) (by decide +kernel), List.mem_of_getElem? (i := 535) (by decide +kernel)⟩
theorem lw_p6 : lw_okq (⟨"SwitchYard$Routes", "entriesOf", "(I)I"⟩, 9) := ⟨⟨by decide +kernel, by decide +kernel⟩, List.mem_of_getElem? (i := 166) (by decide +kernel), List.mem_of_getElem? (i := 567) (by decide +kernel), List.mem_of_getElem? (i := 568) (by decide +kernel)⟩
theorem lw_p7 : lw_okq (⟨"SwitchYard$Routes", "lockedBy", "(I)I"⟩, 9) := ⟨⟨by decide +kernel, by decide +kernel⟩, List.mem_of_getElem? (i := 166) (by decide +kernel), List.mem_of_getElem? (i := 571) (by decide +kernel), List.mem_of_getElem? (i := 572) (by decide +kernel)⟩
theorem lw_p8 : lw_okq (⟨"SwitchYard$Routes", "lockedFinding", "(I)I"⟩, 9) := ⟨⟨by decide +kernel, by decide +kernel⟩, List.mem_of_getElem? (i := 166) (by decide +kernel), List.mem_of_getElem? (i := 579) (by decide +kernel), List.mem_of_getElem? (i := 580) (by decide +kernel)⟩
theorem lw_p9 : lw_okq (⟨"SwitchYard$Routes", "isBehind", "(III)Z"⟩, 9) := ⟨⟨by decide +kernel, by decide +kernel⟩, List.mem_of_getElem? (i := 166) (by decide +kernel), List.mem_of_getElem? (i := 587) (by decide +kernel), List.mem_of_getElem? (i := 588) (by decide +kernel)⟩
theorem lw_p10 : lw_okq (⟨"SwitchYard$Routes", "putEntry", "(IIII)V"⟩, 9) := ⟨⟨by decide +kernel, by decide +kernel⟩, List.mem_of_getElem? (i := 166) (by decide +kernel), List.mem_of_getElem? (i := 591) (by decide +kernel), List.mem_of_getElem? (i := 592) (by decide +kernel)⟩
theorem lw_p11 : lw_okq (⟨"SwitchYard", "named", "(II)I"⟩, 11) := ⟨⟨by decide +kernel, by decide +kernel⟩, List.mem_of_getElem? (i := 19) (by decide +kernel), List.mem_of_getElem? (i := 599) (by decide +kernel), List.mem_of_getElem? (i := 600) (by decide +kernel)⟩
theorem lw_p12 : lw_okq (⟨"SwitchYard$Stock", "putPiece", "(III)I"⟩, 2) := ⟨⟨by decide +kernel, by decide +kernel⟩, List.mem_of_getElem? (i := 112) (by decide +kernel), List.mem_of_getElem? (i := 619) (by decide +kernel), List.mem_of_getElem? (i := 620) (by decide +kernel)⟩
theorem lw_p13 : lw_okq (⟨"SwitchYard", "beginAct", "()V"⟩, 11) := ⟨⟨by decide +kernel, by decide +kernel⟩, List.mem_of_getElem? (i := 19) (by decide +kernel), List.mem_of_getElem? (i := 639) (by decide +kernel), List.mem_of_getElem? (i := 640) (by decide +kernel)⟩
theorem lw_p14 : lw_okq (⟨"SwitchYard$History", "border", "()I"⟩, 8) := ⟨⟨by decide +kernel, by decide +kernel⟩, List.mem_of_getElem? (i := 77) (by decide +kernel), List.mem_of_getElem? (i := 647) (by decide +kernel), List.mem_of_getElem? (i := 648) (by decide +kernel)⟩
theorem lw_p15 : lw_okq (⟨"SwitchYard", "change", "(IIII)I"⟩, 11) := ⟨⟨by decide +kernel, by decide +kernel⟩, List.mem_of_getElem? (i := 19) (by decide +kernel), List.mem_of_getElem? (i := 658) (by decide +kernel), List.mem_of_getElem? (i := 659) (by decide +kernel)⟩
def lw_privs_1 : List (MethodName × Nat) := [(⟨"SwitchYard$Layout", "areJoined", "(II)Z"⟩, 9), (⟨"SwitchYard$Layout", "mayGetLink", "(I)Z"⟩, 9), (⟨"SwitchYard$Layout", "addLink", "(II)V"⟩, 9), (⟨"SwitchYard", "standNew", "(IIIII)I"⟩, 11), (⟨"SwitchYard$Stock", "set", "(III)V"⟩, 2), (⟨"SwitchYard$Bodies", "isBarred", "(II)Z"⟩, 4), (⟨"SwitchYard$Routes", "entriesOf", "(I)I"⟩, 9), (⟨"SwitchYard$Routes", "lockedBy", "(I)I"⟩, 9), (⟨"SwitchYard$Routes", "lockedFinding", "(I)I"⟩, 9), (⟨"SwitchYard$Routes", "isBehind", "(III)Z"⟩, 9), (⟨"SwitchYard$Routes", "putEntry", "(IIII)V"⟩, 9), (⟨"SwitchYard", "named", "(II)I"⟩, 11), (⟨"SwitchYard$Stock", "putPiece", "(III)I"⟩, 2), (⟨"SwitchYard", "beginAct", "()V"⟩, 11), (⟨"SwitchYard$History", "border", "()I"⟩, 8), (⟨"SwitchYard", "change", "(IIII)I"⟩, 11)]
theorem lw_r1 : ∀ q ∈ lw_privs_1, lw_okq q := List.forall_mem_cons.mpr ⟨lw_p0, List.forall_mem_cons.mpr ⟨lw_p1, List.forall_mem_cons.mpr ⟨lw_p2, List.forall_mem_cons.mpr ⟨lw_p3, List.forall_mem_cons.mpr ⟨lw_p4, List.forall_mem_cons.mpr ⟨lw_p5, List.forall_mem_cons.mpr ⟨lw_p6, List.forall_mem_cons.mpr ⟨lw_p7, List.forall_mem_cons.mpr ⟨lw_p8, List.forall_mem_cons.mpr ⟨lw_p9, List.forall_mem_cons.mpr ⟨lw_p10, List.forall_mem_cons.mpr ⟨lw_p11, List.forall_mem_cons.mpr ⟨lw_p12, List.forall_mem_cons.mpr ⟨lw_p13, List.forall_mem_cons.mpr ⟨lw_p14, List.forall_mem_cons.mpr ⟨lw_p15, fun _ h => absurd h List.not_mem_nil⟩⟩⟩⟩⟩⟩⟩⟩⟩⟩⟩⟩⟩⟩⟩⟩
theorem lw_p16 : lw_okq (⟨"SwitchYard", "endAct", "(II)I"⟩, 11) := ⟨⟨by decide +kernel, by decide +kernel⟩, List.mem_of_getElem? (i := 19) (by decide +kernel), List.mem_of_getElem? (i := 664) (by decide +kernel), List.mem_of_getElem? (i := 665) (by decide +kernel)⟩
theorem lw_p17 : lw_okq (⟨"SwitchYard$Routes", "hasLink", "(II)Z"⟩, 9) := ⟨⟨by decide +kernel, by decide +kernel⟩, List.mem_of_getElem? (i := 166) (by decide +kernel), List.mem_of_getElem? (i := 701) (by decide +kernel), List.mem_of_getElem? (i := 702) (by decide +kernel)⟩
theorem lw_p18 : lw_okq (⟨"SwitchYard$Routes", "turnFinding", "(I)I"⟩, 9) := ⟨⟨by decide +kernel, by decide +kernel⟩, List.mem_of_getElem? (i := 166) (by decide +kernel), List.mem_of_getElem? (i := 714) (by decide +kernel), List.mem_of_getElem? (i := 715) (by decide +kernel)⟩
theorem lw_p19 : lw_okq (⟨"SwitchYard$Routes", "isUnder", "(I)Z"⟩, 9) := ⟨⟨by decide +kernel, by decide +kernel⟩, List.mem_of_getElem? (i := 166) (by decide +kernel), List.mem_of_getElem? (i := 718) (by decide +kernel), List.mem_of_getElem? (i := 719) (by decide +kernel)⟩
theorem lw_p20 : lw_okq (⟨"SwitchYard$Routes", "lockFinding", "(II)I"⟩, 9) := ⟨⟨by decide +kernel, by decide +kernel⟩, List.mem_of_getElem? (i := 166) (by decide +kernel), List.mem_of_getElem? (i := 739) (by decide +kernel), List.mem_of_getElem? (i := 740) (by decide +kernel)⟩
theorem lw_p21 : lw_okq (⟨"SwitchYard$Routes", "giveBack", "(II)V"⟩, 9) := ⟨⟨by decide +kernel, by decide +kernel⟩, List.mem_of_getElem? (i := 166) (by decide +kernel), List.mem_of_getElem? (i := 743) (by decide +kernel), List.mem_of_getElem? (i := 744) (by decide +kernel)⟩
theorem lw_p22 : lw_okq (⟨"SwitchYard", "coupleAhead", "(II)I"⟩, 11) := ⟨⟨by decide +kernel, by decide +kernel⟩, List.mem_of_getElem? (i := 19) (by decide +kernel), List.mem_of_getElem? (i := 759) (by decide +kernel), List.mem_of_getElem? (i := 760) (by decide +kernel)⟩
theorem lw_p23 : lw_okq (⟨"SwitchYard", "namedSide", "(III)I"⟩, 11) := ⟨⟨by decide +kernel, by decide +kernel⟩, List.mem_of_getElem? (i := 19) (by decide +kernel), List.mem_of_getElem? (i := 763) (by decide +kernel), List.mem_of_getElem? (i := 764) (by decide +kernel)⟩
theorem lw_p24 : lw_okq (⟨"SwitchYard$Layout", "endNextTo", "(II)I"⟩, 9) := ⟨⟨by decide +kernel, by decide +kernel⟩, List.mem_of_getElem? (i := 125) (by decide +kernel), List.mem_of_getElem? (i := 779) (by decide +kernel), List.mem_of_getElem? (i := 780) (by decide +kernel)⟩
theorem lw_p25 : lw_okq (⟨"SwitchYard$Layout", "leadsTo", "(I)I"⟩, 9) := ⟨⟨by decide +kernel, by decide +kernel⟩, List.mem_of_getElem? (i := 125) (by decide +kernel), List.mem_of_getElem? (i := 789) (by decide +kernel), List.mem_of_getElem? (i := 790) (by decide +kernel)⟩
theorem lw_p26 : lw_okq (⟨"SwitchYard$Trains", "isCoupled", "(I)Z"⟩, 6) := ⟨⟨by decide +kernel, by decide +kernel⟩, List.mem_of_getElem? (i := 201) (by decide +kernel), List.mem_of_getElem? (i := 799) (by decide +kernel), List.mem_of_getElem? (i := 800) (by decide +kernel)⟩
theorem lw_p27 : lw_okq (⟨"SwitchYard$Trains", "areOne", "(II)Z"⟩, 6) := ⟨⟨by decide +kernel, by decide +kernel⟩, List.mem_of_getElem? (i := 201) (by decide +kernel), List.mem_of_getElem? (i := 812) (by decide +kernel), List.mem_of_getElem? (i := 813) (by decide +kernel)⟩
theorem lw_p28 : lw_okq (⟨"SwitchYard$Trains", "hookInLine", "(I)I"⟩, 6) := ⟨⟨by decide +kernel, by decide +kernel⟩, List.mem_of_getElem? (i := 201) (by decide +kernel), List.mem_of_getElem? (i := 828) (by decide +kernel), List.mem_of_getElem? (i := 829) (by decide +kernel)⟩
theorem lw_p29 : lw_okq (⟨"SwitchYard$Bodies", "kindOf", "(I)I"⟩, 4) := ⟨⟨by decide +kernel, by decide +kernel⟩, List.mem_of_getElem? (i := 228) (by decide +kernel), List.mem_of_getElem? (i := 842) (by decide +kernel), List.mem_of_getElem? (i := 843) (by decide +kernel)⟩
theorem lw_p30 : lw_okq (⟨"SwitchYard$Bodies", "wagonSuits", "(II)Z"⟩, 4) := ⟨⟨by decide +kernel, by decide +kernel⟩, List.mem_of_getElem? (i := 228) (by decide +kernel), List.mem_of_getElem? (i := 847) (by decide +kernel), List.mem_of_getElem? (i := 848) (by decide +kernel)⟩
theorem lw_p31 : lw_okq (⟨"SwitchYard$Trains", "renew", "(I)V"⟩, 6) := ⟨⟨by decide +kernel, by decide +kernel⟩, List.mem_of_getElem? (i := 201) (by decide +kernel), List.mem_of_getElem? (i := 857) (by decide +kernel), List.mem_of_getElem? (i := 858) (by decide +kernel)⟩
def lw_privs_2 : List (MethodName × Nat) := [(⟨"SwitchYard", "endAct", "(II)I"⟩, 11), (⟨"SwitchYard$Routes", "hasLink", "(II)Z"⟩, 9), (⟨"SwitchYard$Routes", "turnFinding", "(I)I"⟩, 9), (⟨"SwitchYard$Routes", "isUnder", "(I)Z"⟩, 9), (⟨"SwitchYard$Routes", "lockFinding", "(II)I"⟩, 9), (⟨"SwitchYard$Routes", "giveBack", "(II)V"⟩, 9), (⟨"SwitchYard", "coupleAhead", "(II)I"⟩, 11), (⟨"SwitchYard", "namedSide", "(III)I"⟩, 11), (⟨"SwitchYard$Layout", "endNextTo", "(II)I"⟩, 9), (⟨"SwitchYard$Layout", "leadsTo", "(I)I"⟩, 9), (⟨"SwitchYard$Trains", "isCoupled", "(I)Z"⟩, 6), (⟨"SwitchYard$Trains", "areOne", "(II)Z"⟩, 6), (⟨"SwitchYard$Trains", "hookInLine", "(I)I"⟩, 6), (⟨"SwitchYard$Bodies", "kindOf", "(I)I"⟩, 4), (⟨"SwitchYard$Bodies", "wagonSuits", "(II)Z"⟩, 4), (⟨"SwitchYard$Trains", "renew", "(I)V"⟩, 6)]
theorem lw_r2 : ∀ q ∈ lw_privs_2, lw_okq q := List.forall_mem_cons.mpr ⟨lw_p16, List.forall_mem_cons.mpr ⟨lw_p17, List.forall_mem_cons.mpr ⟨lw_p18, List.forall_mem_cons.mpr ⟨lw_p19, List.forall_mem_cons.mpr ⟨lw_p20, List.forall_mem_cons.mpr ⟨lw_p21, List.forall_mem_cons.mpr ⟨lw_p22, List.forall_mem_cons.mpr ⟨lw_p23, List.forall_mem_cons.mpr ⟨lw_p24, List.forall_mem_cons.mpr ⟨lw_p25, List.forall_mem_cons.mpr ⟨lw_p26, List.forall_mem_cons.mpr ⟨lw_p27, List.forall_mem_cons.mpr ⟨lw_p28, List.forall_mem_cons.mpr ⟨lw_p29, List.forall_mem_cons.mpr ⟨lw_p30, List.forall_mem_cons.mpr ⟨lw_p31, fun _ h => absurd h List.not_mem_nil⟩⟩⟩⟩⟩⟩⟩⟩⟩⟩⟩⟩⟩⟩⟩⟩
theorem lw_p32 : lw_okq (⟨"SwitchYard", "partFrom", "(II)I"⟩, 11) := ⟨⟨by decide +kernel, by decide +kernel⟩, List.mem_of_getElem? (i := 19) (by decide +kernel), List.mem_of_getElem? (i := 870) (by decide +kernel), List.mem_of_getElem? (i := 871) (by decide +kernel)⟩
theorem lw_p33 : lw_okq (⟨"SwitchYard", "pullBy", "(III)I"⟩, 11) := ⟨⟨by decide +kernel, by decide +kernel⟩, List.mem_of_getElem? (i := 19) (by decide +kernel), List.mem_of_getElem? (i := 882) (by decide +kernel), List.mem_of_getElem? (i := 883) (by decide +kernel)⟩
theorem lw_p34 : lw_okq (⟨"SwitchYard", "lineWeight", "()I"⟩, 11) := ⟨⟨by decide +kernel, by decide +kernel⟩, List.mem_of_getElem? (i := 19) (by decide +kernel), List.mem_of_getElem? (i := 887) (by decide +kernel), List.mem_of_getElem? (i := 888) (by decide +kernel)⟩
theorem lw_p35 : lw_okq (⟨"SwitchYard$Bodies", "tankWeight", "(I)I"⟩, 4) := ⟨⟨by decide +kernel, by decide +kernel⟩, List.mem_of_getElem? (i := 228) (by decide +kernel), List.mem_of_getElem? (i := 896) (by decide +kernel), List.mem_of_getElem? (i := 897) (by decide +kernel)⟩
theorem lw_p36 : lw_okq (⟨"SwitchYard$Bodies", "flatWeight", "(I)I"⟩, 4) := ⟨⟨by decide +kernel, by decide +kernel⟩, List.mem_of_getElem? (i := 228) (by decide +kernel), List.mem_of_getElem? (i := 900) (by decide +kernel), List.mem_of_getElem? (i := 901) (by decide +kernel)⟩
theorem lw_p37 : lw_okq (⟨"SwitchYard", "linePulls", "()I"⟩, 11) := ⟨⟨by decide +kernel, by decide +kernel⟩, List.mem_of_getElem? (i := 19) (by decide +kernel), List.mem_of_getElem? (i := 904) (by decide +kernel), List.mem_of_getElem? (i := 905) (by decide +kernel)⟩
theorem lw_p38 : lw_okq (⟨"SwitchYard$Bodies", "enginePulls", "(I)I"⟩, 4) := ⟨⟨by decide +kernel, by decide +kernel⟩, List.mem_of_getElem? (i := 228) (by decide +kernel), List.mem_of_getElem? (i := 912) (by decide +kernel), List.mem_of_getElem? (i := 913) (by decide +kernel)⟩
theorem lw_p39 : lw_okq (⟨"SwitchYard$Bodies", "isFed", "(II)Z"⟩, 4) := ⟨⟨by decide +kernel, by decide +kernel⟩, List.mem_of_getElem? (i := 228) (by decide +kernel), List.mem_of_getElem? (i := 916) (by decide +kernel), List.mem_of_getElem? (i := 917) (by decide +kernel)⟩
theorem lw_p40 : lw_okq (⟨"SwitchYard$Trains", "moveLine", "(I)V"⟩, 6) := ⟨⟨by decide +kernel, by decide +kernel⟩, List.mem_of_getElem? (i := 201) (by decide +kernel), List.mem_of_getElem? (i := 926) (by decide +kernel), List.mem_of_getElem? (i := 927) (by decide +kernel)⟩
theorem lw_p41 : lw_okq (⟨"SwitchYard", "kickTo", "(II)I"⟩, 11) := ⟨⟨by decide +kernel, by decide +kernel⟩, List.mem_of_getElem? (i := 19) (by decide +kernel), List.mem_of_getElem? (i := 941) (by decide +kernel), List.mem_of_getElem? (i := 942) (by decide +kernel)⟩
theorem lw_p42 : lw_okq (⟨"SwitchYard$Trains", "runsOn", "(I)Z"⟩, 6) := ⟨⟨by decide +kernel, by decide +kernel⟩, List.mem_of_getElem? (i := 201) (by decide +kernel), List.mem_of_getElem? (i := 972) (by decide +kernel), List.mem_of_getElem? (i := 973) (by decide +kernel)⟩
theorem lw_p43 : lw_okq (⟨"SwitchYard", "testAll", "(I)I"⟩, 11) := ⟨⟨by decide +kernel, by decide +kernel⟩, List.mem_of_getElem? (i := 19) (by decide +kernel), List.mem_of_getElem? (i := 989) (by decide +kernel), List.mem_of_getElem? (i := 990) (by decide +kernel)⟩
theorem lw_p44 : lw_okq (⟨"SwitchYard$Bodies", "flatBrake", "(I)I"⟩, 4) := ⟨⟨by decide +kernel, by decide +kernel⟩, List.mem_of_getElem? (i := 228) (by decide +kernel), List.mem_of_getElem? (i := 997) (by decide +kernel), List.mem_of_getElem? (i := 998) (by decide +kernel)⟩
theorem lw_p45 : lw_okq (⟨"SwitchYard$Bodies", "engineBrake", "()I"⟩, 4) := ⟨⟨by decide +kernel, by decide +kernel⟩, List.mem_of_getElem? (i := 228) (by decide +kernel), List.mem_of_getElem? (i := 1001) (by decide +kernel), List.mem_of_getElem? (i := 1002) (by decide +kernel)⟩
theorem lw_p46 : lw_okq (⟨"SwitchYard", "leaveYard", "(I)I"⟩, 11) := ⟨⟨by decide +kernel, by decide +kernel⟩, List.mem_of_getElem? (i := 19) (by decide +kernel), List.mem_of_getElem? (i := 1014) (by decide +kernel), List.mem_of_getElem? (i := 1015) (by decide +kernel)⟩
theorem lw_p47 : lw_okq (⟨"SwitchYard$Trains", "looksOut", "(I)Z"⟩, 6) := ⟨⟨by decide +kernel, by decide +kernel⟩, List.mem_of_getElem? (i := 201) (by decide +kernel), List.mem_of_getElem? (i := 1022) (by decide +kernel), List.mem_of_getElem? (i := 1023) (by decide +kernel)⟩
def lw_privs_3 : List (MethodName × Nat) := [(⟨"SwitchYard", "partFrom", "(II)I"⟩, 11), (⟨"SwitchYard", "pullBy", "(III)I"⟩, 11), (⟨"SwitchYard", "lineWeight", "()I"⟩, 11), (⟨"SwitchYard$Bodies", "tankWeight", "(I)I"⟩, 4), (⟨"SwitchYard$Bodies", "flatWeight", "(I)I"⟩, 4), (⟨"SwitchYard", "linePulls", "()I"⟩, 11), (⟨"SwitchYard$Bodies", "enginePulls", "(I)I"⟩, 4), (⟨"SwitchYard$Bodies", "isFed", "(II)Z"⟩, 4), (⟨"SwitchYard$Trains", "moveLine", "(I)V"⟩, 6), (⟨"SwitchYard", "kickTo", "(II)I"⟩, 11), (⟨"SwitchYard$Trains", "runsOn", "(I)Z"⟩, 6), (⟨"SwitchYard", "testAll", "(I)I"⟩, 11), (⟨"SwitchYard$Bodies", "flatBrake", "(I)I"⟩, 4), (⟨"SwitchYard$Bodies", "engineBrake", "()I"⟩, 4), (⟨"SwitchYard", "leaveYard", "(I)I"⟩, 11), (⟨"SwitchYard$Trains", "looksOut", "(I)Z"⟩, 6)]
theorem lw_r3 : ∀ q ∈ lw_privs_3, lw_okq q := List.forall_mem_cons.mpr ⟨lw_p32, List.forall_mem_cons.mpr ⟨lw_p33, List.forall_mem_cons.mpr ⟨lw_p34, List.forall_mem_cons.mpr ⟨lw_p35, List.forall_mem_cons.mpr ⟨lw_p36, List.forall_mem_cons.mpr ⟨lw_p37, List.forall_mem_cons.mpr ⟨lw_p38, List.forall_mem_cons.mpr ⟨lw_p39, List.forall_mem_cons.mpr ⟨lw_p40, List.forall_mem_cons.mpr ⟨lw_p41, List.forall_mem_cons.mpr ⟨lw_p42, List.forall_mem_cons.mpr ⟨lw_p43, List.forall_mem_cons.mpr ⟨lw_p44, List.forall_mem_cons.mpr ⟨lw_p45, List.forall_mem_cons.mpr ⟨lw_p46, List.forall_mem_cons.mpr ⟨lw_p47, fun _ h => absurd h List.not_mem_nil⟩⟩⟩⟩⟩⟩⟩⟩⟩⟩⟩⟩⟩⟩⟩⟩
theorem lw_p48 : lw_okq (⟨"SwitchYard", "orZero", "(I)I"⟩, 11) := ⟨⟨by decide +kernel, by decide +kernel⟩, List.mem_of_getElem? (i := 19) (by decide +kernel), List.mem_of_getElem? (i := 1069) (by decide +kernel), List.mem_of_getElem? (i := 1070) (by decide +kernel)⟩
theorem lw_p49 : lw_okq (⟨"SwitchYard$History", "exchange", "(LSwitchYard$State;)V"⟩, 8) := ⟨⟨by decide +kernel, by decide +kernel⟩, List.mem_of_getElem? (i := 77) (by decide +kernel), List.mem_of_getElem? (i := 1128) (by decide +kernel), List.mem_of_getElem? (i := 1129) (by decide +kernel)⟩
theorem lw_p50 : lw_okq (⟨"SwitchYard", "digestThing", "(JI)J"⟩, 11) := ⟨⟨by decide +kernel, by decide +kernel⟩, List.mem_of_getElem? (i := 19) (by decide +kernel), List.mem_of_getElem? (i := 1145) (by decide +kernel), List.mem_of_getElem? (i := 1146) (by decide +kernel)⟩
theorem lw_p51 : lw_okq (⟨"SwitchYard$Plans", "drop", "()V"⟩, 9) := ⟨⟨by decide +kernel, by decide +kernel⟩, List.mem_of_getElem? (i := 247) (by decide +kernel), List.mem_of_getElem? (i := 1218) (by decide +kernel), List.mem_of_getElem? (i := 1219) (by decide +kernel)⟩
theorem lw_p52 : lw_okq (⟨"SwitchYard$Plans", "bring", "(III)Z"⟩, 9) := ⟨⟨by decide +kernel, by decide +kernel⟩, List.mem_of_getElem? (i := 247) (by decide +kernel), List.mem_of_getElem? (i := 1240) (by decide +kernel), List.mem_of_getElem? (i := 1241) (by decide +kernel)⟩
theorem lw_p53 : lw_okq (⟨"SwitchYard$Plans", "lower", "(III)Z"⟩, 9) := ⟨⟨by decide +kernel, by decide +kernel⟩, List.mem_of_getElem? (i := 247) (by decide +kernel), List.mem_of_getElem? (i := 1244) (by decide +kernel), List.mem_of_getElem? (i := 1245) (by decide +kernel)⟩
theorem lw_p54 : lw_okq (⟨"SwitchYard$Plans", "roomiest", "(II)I"⟩, 9) := ⟨⟨by decide +kernel, by decide +kernel⟩, List.mem_of_getElem? (i := 247) (by decide +kernel), List.mem_of_getElem? (i := 1248) (by decide +kernel), List.mem_of_getElem? (i := 1249) (by decide +kernel)⟩
theorem lw_p55 : lw_okq (⟨"SwitchYard$Plans", "roomLeft", "(I)I"⟩, 9) := ⟨⟨by decide +kernel, by decide +kernel⟩, List.mem_of_getElem? (i := 247) (by decide +kernel), List.mem_of_getElem? (i := 1252) (by decide +kernel), List.mem_of_getElem? (i := 1253) (by decide +kernel)⟩
theorem lw_p56 : lw_okq (⟨"SwitchYard$Plans", "moveOne", "(II)Z"⟩, 9) := ⟨⟨by decide +kernel, by decide +kernel⟩, List.mem_of_getElem? (i := 247) (by decide +kernel), List.mem_of_getElem? (i := 1256) (by decide +kernel), List.mem_of_getElem? (i := 1257) (by decide +kernel)⟩
theorem lw_p57 : lw_okq (⟨"SwitchYard$Potentials", "takeWagons", "(I)V"⟩, 16) := ⟨⟨by decide +kernel, by decide +kernel⟩, List.mem_of_getElem? (i := 266) (by decide +kernel), List.mem_of_getElem? (i := 1278) (by decide +kernel), List.mem_of_getElem? (i := 1279) (by decide +kernel)⟩
theorem lw_p58 : lw_okq (⟨"SwitchYard$Potentials", "growRows", "()V"⟩, 16) := ⟨⟨by decide +kernel, by decide +kernel⟩, List.mem_of_getElem? (i := 266) (by decide +kernel), List.mem_of_getElem? (i := 1282) (by decide +kernel), List.mem_of_getElem? (i := 1283) (by decide +kernel)⟩
theorem lw_p59 : lw_okq (⟨"SwitchYard$Potentials", "listShapes", "()V"⟩, 16) := ⟨⟨by decide +kernel, by decide +kernel⟩, List.mem_of_getElem? (i := 266) (by decide +kernel), List.mem_of_getElem? (i := 1286) (by decide +kernel), List.mem_of_getElem? (i := 1287) (by decide +kernel)⟩
theorem lw_p60 : lw_okq (⟨"SwitchYard$Potentials", "listOrders", "()V"⟩, 16) := ⟨⟨by decide +kernel, by decide +kernel⟩, List.mem_of_getElem? (i := 266) (by decide +kernel), List.mem_of_getElem? (i := 1293) (by decide +kernel), List.mem_of_getElem? (i := 1294) (by decide +kernel)⟩
theorem lw_p61 : lw_okq (⟨"SwitchYard$Potentials", "layOrder", "(I)V"⟩, 16) := ⟨⟨by decide +kernel, by decide +kernel⟩, List.mem_of_getElem? (i := 266) (by decide +kernel), List.mem_of_getElem? (i := 1297) (by decide +kernel), List.mem_of_getElem? (i := 1298) (by decide +kernel)⟩
theorem lw_p62 : lw_okq (⟨"SwitchYard$Potentials", "orderOf", "([I)I"⟩, 16) := ⟨⟨by decide +kernel, by decide +kernel⟩, List.mem_of_getElem? (i := 266) (by decide +kernel), List.mem_of_getElem? (i := 1305) (by decide +kernel), List.mem_of_getElem? (i := 1306) (by decide +kernel)⟩
theorem lw_p63 : lw_okq (⟨"SwitchYard$Potentials", "listEntries", "([I)V"⟩, 16) := ⟨⟨by decide +kernel, by decide +kernel⟩, List.mem_of_getElem? (i := 266) (by decide +kernel), List.mem_of_getElem? (i := 1310) (by decide +kernel), List.mem_of_getElem? (i := 1311) (by decide +kernel)⟩
def lw_privs_4 : List (MethodName × Nat) := [(⟨"SwitchYard", "orZero", "(I)I"⟩, 11), (⟨"SwitchYard$History", "exchange", "(LSwitchYard$State;)V"⟩, 8), (⟨"SwitchYard", "digestThing", "(JI)J"⟩, 11), (⟨"SwitchYard$Plans", "drop", "()V"⟩, 9), (⟨"SwitchYard$Plans", "bring", "(III)Z"⟩, 9), (⟨"SwitchYard$Plans", "lower", "(III)Z"⟩, 9), (⟨"SwitchYard$Plans", "roomiest", "(II)I"⟩, 9), (⟨"SwitchYard$Plans", "roomLeft", "(I)I"⟩, 9), (⟨"SwitchYard$Plans", "moveOne", "(II)Z"⟩, 9), (⟨"SwitchYard$Potentials", "takeWagons", "(I)V"⟩, 16), (⟨"SwitchYard$Potentials", "growRows", "()V"⟩, 16), (⟨"SwitchYard$Potentials", "listShapes", "()V"⟩, 16), (⟨"SwitchYard$Potentials", "listOrders", "()V"⟩, 16), (⟨"SwitchYard$Potentials", "layOrder", "(I)V"⟩, 16), (⟨"SwitchYard$Potentials", "orderOf", "([I)I"⟩, 16), (⟨"SwitchYard$Potentials", "listEntries", "([I)V"⟩, 16)]
theorem lw_r4 : ∀ q ∈ lw_privs_4, lw_okq q := List.forall_mem_cons.mpr ⟨lw_p48, List.forall_mem_cons.mpr ⟨lw_p49, List.forall_mem_cons.mpr ⟨lw_p50, List.forall_mem_cons.mpr ⟨lw_p51, List.forall_mem_cons.mpr ⟨lw_p52, List.forall_mem_cons.mpr ⟨lw_p53, List.forall_mem_cons.mpr ⟨lw_p54, List.forall_mem_cons.mpr ⟨lw_p55, List.forall_mem_cons.mpr ⟨lw_p56, List.forall_mem_cons.mpr ⟨lw_p57, List.forall_mem_cons.mpr ⟨lw_p58, List.forall_mem_cons.mpr ⟨lw_p59, List.forall_mem_cons.mpr ⟨lw_p60, List.forall_mem_cons.mpr ⟨lw_p61, List.forall_mem_cons.mpr ⟨lw_p62, List.forall_mem_cons.mpr ⟨lw_p63, fun _ h => absurd h List.not_mem_nil⟩⟩⟩⟩⟩⟩⟩⟩⟩⟩⟩⟩⟩⟩⟩⟩
theorem lw_p64 : lw_okq (⟨"SwitchYard$Potentials", "heightIn", "(II)I"⟩, 16) := ⟨⟨by decide +kernel, by decide +kernel⟩, List.mem_of_getElem? (i := 266) (by decide +kernel), List.mem_of_getElem? (i := 1314) (by decide +kernel), List.mem_of_getElem? (i := 1315) (by decide +kernel)⟩
theorem lw_p65 : lw_okq (⟨"SwitchYard$Potentials", "endIn", "(II)I"⟩, 16) := ⟨⟨by decide +kernel, by decide +kernel⟩, List.mem_of_getElem? (i := 266) (by decide +kernel), List.mem_of_getElem? (i := 1318) (by decide +kernel), List.mem_of_getElem? (i := 1319) (by decide +kernel)⟩
theorem lw_p66 : lw_okq (⟨"SwitchYard$Potentials", "shapeAfter", "(IIII)I"⟩, 16) := ⟨⟨by decide +kernel, by decide +kernel⟩, List.mem_of_getElem? (i := 266) (by decide +kernel), List.mem_of_getElem? (i := 1323) (by decide +kernel), List.mem_of_getElem? (i := 1324) (by decide +kernel)⟩
theorem lw_p67 : lw_okq (⟨"SwitchYard$Potentials", "swapBy", "(IIII)I"⟩, 16) := ⟨⟨by decide +kernel, by decide +kernel⟩, List.mem_of_getElem? (i := 266) (by decide +kernel), List.mem_of_getElem? (i := 1327) (by decide +kernel), List.mem_of_getElem? (i := 1328) (by decide +kernel)⟩
theorem lw_p68 : lw_okq (⟨"SwitchYard$Potentials", "isRank", "(I)Z"⟩, 16) := ⟨⟨by decide +kernel, by decide +kernel⟩, List.mem_of_getElem? (i := 266) (by decide +kernel), List.mem_of_getElem? (i := 1338) (by decide +kernel), List.mem_of_getElem? (i := 1339) (by decide +kernel)⟩
theorem lw_p69 : lw_okq (⟨"SwitchYard$Plans", "hasPotential", "(I)Z"⟩, 9) := ⟨⟨by decide +kernel, by decide +kernel⟩, List.mem_of_getElem? (i := 247) (by decide +kernel), List.mem_of_getElem? (i := 1390) (by decide +kernel), List.mem_of_getElem? (i := 1391) (by decide +kernel)⟩
theorem lw_p70 : lw_okq (⟨"SwitchYard$Plans", "leadsToGoal", "()Z"⟩, 9) := ⟨⟨by decide +kernel, by decide +kernel⟩, List.mem_of_getElem? (i := 247) (by decide +kernel), List.mem_of_getElem? (i := 1415) (by decide +kernel), List.mem_of_getElem? (i := 1416) (by decide +kernel)⟩
theorem lw_p71 : lw_okq (⟨"SwitchYard$Potentials", "isProved", "(I)Z"⟩, 16) := ⟨⟨by decide +kernel, by decide +kernel⟩, List.mem_of_getElem? (i := 266) (by decide +kernel), List.mem_of_getElem? (i := 1428) (by decide +kernel), List.mem_of_getElem? (i := 1429) (by decide +kernel)⟩
theorem lw_p72 : lw_okq (⟨"SwitchYardModel", "begin", "()V"⟩, 89) := ⟨⟨by decide +kernel, by decide +kernel⟩, List.mem_of_getElem? (i := 1432) (by decide +kernel), List.mem_of_getElem? (i := 1718) (by decide +kernel), List.mem_of_getElem? (i := 1719) (by decide +kernel)⟩
theorem lw_p73 : lw_okq (⟨"SwitchYardModel", "found", "(I)I"⟩, 89) := ⟨⟨by decide +kernel, by decide +kernel⟩, List.mem_of_getElem? (i := 1432) (by decide +kernel), List.mem_of_getElem? (i := 1722) (by decide +kernel), List.mem_of_getElem? (i := 1723) (by decide +kernel)⟩
theorem lw_p74 : lw_okq (⟨"SwitchYardModel", "forget", "()V"⟩, 89) := ⟨⟨by decide +kernel, by decide +kernel⟩, List.mem_of_getElem? (i := 1432) (by decide +kernel), List.mem_of_getElem? (i := 1726) (by decide +kernel), List.mem_of_getElem? (i := 1727) (by decide +kernel)⟩
theorem lw_p75 : lw_okq (⟨"SwitchYardModel", "missTrack", "(I)I"⟩, 89) := ⟨⟨by decide +kernel, by decide +kernel⟩, List.mem_of_getElem? (i := 1432) (by decide +kernel), List.mem_of_getElem? (i := 1737) (by decide +kernel), List.mem_of_getElem? (i := 1738) (by decide +kernel)⟩
theorem lw_p76 : lw_okq (⟨"SwitchYardModel", "ends", "(I)Z"⟩, 89) := ⟨⟨by decide +kernel, by decide +kernel⟩, List.mem_of_getElem? (i := 1432) (by decide +kernel), List.mem_of_getElem? (i := 1741) (by decide +kernel), List.mem_of_getElem? (i := 1742) (by decide +kernel)⟩
theorem lw_p77 : lw_okq (⟨"SwitchYardModel", "mostLinks", "(I)I"⟩, 89) := ⟨⟨by decide +kernel, by decide +kernel⟩, List.mem_of_getElem? (i := 1432) (by decide +kernel), List.mem_of_getElem? (i := 1749) (by decide +kernel), List.mem_of_getElem? (i := 1750) (by decide +kernel)⟩
theorem lw_p78 : lw_okq (⟨"SwitchYardModel", "missRoute", "(I)I"⟩, 89) := ⟨⟨by decide +kernel, by decide +kernel⟩, List.mem_of_getElem? (i := 1432) (by decide +kernel), List.mem_of_getElem? (i := 1773) (by decide +kernel), List.mem_of_getElem? (i := 1774) (by decide +kernel)⟩
theorem lw_p79 : lw_okq (⟨"SwitchYardModel", "missPoint", "(I)I"⟩, 89) := ⟨⟨by decide +kernel, by decide +kernel⟩, List.mem_of_getElem? (i := 1432) (by decide +kernel), List.mem_of_getElem? (i := 1777) (by decide +kernel), List.mem_of_getElem? (i := 1778) (by decide +kernel)⟩
def lw_privs_5 : List (MethodName × Nat) := [(⟨"SwitchYard$Potentials", "heightIn", "(II)I"⟩, 16), (⟨"SwitchYard$Potentials", "endIn", "(II)I"⟩, 16), (⟨"SwitchYard$Potentials", "shapeAfter", "(IIII)I"⟩, 16), (⟨"SwitchYard$Potentials", "swapBy", "(IIII)I"⟩, 16), (⟨"SwitchYard$Potentials", "isRank", "(I)Z"⟩, 16), (⟨"SwitchYard$Plans", "hasPotential", "(I)Z"⟩, 9), (⟨"SwitchYard$Plans", "leadsToGoal", "()Z"⟩, 9), (⟨"SwitchYard$Potentials", "isProved", "(I)Z"⟩, 16), (⟨"SwitchYardModel", "begin", "()V"⟩, 89), (⟨"SwitchYardModel", "found", "(I)I"⟩, 89), (⟨"SwitchYardModel", "forget", "()V"⟩, 89), (⟨"SwitchYardModel", "missTrack", "(I)I"⟩, 89), (⟨"SwitchYardModel", "ends", "(I)Z"⟩, 89), (⟨"SwitchYardModel", "mostLinks", "(I)I"⟩, 89), (⟨"SwitchYardModel", "missRoute", "(I)I"⟩, 89), (⟨"SwitchYardModel", "missPoint", "(I)I"⟩, 89)]
theorem lw_r5 : ∀ q ∈ lw_privs_5, lw_okq q := List.forall_mem_cons.mpr ⟨lw_p64, List.forall_mem_cons.mpr ⟨lw_p65, List.forall_mem_cons.mpr ⟨lw_p66, List.forall_mem_cons.mpr ⟨lw_p67, List.forall_mem_cons.mpr ⟨lw_p68, List.forall_mem_cons.mpr ⟨lw_p69, List.forall_mem_cons.mpr ⟨lw_p70, List.forall_mem_cons.mpr ⟨lw_p71, List.forall_mem_cons.mpr ⟨lw_p72, List.forall_mem_cons.mpr ⟨lw_p73, List.forall_mem_cons.mpr ⟨lw_p74, List.forall_mem_cons.mpr ⟨lw_p75, List.forall_mem_cons.mpr ⟨lw_p76, List.forall_mem_cons.mpr ⟨lw_p77, List.forall_mem_cons.mpr ⟨lw_p78, List.forall_mem_cons.mpr ⟨lw_p79, fun _ h => absurd h List.not_mem_nil⟩⟩⟩⟩⟩⟩⟩⟩⟩⟩⟩⟩⟩⟩⟩⟩
theorem lw_p80 : lw_okq (⟨"SwitchYardModel", "isLocking", "(I)Z"⟩, 89) := ⟨⟨by decide +kernel, by decide +kernel⟩, List.mem_of_getElem? (i := 1432) (by decide +kernel), List.mem_of_getElem? (i := 1781) (by decide +kernel), List.mem_of_getElem? (i := 1782) (by decide +kernel)⟩
theorem lw_p81 : lw_okq (⟨"SwitchYardModel", "missFree", "(II)I"⟩, 89) := ⟨⟨by decide +kernel, by decide +kernel⟩, List.mem_of_getElem? (i := 1432) (by decide +kernel), List.mem_of_getElem? (i := 1789) (by decide +kernel), List.mem_of_getElem? (i := 1790) (by decide +kernel)⟩
theorem lw_p82 : lw_okq (⟨"SwitchYardModel", "missPlace", "(II)I"⟩, 89) := ⟨⟨by decide +kernel, by decide +kernel⟩, List.mem_of_getElem? (i := 1432) (by decide +kernel), List.mem_of_getElem? (i := 1793) (by decide +kernel), List.mem_of_getElem? (i := 1794) (by decide +kernel)⟩
theorem lw_p83 : lw_okq (⟨"SwitchYardModel", "standing", "(II)I"⟩, 89) := ⟨⟨by decide +kernel, by decide +kernel⟩, List.mem_of_getElem? (i := 1432) (by decide +kernel), List.mem_of_getElem? (i := 1797) (by decide +kernel), List.mem_of_getElem? (i := 1798) (by decide +kernel)⟩
theorem lw_p84 : lw_okq (⟨"SwitchYardModel", "put", "(IIIII)I"⟩, 89) := ⟨⟨by decide +kernel, by decide +kernel⟩, List.mem_of_getElem? (i := 1432) (by decide +kernel), List.mem_of_getElem? (i := 1801) (by decide +kernel), List.mem_of_getElem? (i := 1802) (by decide +kernel)⟩
theorem lw_p85 : lw_okq (⟨"SwitchYardModel", "missThing", "(II)I"⟩, 89) := ⟨⟨by decide +kernel, by decide +kernel⟩, List.mem_of_getElem? (i := 1432) (by decide +kernel), List.mem_of_getElem? (i := 1813) (by decide +kernel), List.mem_of_getElem? (i := 1814) (by decide +kernel)⟩
theorem lw_p86 : lw_okq (⟨"SwitchYardModel", "isSuch", "(II)Z"⟩, 89) := ⟨⟨by decide +kernel, by decide +kernel⟩, List.mem_of_getElem? (i := 1432) (by decide +kernel), List.mem_of_getElem? (i := 1817) (by decide +kernel), List.mem_of_getElem? (i := 1818) (by decide +kernel)⟩
theorem lw_p87 : lw_okq (⟨"SwitchYardModel", "save", "(I)V"⟩, 89) := ⟨⟨by decide +kernel, by decide +kernel⟩, List.mem_of_getElem? (i := 1432) (by decide +kernel), List.mem_of_getElem? (i := 1829) (by decide +kernel), List.mem_of_getElem? (i := 1830) (by decide +kernel)⟩
theorem lw_p88 : lw_okq (⟨"SwitchYardModel", "restore", "(I)V"⟩, 89) := ⟨⟨by decide +kernel, by decide +kernel⟩, List.mem_of_getElem? (i := 1432) (by decide +kernel), List.mem_of_getElem? (i := 1833) (by decide +kernel), List.mem_of_getElem? (i := 1834) (by decide +kernel)⟩
theorem lw_p89 : lw_okq (⟨"SwitchYardModel", "keep", "()V"⟩, 89) := ⟨⟨by decide +kernel, by decide +kernel⟩, List.mem_of_getElem? (i := 1432) (by decide +kernel), List.mem_of_getElem? (i := 1849) (by decide +kernel), List.mem_of_getElem? (i := 1850) (by decide +kernel)⟩
theorem lw_p90 : lw_okq (⟨"SwitchYardModel", "entered", "(II)I"⟩, 89) := ⟨⟨by decide +kernel, by decide +kernel⟩, List.mem_of_getElem? (i := 1432) (by decide +kernel), List.mem_of_getElem? (i := 1853) (by decide +kernel), List.mem_of_getElem? (i := 1854) (by decide +kernel)⟩
theorem lw_p91 : lw_okq (⟨"SwitchYardModel", "raised", "(I)I"⟩, 89) := ⟨⟨by decide +kernel, by decide +kernel⟩, List.mem_of_getElem? (i := 1432) (by decide +kernel), List.mem_of_getElem? (i := 1869) (by decide +kernel), List.mem_of_getElem? (i := 1870) (by decide +kernel)⟩
theorem lw_p92 : lw_okq (⟨"SwitchYardModel", "missTurn", "(II)I"⟩, 89) := ⟨⟨by decide +kernel, by decide +kernel⟩, List.mem_of_getElem? (i := 1432) (by decide +kernel), List.mem_of_getElem? (i := 1877) (by decide +kernel), List.mem_of_getElem? (i := 1878) (by decide +kernel)⟩
theorem lw_p93 : lw_okq (⟨"SwitchYardModel", "isUnder", "(I)Z"⟩, 89) := ⟨⟨by decide +kernel, by decide +kernel⟩, List.mem_of_getElem? (i := 1432) (by decide +kernel), List.mem_of_getElem? (i := 1881) (by decide +kernel), List.mem_of_getElem? (i := 1882) (by decide +kernel)⟩
theorem lw_p94 : lw_okq (⟨"SwitchYardModel", "placeAtEnd", "(I)I"⟩, 89) := ⟨⟨by decide +kernel, by decide +kernel⟩, List.mem_of_getElem? (i := 1432) (by decide +kernel), List.mem_of_getElem? (i := 1885) (by decide +kernel), List.mem_of_getElem? (i := 1886) (by decide +kernel)⟩
theorem lw_p95 : lw_okq (⟨"SwitchYardModel", "missEntry", "(I)I"⟩, 89) := ⟨⟨by decide +kernel, by decide +kernel⟩, List.mem_of_getElem? (i := 1432) (by decide +kernel), List.mem_of_getElem? (i := 1893) (by decide +kernel), List.mem_of_getElem? (i := 1894) (by decide +kernel)⟩
def lw_privs_6 : List (MethodName × Nat) := [(⟨"SwitchYardModel", "isLocking", "(I)Z"⟩, 89), (⟨"SwitchYardModel", "missFree", "(II)I"⟩, 89), (⟨"SwitchYardModel", "missPlace", "(II)I"⟩, 89), (⟨"SwitchYardModel", "standing", "(II)I"⟩, 89), (⟨"SwitchYardModel", "put", "(IIIII)I"⟩, 89), (⟨"SwitchYardModel", "missThing", "(II)I"⟩, 89), (⟨"SwitchYardModel", "isSuch", "(II)Z"⟩, 89), (⟨"SwitchYardModel", "save", "(I)V"⟩, 89), (⟨"SwitchYardModel", "restore", "(I)V"⟩, 89), (⟨"SwitchYardModel", "keep", "()V"⟩, 89), (⟨"SwitchYardModel", "entered", "(II)I"⟩, 89), (⟨"SwitchYardModel", "raised", "(I)I"⟩, 89), (⟨"SwitchYardModel", "missTurn", "(II)I"⟩, 89), (⟨"SwitchYardModel", "isUnder", "(I)Z"⟩, 89), (⟨"SwitchYardModel", "placeAtEnd", "(I)I"⟩, 89), (⟨"SwitchYardModel", "missEntry", "(I)I"⟩, 89)]
theorem lw_r6 : ∀ q ∈ lw_privs_6, lw_okq q := List.forall_mem_cons.mpr ⟨lw_p80, List.forall_mem_cons.mpr ⟨lw_p81, List.forall_mem_cons.mpr ⟨lw_p82, List.forall_mem_cons.mpr ⟨lw_p83, List.forall_mem_cons.mpr ⟨lw_p84, List.forall_mem_cons.mpr ⟨lw_p85, List.forall_mem_cons.mpr ⟨lw_p86, List.forall_mem_cons.mpr ⟨lw_p87, List.forall_mem_cons.mpr ⟨lw_p88, List.forall_mem_cons.mpr ⟨lw_p89, List.forall_mem_cons.mpr ⟨lw_p90, List.forall_mem_cons.mpr ⟨lw_p91, List.forall_mem_cons.mpr ⟨lw_p92, List.forall_mem_cons.mpr ⟨lw_p93, List.forall_mem_cons.mpr ⟨lw_p94, List.forall_mem_cons.mpr ⟨lw_p95, fun _ h => absurd h List.not_mem_nil⟩⟩⟩⟩⟩⟩⟩⟩⟩⟩⟩⟩⟩⟩⟩⟩
theorem lw_p96 : lw_okq (⟨"SwitchYardModel", "missCouple", "(II)I"⟩, 89) := ⟨⟨by decide +kernel, by decide +kernel⟩, List.mem_of_getElem? (i := 1432) (by decide +kernel), List.mem_of_getElem? (i := 1905) (by decide +kernel), List.mem_of_getElem? (i := 1906) (by decide +kernel)⟩
theorem lw_p97 : lw_okq (⟨"SwitchYardModel", "missSide", "(III)I"⟩, 89) := ⟨⟨by decide +kernel, by decide +kernel⟩, List.mem_of_getElem? (i := 1432) (by decide +kernel), List.mem_of_getElem? (i := 1909) (by decide +kernel), List.mem_of_getElem? (i := 1910) (by decide +kernel)⟩
theorem lw_p98 : lw_okq (⟨"SwitchYardModel", "wayOf", "(II)I"⟩, 89) := ⟨⟨by decide +kernel, by decide +kernel⟩, List.mem_of_getElem? (i := 1432) (by decide +kernel), List.mem_of_getElem? (i := 1913) (by decide +kernel), List.mem_of_getElem? (i := 1914) (by decide +kernel)⟩
theorem lw_p99 : lw_okq (⟨"SwitchYardModel", "isOpen", "(III)Z"⟩, 89) := ⟨⟨by decide +kernel, by decide +kernel⟩, List.mem_of_getElem? (i := 1432) (by decide +kernel), List.mem_of_getElem? (i := 1917) (by decide +kernel), List.mem_of_getElem? (i := 1918) (by decide +kernel)⟩
theorem lw_p100 : lw_okq (⟨"SwitchYardModel", "openLink", "(I)I"⟩, 89) := ⟨⟨by decide +kernel, by decide +kernel⟩, List.mem_of_getElem? (i := 1432) (by decide +kernel), List.mem_of_getElem? (i := 1921) (by decide +kernel), List.mem_of_getElem? (i := 1922) (by decide +kernel)⟩
theorem lw_p101 : lw_okq (⟨"SwitchYardModel", "areTogether", "(II)Z"⟩, 89) := ⟨⟨by decide +kernel, by decide +kernel⟩, List.mem_of_getElem? (i := 1432) (by decide +kernel), List.mem_of_getElem? (i := 1925) (by decide +kernel), List.mem_of_getElem? (i := 1926) (by decide +kernel)⟩
theorem lw_p102 : lw_okq (⟨"SwitchYardModel", "lineUp", "(I)V"⟩, 89) := ⟨⟨by decide +kernel, by decide +kernel⟩, List.mem_of_getElem? (i := 1432) (by decide +kernel), List.mem_of_getElem? (i := 1929) (by decide +kernel), List.mem_of_getElem? (i := 1930) (by decide +kernel)⟩
theorem lw_p103 : lw_okq (⟨"SwitchYardModel", "sideTo", "(II)I"⟩, 89) := ⟨⟨by decide +kernel, by decide +kernel⟩, List.mem_of_getElem? (i := 1432) (by decide +kernel), List.mem_of_getElem? (i := 1933) (by decide +kernel), List.mem_of_getElem? (i := 1934) (by decide +kernel)⟩
theorem lw_p104 : lw_okq (⟨"SwitchYardModel", "suits", "(II)Z"⟩, 89) := ⟨⟨by decide +kernel, by decide +kernel⟩, List.mem_of_getElem? (i := 1432) (by decide +kernel), List.mem_of_getElem? (i := 1937) (by decide +kernel), List.mem_of_getElem? (i := 1938) (by decide +kernel)⟩
theorem lw_p105 : lw_okq (⟨"SwitchYardModel", "note", "(I)V"⟩, 89) := ⟨⟨by decide +kernel, by decide +kernel⟩, List.mem_of_getElem? (i := 1432) (by decide +kernel), List.mem_of_getElem? (i := 1941) (by decide +kernel), List.mem_of_getElem? (i := 1942) (by decide +kernel)⟩
theorem lw_p106 : lw_okq (⟨"SwitchYardModel", "renumber", "(I)V"⟩, 89) := ⟨⟨by decide +kernel, by decide +kernel⟩, List.mem_of_getElem? (i := 1432) (by decide +kernel), List.mem_of_getElem? (i := 1945) (by decide +kernel), List.mem_of_getElem? (i := 1946) (by decide +kernel)⟩
theorem lw_p107 : lw_okq (⟨"SwitchYardModel", "missPull", "(II)I"⟩, 89) := ⟨⟨by decide +kernel, by decide +kernel⟩, List.mem_of_getElem? (i := 1432) (by decide +kernel), List.mem_of_getElem? (i := 1957) (by decide +kernel), List.mem_of_getElem? (i := 1958) (by decide +kernel)⟩
theorem lw_p108 : lw_okq (⟨"SwitchYardModel", "weight", "(I)I"⟩, 89) := ⟨⟨by decide +kernel, by decide +kernel⟩, List.mem_of_getElem? (i := 1432) (by decide +kernel), List.mem_of_getElem? (i := 1961) (by decide +kernel), List.mem_of_getElem? (i := 1962) (by decide +kernel)⟩
theorem lw_p109 : lw_okq (⟨"SwitchYardModel", "loaded", "(I)I"⟩, 89) := ⟨⟨by decide +kernel, by decide +kernel⟩, List.mem_of_getElem? (i := 1432) (by decide +kernel), List.mem_of_getElem? (i := 1965) (by decide +kernel), List.mem_of_getElem? (i := 1966) (by decide +kernel)⟩
theorem lw_p110 : lw_okq (⟨"SwitchYardModel", "pulls", "(I)I"⟩, 89) := ⟨⟨by decide +kernel, by decide +kernel⟩, List.mem_of_getElem? (i := 1432) (by decide +kernel), List.mem_of_getElem? (i := 1969) (by decide +kernel), List.mem_of_getElem? (i := 1970) (by decide +kernel)⟩
theorem lw_p111 : lw_okq (⟨"SwitchYardModel", "hasEngine", "(I)Z"⟩, 89) := ⟨⟨by decide +kernel, by decide +kernel⟩, List.mem_of_getElem? (i := 1432) (by decide +kernel), List.mem_of_getElem? (i := 1973) (by decide +kernel), List.mem_of_getElem? (i := 1974) (by decide +kernel)⟩
def lw_privs_7 : List (MethodName × Nat) := [(⟨"SwitchYardModel", "missCouple", "(II)I"⟩, 89), (⟨"SwitchYardModel", "missSide", "(III)I"⟩, 89), (⟨"SwitchYardModel", "wayOf", "(II)I"⟩, 89), (⟨"SwitchYardModel", "isOpen", "(III)Z"⟩, 89), (⟨"SwitchYardModel", "openLink", "(I)I"⟩, 89), (⟨"SwitchYardModel", "areTogether", "(II)Z"⟩, 89), (⟨"SwitchYardModel", "lineUp", "(I)V"⟩, 89), (⟨"SwitchYardModel", "sideTo", "(II)I"⟩, 89), (⟨"SwitchYardModel", "suits", "(II)Z"⟩, 89), (⟨"SwitchYardModel", "note", "(I)V"⟩, 89), (⟨"SwitchYardModel", "renumber", "(I)V"⟩, 89), (⟨"SwitchYardModel", "missPull", "(II)I"⟩, 89), (⟨"SwitchYardModel", "weight", "(I)I"⟩, 89), (⟨"SwitchYardModel", "loaded", "(I)I"⟩, 89), (⟨"SwitchYardModel", "pulls", "(I)I"⟩, 89), (⟨"SwitchYardModel", "hasEngine", "(I)Z"⟩, 89)]
theorem lw_r7 : ∀ q ∈ lw_privs_7, lw_okq q := List.forall_mem_cons.mpr ⟨lw_p96, List.forall_mem_cons.mpr ⟨lw_p97, List.forall_mem_cons.mpr ⟨lw_p98, List.forall_mem_cons.mpr ⟨lw_p99, List.forall_mem_cons.mpr ⟨lw_p100, List.forall_mem_cons.mpr ⟨lw_p101, List.forall_mem_cons.mpr ⟨lw_p102, List.forall_mem_cons.mpr ⟨lw_p103, List.forall_mem_cons.mpr ⟨lw_p104, List.forall_mem_cons.mpr ⟨lw_p105, List.forall_mem_cons.mpr ⟨lw_p106, List.forall_mem_cons.mpr ⟨lw_p107, List.forall_mem_cons.mpr ⟨lw_p108, List.forall_mem_cons.mpr ⟨lw_p109, List.forall_mem_cons.mpr ⟨lw_p110, List.forall_mem_cons.mpr ⟨lw_p111, fun _ h => absurd h List.not_mem_nil⟩⟩⟩⟩⟩⟩⟩⟩⟩⟩⟩⟩⟩⟩⟩⟩
theorem lw_p112 : lw_okq (⟨"SwitchYardModel", "follow", "(II)V"⟩, 89) := ⟨⟨by decide +kernel, by decide +kernel⟩, List.mem_of_getElem? (i := 1432) (by decide +kernel), List.mem_of_getElem? (i := 1977) (by decide +kernel), List.mem_of_getElem? (i := 1978) (by decide +kernel)⟩
theorem lw_p113 : lw_okq (⟨"SwitchYardModel", "missStep", "()I"⟩, 89) := ⟨⟨by decide +kernel, by decide +kernel⟩, List.mem_of_getElem? (i := 1432) (by decide +kernel), List.mem_of_getElem? (i := 1981) (by decide +kernel), List.mem_of_getElem? (i := 1982) (by decide +kernel)⟩
theorem lw_p114 : lw_okq (⟨"SwitchYardModel", "goOn", "()V"⟩, 89) := ⟨⟨by decide +kernel, by decide +kernel⟩, List.mem_of_getElem? (i := 1432) (by decide +kernel), List.mem_of_getElem? (i := 1985) (by decide +kernel), List.mem_of_getElem? (i := 1986) (by decide +kernel)⟩
theorem lw_p115 : lw_okq (⟨"SwitchYardModel", "place", "(IIIII)V"⟩, 89) := ⟨⟨by decide +kernel, by decide +kernel⟩, List.mem_of_getElem? (i := 1432) (by decide +kernel), List.mem_of_getElem? (i := 1989) (by decide +kernel), List.mem_of_getElem? (i := 1990) (by decide +kernel)⟩
theorem lw_p116 : lw_okq (⟨"SwitchYardModel", "heavy", "(I)I"⟩, 89) := ⟨⟨by decide +kernel, by decide +kernel⟩, List.mem_of_getElem? (i := 1432) (by decide +kernel), List.mem_of_getElem? (i := 1997) (by decide +kernel), List.mem_of_getElem? (i := 1998) (by decide +kernel)⟩
theorem lw_p117 : lw_okq (⟨"SwitchYardModel", "nextRunning", "(I)I"⟩, 89) := ⟨⟨by decide +kernel, by decide +kernel⟩, List.mem_of_getElem? (i := 1432) (by decide +kernel), List.mem_of_getElem? (i := 2005) (by decide +kernel), List.mem_of_getElem? (i := 2006) (by decide +kernel)⟩
theorem lw_p118 : lw_okq (⟨"SwitchYardModel", "run", "(I)V"⟩, 89) := ⟨⟨by decide +kernel, by decide +kernel⟩, List.mem_of_getElem? (i := 1432) (by decide +kernel), List.mem_of_getElem? (i := 2009) (by decide +kernel), List.mem_of_getElem? (i := 2010) (by decide +kernel)⟩
theorem lw_p119 : lw_okq (⟨"SwitchYardModel", "stop", "(I)V"⟩, 89) := ⟨⟨by decide +kernel, by decide +kernel⟩, List.mem_of_getElem? (i := 1432) (by decide +kernel), List.mem_of_getElem? (i := 2013) (by decide +kernel), List.mem_of_getElem? (i := 2014) (by decide +kernel)⟩
theorem lw_p120 : lw_okq (⟨"SwitchYardModel", "running", "()I"⟩, 89) := ⟨⟨by decide +kernel, by decide +kernel⟩, List.mem_of_getElem? (i := 1432) (by decide +kernel), List.mem_of_getElem? (i := 2017) (by decide +kernel), List.mem_of_getElem? (i := 2018) (by decide +kernel)⟩
theorem lw_p121 : lw_okq (⟨"SwitchYardModel", "brake", "(I)I"⟩, 89) := ⟨⟨by decide +kernel, by decide +kernel⟩, List.mem_of_getElem? (i := 1432) (by decide +kernel), List.mem_of_getElem? (i := 2025) (by decide +kernel), List.mem_of_getElem? (i := 2026) (by decide +kernel)⟩
theorem lw_p122 : lw_okq (⟨"SwitchYardModel", "perAxle", "(I)I"⟩, 89) := ⟨⟨by decide +kernel, by decide +kernel⟩, List.mem_of_getElem? (i := 1432) (by decide +kernel), List.mem_of_getElem? (i := 2029) (by decide +kernel), List.mem_of_getElem? (i := 2030) (by decide +kernel)⟩
theorem lw_p123 : lw_okq (⟨"SwitchYardModel", "missLeave", "(I)I"⟩, 89) := ⟨⟨by decide +kernel, by decide +kernel⟩, List.mem_of_getElem? (i := 1432) (by decide +kernel), List.mem_of_getElem? (i := 2037) (by decide +kernel), List.mem_of_getElem? (i := 2038) (by decide +kernel)⟩
theorem lw_p124 : lw_okq (⟨"SwitchYardModel", "mayLeave", "(II)Z"⟩, 89) := ⟨⟨by decide +kernel, by decide +kernel⟩, List.mem_of_getElem? (i := 1432) (by decide +kernel), List.mem_of_getElem? (i := 2041) (by decide +kernel), List.mem_of_getElem? (i := 2042) (by decide +kernel)⟩
theorem lw_p125 : lw_okq (⟨"SwitchYardModel", "laid", "([I[III)I"⟩, 89) := ⟨⟨by decide +kernel, by decide +kernel⟩, List.mem_of_getElem? (i := 1432) (by decide +kernel), List.mem_of_getElem? (i := 2107) (by decide +kernel), List.mem_of_getElem? (i := 2108) (by decide +kernel)⟩
theorem lw_p126 : lw_okq (⟨"SwitchYardModel", "areSame", "()Z"⟩, 89) := ⟨⟨by decide +kernel, by decide +kernel⟩, List.mem_of_getElem? (i := 1432) (by decide +kernel), List.mem_of_getElem? (i := 2125) (by decide +kernel), List.mem_of_getElem? (i := 2126) (by decide +kernel)⟩
theorem lw_p127 : lw_okq (⟨"SwitchYardModel", "byRule", "()Z"⟩, 89) := ⟨⟨by decide +kernel, by decide +kernel⟩, List.mem_of_getElem? (i := 1432) (by decide +kernel), List.mem_of_getElem? (i := 2129) (by decide +kernel), List.mem_of_getElem? (i := 2130) (by decide +kernel)⟩
def lw_privs_8 : List (MethodName × Nat) := [(⟨"SwitchYardModel", "follow", "(II)V"⟩, 89), (⟨"SwitchYardModel", "missStep", "()I"⟩, 89), (⟨"SwitchYardModel", "goOn", "()V"⟩, 89), (⟨"SwitchYardModel", "place", "(IIIII)V"⟩, 89), (⟨"SwitchYardModel", "heavy", "(I)I"⟩, 89), (⟨"SwitchYardModel", "nextRunning", "(I)I"⟩, 89), (⟨"SwitchYardModel", "run", "(I)V"⟩, 89), (⟨"SwitchYardModel", "stop", "(I)V"⟩, 89), (⟨"SwitchYardModel", "running", "()I"⟩, 89), (⟨"SwitchYardModel", "brake", "(I)I"⟩, 89), (⟨"SwitchYardModel", "perAxle", "(I)I"⟩, 89), (⟨"SwitchYardModel", "missLeave", "(I)I"⟩, 89), (⟨"SwitchYardModel", "mayLeave", "(II)Z"⟩, 89), (⟨"SwitchYardModel", "laid", "([I[III)I"⟩, 89), (⟨"SwitchYardModel", "areSame", "()Z"⟩, 89), (⟨"SwitchYardModel", "byRule", "()Z"⟩, 89)]
theorem lw_r8 : ∀ q ∈ lw_privs_8, lw_okq q := List.forall_mem_cons.mpr ⟨lw_p112, List.forall_mem_cons.mpr ⟨lw_p113, List.forall_mem_cons.mpr ⟨lw_p114, List.forall_mem_cons.mpr ⟨lw_p115, List.forall_mem_cons.mpr ⟨lw_p116, List.forall_mem_cons.mpr ⟨lw_p117, List.forall_mem_cons.mpr ⟨lw_p118, List.forall_mem_cons.mpr ⟨lw_p119, List.forall_mem_cons.mpr ⟨lw_p120, List.forall_mem_cons.mpr ⟨lw_p121, List.forall_mem_cons.mpr ⟨lw_p122, List.forall_mem_cons.mpr ⟨lw_p123, List.forall_mem_cons.mpr ⟨lw_p124, List.forall_mem_cons.mpr ⟨lw_p125, List.forall_mem_cons.mpr ⟨lw_p126, List.forall_mem_cons.mpr ⟨lw_p127, fun _ h => absurd h List.not_mem_nil⟩⟩⟩⟩⟩⟩⟩⟩⟩⟩⟩⟩⟩⟩⟩⟩
theorem lw_p128 : lw_okq (⟨"SwitchYardModel", "take", "(Z)V"⟩, 89) := ⟨⟨by decide +kernel, by decide +kernel⟩, List.mem_of_getElem? (i := 1432) (by decide +kernel), List.mem_of_getElem? (i := 2133) (by decide +kernel), List.mem_of_getElem? (i := 2134) (by decide +kernel)⟩
theorem lw_p129 : lw_okq (⟨"SwitchYardModel", "widest", "(II)I"⟩, 89) := ⟨⟨by decide +kernel, by decide +kernel⟩, List.mem_of_getElem? (i := 1432) (by decide +kernel), List.mem_of_getElem? (i := 2137) (by decide +kernel), List.mem_of_getElem? (i := 2138) (by decide +kernel)⟩
theorem lw_p130 : lw_okq (⟨"SwitchYardModel", "carries", "(II)Z"⟩, 89) := ⟨⟨by decide +kernel, by decide +kernel⟩, List.mem_of_getElem? (i := 1432) (by decide +kernel), List.mem_of_getElem? (i := 2141) (by decide +kernel), List.mem_of_getElem? (i := 2142) (by decide +kernel)⟩
theorem lw_p131 : lw_okq (⟨"SwitchYardModel", "mayMove", "(III)Z"⟩, 89) := ⟨⟨by decide +kernel, by decide +kernel⟩, List.mem_of_getElem? (i := 1432) (by decide +kernel), List.mem_of_getElem? (i := 2145) (by decide +kernel), List.mem_of_getElem? (i := 2146) (by decide +kernel)⟩
theorem lw_p132 : lw_okq (⟨"SwitchYardModel", "shift", "(III)V"⟩, 89) := ⟨⟨by decide +kernel, by decide +kernel⟩, List.mem_of_getElem? (i := 1432) (by decide +kernel), List.mem_of_getElem? (i := 2149) (by decide +kernel), List.mem_of_getElem? (i := 2150) (by decide +kernel)⟩
theorem lw_p133 : lw_okq (⟨"SwitchYardModel", "stackOf", "(I)I"⟩, 89) := ⟨⟨by decide +kernel, by decide +kernel⟩, List.mem_of_getElem? (i := 1432) (by decide +kernel), List.mem_of_getElem? (i := 2153) (by decide +kernel), List.mem_of_getElem? (i := 2154) (by decide +kernel)⟩
theorem lw_p134 : lw_okq (⟨"SwitchYardModel", "measure", "()V"⟩, 89) := ⟨⟨by decide +kernel, by decide +kernel⟩, List.mem_of_getElem? (i := 1432) (by decide +kernel), List.mem_of_getElem? (i := 2157) (by decide +kernel), List.mem_of_getElem? (i := 2158) (by decide +kernel)⟩
theorem lw_p135 : lw_okq (⟨"SwitchYardModel", "code", "()I"⟩, 89) := ⟨⟨by decide +kernel, by decide +kernel⟩, List.mem_of_getElem? (i := 1432) (by decide +kernel), List.mem_of_getElem? (i := 2161) (by decide +kernel), List.mem_of_getElem? (i := 2162) (by decide +kernel)⟩
theorem lw_p136 : lw_okq (⟨"SwitchYardModel", "rankOf", "(I)I"⟩, 89) := ⟨⟨by decide +kernel, by decide +kernel⟩, List.mem_of_getElem? (i := 1432) (by decide +kernel), List.mem_of_getElem? (i := 2165) (by decide +kernel), List.mem_of_getElem? (i := 2166) (by decide +kernel)⟩
theorem lw_p137 : lw_okq (⟨"SwitchYardModel", "decode", "(I)V"⟩, 89) := ⟨⟨by decide +kernel, by decide +kernel⟩, List.mem_of_getElem? (i := 1432) (by decide +kernel), List.mem_of_getElem? (i := 2169) (by decide +kernel), List.mem_of_getElem? (i := 2170) (by decide +kernel)⟩
theorem lw_p138 : lw_okq (⟨"SwitchYardModel", "wander", "(I)V"⟩, 89) := ⟨⟨by decide +kernel, by decide +kernel⟩, List.mem_of_getElem? (i := 1432) (by decide +kernel), List.mem_of_getElem? (i := 2173) (by decide +kernel), List.mem_of_getElem? (i := 2174) (by decide +kernel)⟩
theorem lw_p139 : lw_okq (⟨"SwitchYardModel", "hasFallen", "(IIII)Z"⟩, 89) := ⟨⟨by decide +kernel, by decide +kernel⟩, List.mem_of_getElem? (i := 1432) (by decide +kernel), List.mem_of_getElem? (i := 2177) (by decide +kernel), List.mem_of_getElem? (i := 2178) (by decide +kernel)⟩
theorem lw_p140 : lw_okq (⟨"SwitchYardModel", "works", "()Z"⟩, 89) := ⟨⟨by decide +kernel, by decide +kernel⟩, List.mem_of_getElem? (i := 1432) (by decide +kernel), List.mem_of_getElem? (i := 2204) (by decide +kernel), List.mem_of_getElem? (i := 2205) (by decide +kernel)⟩
theorem lw_p141 : lw_okq (⟨"SwitchYardModel", "proves", "()Z"⟩, 89) := ⟨⟨by decide +kernel, by decide +kernel⟩, List.mem_of_getElem? (i := 1432) (by decide +kernel), List.mem_of_getElem? (i := 2208) (by decide +kernel), List.mem_of_getElem? (i := 2209) (by decide +kernel)⟩
def lw_privs_9 : List (MethodName × Nat) := [(⟨"SwitchYardModel", "take", "(Z)V"⟩, 89), (⟨"SwitchYardModel", "widest", "(II)I"⟩, 89), (⟨"SwitchYardModel", "carries", "(II)Z"⟩, 89), (⟨"SwitchYardModel", "mayMove", "(III)Z"⟩, 89), (⟨"SwitchYardModel", "shift", "(III)V"⟩, 89), (⟨"SwitchYardModel", "stackOf", "(I)I"⟩, 89), (⟨"SwitchYardModel", "measure", "()V"⟩, 89), (⟨"SwitchYardModel", "code", "()I"⟩, 89), (⟨"SwitchYardModel", "rankOf", "(I)I"⟩, 89), (⟨"SwitchYardModel", "decode", "(I)V"⟩, 89), (⟨"SwitchYardModel", "wander", "(I)V"⟩, 89), (⟨"SwitchYardModel", "hasFallen", "(IIII)Z"⟩, 89), (⟨"SwitchYardModel", "works", "()Z"⟩, 89), (⟨"SwitchYardModel", "proves", "()Z"⟩, 89)]
theorem lw_r9 : ∀ q ∈ lw_privs_9, lw_okq q := List.forall_mem_cons.mpr ⟨lw_p128, List.forall_mem_cons.mpr ⟨lw_p129, List.forall_mem_cons.mpr ⟨lw_p130, List.forall_mem_cons.mpr ⟨lw_p131, List.forall_mem_cons.mpr ⟨lw_p132, List.forall_mem_cons.mpr ⟨lw_p133, List.forall_mem_cons.mpr ⟨lw_p134, List.forall_mem_cons.mpr ⟨lw_p135, List.forall_mem_cons.mpr ⟨lw_p136, List.forall_mem_cons.mpr ⟨lw_p137, List.forall_mem_cons.mpr ⟨lw_p138, List.forall_mem_cons.mpr ⟨lw_p139, List.forall_mem_cons.mpr ⟨lw_p140, List.forall_mem_cons.mpr ⟨lw_p141, fun _ h => absurd h List.not_mem_nil⟩⟩⟩⟩⟩⟩⟩⟩⟩⟩⟩⟩⟩⟩
def lw_privs : List (MethodName × Nat) := lw_privs_1 ++ (lw_privs_2 ++ (lw_privs_3 ++ (lw_privs_4 ++ (lw_privs_5 ++ (lw_privs_6 ++ (lw_privs_7 ++ (lw_privs_8 ++ (lw_privs_9))))))))
def lw_tbl : List Cond := k2_sels lw_privs ++ tables_1
theorem lw_privs_ok : ∀ q ∈ lw_privs, lw_okq q := by
  show ∀ q ∈ lw_privs_1 ++ (lw_privs_2 ++ (lw_privs_3 ++ (lw_privs_4 ++ (lw_privs_5 ++ (lw_privs_6 ++ (lw_privs_7 ++ (lw_privs_8 ++ (lw_privs_9)))))))), lw_okq q
  exact List.forall_mem_append.mpr ⟨lw_r1, List.forall_mem_append.mpr ⟨lw_r2, List.forall_mem_append.mpr ⟨lw_r3, List.forall_mem_append.mpr ⟨lw_r4, List.forall_mem_append.mpr ⟨lw_r5, List.forall_mem_append.mpr ⟨lw_r6, List.forall_mem_append.mpr ⟨lw_r7, List.forall_mem_append.mpr ⟨lw_r8, lw_r9⟩⟩⟩⟩⟩⟩⟩⟩
def RX0 : String := "SwitchYard$Bodies"
def TX0 : u_T := fun k => match k with
  | 0 => ("SwitchYard$Bodies", "state", "LSwitchYard$State;", true)
  | 1 => ("SwitchYard$Bodies", "stock", "LSwitchYard$Stock;", true)
  | 2 => ("SwitchYard$Bodies", "report", "LSwitchYard$Report;", true)
  | _ => ("SwitchYard$Bodies", "barred", "[Z", true)
def tyX0 : Nat → FieldType := fun k => match k with
  | 0 => .object "SwitchYard$State"
  | 1 => .object "SwitchYard$Stock"
  | 2 => .object "SwitchYard$Report"
  | _ => .array .boolean
abbrev wsX00 : List Cond := u_ws RX0 TX0 4
theorem nmX0 : ∀ a, a < 4 → ∀ b, b < 4 → a ≠ b → (TX0 a).2.1 ≠ (TX0 b).2.1 := by decide +kernel
theorem tyX0_ok : ∀ k, k < 4 → parseFieldDescriptor (TX0 k).2.2.1 = some (tyX0 k) := by decide +kernel
abbrev cX0_init : ByteArray := prog_2_method_1_code
def yX0_init : MethodName := ⟨RX0, "<init>", "(LSwitchYard$State;LSwitchYard$Stock;LSwitchYard$Report;)V"⟩
abbrev cX0_kindOf : ByteArray := prog_2_method_2_code
def yX0_kindOf : MethodName := ⟨RX0, "kindOf", "(I)I"⟩
abbrev cX0_weight : ByteArray := prog_2_method_3_code
def yX0_weight : MethodName := ⟨RX0, "weight", "(I)I"⟩
abbrev cX0_flatWeight : ByteArray := prog_2_method_4_code
def yX0_flatWeight : MethodName := ⟨RX0, "flatWeight", "(I)I"⟩
abbrev cX0_tankWeight : ByteArray := prog_2_method_5_code
def yX0_tankWeight : MethodName := ⟨RX0, "tankWeight", "(I)I"⟩
abbrev cX0_brake : ByteArray := prog_2_method_6_code
def yX0_brake : MethodName := ⟨RX0, "brake", "(I)I"⟩
abbrev cX0_flatBrake : ByteArray := prog_2_method_7_code
def yX0_flatBrake : MethodName := ⟨RX0, "flatBrake", "(I)I"⟩
abbrev cX0_engineBrake : ByteArray := prog_2_method_8_code
def yX0_engineBrake : MethodName := ⟨RX0, "engineBrake", "()I"⟩
abbrev cX0_heavy : ByteArray := prog_2_method_9_code
def yX0_heavy : MethodName := ⟨RX0, "heavy", "(I)I"⟩
abbrev cX0_perAxle : ByteArray := prog_2_method_10_code
def yX0_perAxle : MethodName := ⟨RX0, "perAxle", "(I)I"⟩
abbrev cX0_pulls : ByteArray := prog_2_method_11_code
def yX0_pulls : MethodName := ⟨RX0, "pulls", "(I)I"⟩
abbrev cX0_enginePulls : ByteArray := prog_2_method_12_code
def yX0_enginePulls : MethodName := ⟨RX0, "enginePulls", "(I)I"⟩
abbrev cX0_isFed : ByteArray := prog_2_method_13_code
def yX0_isFed : MethodName := ⟨RX0, "isFed", "(II)Z"⟩
abbrev cX0_suits : ByteArray := prog_2_method_14_code
def yX0_suits : MethodName := ⟨RX0, "suits", "(II)Z"⟩
abbrev cX0_wagonSuits : ByteArray := prog_2_method_15_code
def yX0_wagonSuits : MethodName := ⟨RX0, "wagonSuits", "(II)Z"⟩
abbrev cX0_isBarred : ByteArray := prog_2_method_16_code
def yX0_isBarred : MethodName := ⟨RX0, "isBarred", "(II)Z"⟩
abbrev cX0_setBarred : ByteArray := prog_2_method_17_code
def yX0_setBarred : MethodName := ⟨RX0, "setBarred", "(IIZ)Z"⟩
def RX1 : String := "SwitchYard$History"
def TX1 : u_T := fun k => match k with
  | 0 => ("SwitchYard$History", "kept", "[[I", true)
  | 1 => ("SwitchYard$History", "acts", "[I", true)
  | 2 => ("SwitchYard$History", "answers", "[I", true)
  | 3 => ("SwitchYard$History", "oldest", "I", false)
  | 4 => ("SwitchYard$History", "latest", "I", false)
  | 5 => ("SwitchYard$History", "written", "I", false)
  | 6 => ("SwitchYard$History", "undoable", "I", false)
  | _ => ("SwitchYard$History", "redoable", "I", false)
def tyX1 : Nat → FieldType := fun k => match k with
  | 0 => .array (.array .int)
  | 1 => .array .int
  | 2 => .array .int
  | 3 => .int
  | 4 => .int
  | 5 => .int
  | 6 => .int
  | _ => .int
abbrev wsX10 : List Cond := u_ws RX1 TX1 8
theorem nmX1 : ∀ a, a < 8 → ∀ b, b < 8 → a ≠ b → (TX1 a).2.1 ≠ (TX1 b).2.1 := by decide +kernel
theorem tyX1_ok : ∀ k, k < 8 → parseFieldDescriptor (TX1 k).2.2.1 = some (tyX1 k) := by decide +kernel
abbrev cX1_init : ByteArray := prog_3_method_1_code
def yX1_init : MethodName := ⟨RX1, "<init>", "()V"⟩
abbrev cX1_forget : ByteArray := prog_3_method_2_code
def yX1_forget : MethodName := ⟨RX1, "forget", "()V"⟩
abbrev cX1_keep : ByteArray := prog_3_method_3_code
def yX1_keep : MethodName := ⟨RX1, "keep", "(LSwitchYard$State;)V"⟩
abbrev cX1_border : ByteArray := prog_3_method_4_code
def yX1_border : MethodName := ⟨RX1, "border", "()I"⟩
abbrev cX1_goBack : ByteArray := prog_3_method_5_code
def yX1_goBack : MethodName := ⟨RX1, "goBack", "(LSwitchYard$State;)Z"⟩
abbrev cX1_goOn : ByteArray := prog_3_method_6_code
def yX1_goOn : MethodName := ⟨RX1, "goOn", "(LSwitchYard$State;)Z"⟩
abbrev cX1_exchange : ByteArray := prog_3_method_7_code
def yX1_exchange : MethodName := ⟨RX1, "exchange", "(LSwitchYard$State;)V"⟩
abbrev cX1_write : ByteArray := prog_3_method_8_code
def yX1_write : MethodName := ⟨RX1, "write", "(II)V"⟩
abbrev cX1_written : ByteArray := prog_3_method_9_code
def yX1_written : MethodName := ⟨RX1, "written", "(II)I"⟩
def RX2 : String := "SwitchYard$Layout"
def TX2 : u_T := fun k => match k with
  | 0 => ("SwitchYard$Layout", "state", "LSwitchYard$State;", true)
  | 1 => ("SwitchYard$Layout", "places", "[I", true)
  | 2 => ("SwitchYard$Layout", "pointAtEnd", "[I", true)
  | 3 => ("SwitchYard$Layout", "endOfPoint", "[I", true)
  | 4 => ("SwitchYard$Layout", "linkNumbers", "[I", true)
  | 5 => ("SwitchYard$Layout", "farEnds", "[I", true)
  | 6 => ("SwitchYard$Layout", "leadsOut", "[Z", true)
  | 7 => ("SwitchYard$Layout", "tracks", "I", false)
  | _ => ("SwitchYard$Layout", "points", "I", false)
def tyX2 : Nat → FieldType := fun k => match k with
  | 0 => .object "SwitchYard$State"
  | 1 => .array .int
  | 2 => .array .int
  | 3 => .array .int
  | 4 => .array .int
  | 5 => .array .int
  | 6 => .array .boolean
  | 7 => .int
  | _ => .int
abbrev wsX20 : List Cond := u_ws RX2 TX2 9
theorem nmX2 : ∀ a, a < 9 → ∀ b, b < 9 → a ≠ b → (TX2 a).2.1 ≠ (TX2 b).2.1 := by decide +kernel
theorem tyX2_ok : ∀ k, k < 9 → parseFieldDescriptor (TX2 k).2.2.1 = some (tyX2 k) := by decide +kernel
abbrev cX2_init : ByteArray := prog_4_method_1_code
def yX2_init : MethodName := ⟨RX2, "<init>", "(LSwitchYard$State;)V"⟩
abbrev cX2_spot : ByteArray := prog_4_method_2_code
def yX2_spot : MethodName := ⟨RX2, "spot", "(II)I"⟩
abbrev cX2_trackOf : ByteArray := prog_4_method_3_code
def yX2_trackOf : MethodName := ⟨RX2, "trackOf", "(I)I"⟩
abbrev cX2_placeOf : ByteArray := prog_4_method_4_code
def yX2_placeOf : MethodName := ⟨RX2, "placeOf", "(I)I"⟩
abbrev cX2_isEnd : ByteArray := prog_4_method_5_code
def yX2_isEnd : MethodName := ⟨RX2, "isEnd", "(I)Z"⟩
abbrev cX2_addTrack : ByteArray := prog_4_method_6_code
def yX2_addTrack : MethodName := ⟨RX2, "addTrack", "(I)I"⟩
abbrev cX2_addPoint : ByteArray := prog_4_method_7_code
def yX2_addPoint : MethodName := ⟨RX2, "addPoint", "(I)I"⟩
abbrev cX2_trackFinding : ByteArray := prog_4_method_8_code
def yX2_trackFinding : MethodName := ⟨RX2, "trackFinding", "(I)I"⟩
abbrev cX2_placeFinding : ByteArray := prog_4_method_9_code
def yX2_placeFinding : MethodName := ⟨RX2, "placeFinding", "(II)I"⟩
abbrev cX2_pointFinding : ByteArray := prog_4_method_10_code
def yX2_pointFinding : MethodName := ⟨RX2, "pointFinding", "(I)I"⟩
abbrev cX2_placesOf : ByteArray := prog_4_method_11_code
def yX2_placesOf : MethodName := ⟨RX2, "placesOf", "(I)I"⟩
abbrev cX2_pointAt : ByteArray := prog_4_method_12_code
def yX2_pointAt : MethodName := ⟨RX2, "pointAt", "(I)I"⟩
abbrev cX2_endOf : ByteArray := prog_4_method_13_code
def yX2_endOf : MethodName := ⟨RX2, "endOf", "(I)I"⟩
abbrev cX2_linksAt : ByteArray := prog_4_method_14_code
def yX2_linksAt : MethodName := ⟨RX2, "linksAt", "(I)I"⟩
abbrev cX2_mayJoin : ByteArray := prog_4_method_15_code
def yX2_mayJoin : MethodName := ⟨RX2, "mayJoin", "(II)Z"⟩
abbrev cX2_areJoined : ByteArray := prog_4_method_16_code
def yX2_areJoined : MethodName := ⟨RX2, "areJoined", "(II)Z"⟩
abbrev cX2_mayGetLink : ByteArray := prog_4_method_17_code
def yX2_mayGetLink : MethodName := ⟨RX2, "mayGetLink", "(I)Z"⟩
abbrev cX2_join : ByteArray := prog_4_method_18_code
def yX2_join : MethodName := ⟨RX2, "join", "(II)V"⟩
abbrev cX2_addLink : ByteArray := prog_4_method_19_code
def yX2_addLink : MethodName := ⟨RX2, "addLink", "(II)V"⟩
abbrev cX2_leadsTo : ByteArray := prog_4_method_20_code
def yX2_leadsTo : MethodName := ⟨RX2, "leadsTo", "(I)I"⟩
abbrev cX2_setExit : ByteArray := prog_4_method_21_code
def yX2_setExit : MethodName := ⟨RX2, "setExit", "(IZ)Z"⟩
abbrev cX2_isWayOut : ByteArray := prog_4_method_22_code
def yX2_isWayOut : MethodName := ⟨RX2, "isWayOut", "(II)Z"⟩
abbrev cX2_endNextTo : ByteArray := prog_4_method_23_code
def yX2_endNextTo : MethodName := ⟨RX2, "endNextTo", "(II)I"⟩
abbrev cX2_spotAt : ByteArray := prog_4_method_24_code
def yX2_spotAt : MethodName := ⟨RX2, "spotAt", "(I)I"⟩
abbrev cX2_nextPlace : ByteArray := prog_4_method_25_code
def yX2_nextPlace : MethodName := ⟨RX2, "nextPlace", "(II)I"⟩
def RX3 : String := "SwitchYard$Plans"
def TX3 : u_T := fun k => match k with
  | 0 => ("SwitchYard$Plans", "start", "LSwitchYard$Stacks;", true)
  | 1 => ("SwitchYard$Plans", "goal", "LSwitchYard$Stacks;", true)
  | 2 => ("SwitchYard$Plans", "work", "LSwitchYard$Stacks;", true)
  | 3 => ("SwitchYard$Plans", "rooms", "[I", true)
  | 4 => ("SwitchYard$Plans", "potentials", "LSwitchYard$Potentials;", true)
  | 5 => ("SwitchYard$Plans", "moves", "[I", true)
  | 6 => ("SwitchYard$Plans", "ranks", "[I", true)
  | 7 => ("SwitchYard$Plans", "length", "I", false)
  | _ => ("SwitchYard$Plans", "way", "I", false)
def tyX3 : Nat → FieldType := fun k => match k with
  | 0 => .object "SwitchYard$Stacks"
  | 1 => .object "SwitchYard$Stacks"
  | 2 => .object "SwitchYard$Stacks"
  | 3 => .array .int
  | 4 => .object "SwitchYard$Potentials"
  | 5 => .array .int
  | 6 => .array .int
  | 7 => .int
  | _ => .int
abbrev wsX30 : List Cond := u_ws RX3 TX3 9
theorem nmX3 : ∀ a, a < 9 → ∀ b, b < 9 → a ≠ b → (TX3 a).2.1 ≠ (TX3 b).2.1 := by decide +kernel
theorem tyX3_ok : ∀ k, k < 9 → parseFieldDescriptor (TX3 k).2.2.1 = some (tyX3 k) := by decide +kernel
abbrev cX3_init : ByteArray := prog_5_method_1_code
def yX3_init : MethodName := ⟨RX3, "<init>", "()V"⟩
abbrev cX3_setRoom : ByteArray := prog_5_method_2_code
def yX3_setRoom : MethodName := ⟨RX3, "setRoom", "(II)I"⟩
abbrev cX3_roomLeft : ByteArray := prog_5_method_3_code
def yX3_roomLeft : MethodName := ⟨RX3, "roomLeft", "(I)I"⟩
abbrev cX3_put : ByteArray := prog_5_method_4_code
def yX3_put : MethodName := ⟨RX3, "put", "(ZII)I"⟩
abbrev cX3_clear : ByteArray := prog_5_method_5_code
def yX3_clear : MethodName := ⟨RX3, "clear", "()I"⟩
abbrev cX3_drop : ByteArray := prog_5_method_6_code
def yX3_drop : MethodName := ⟨RX3, "drop", "()V"⟩
abbrev cX3_haveSameWagons : ByteArray := prog_5_method_7_code
def yX3_haveSameWagons : MethodName := ⟨RX3, "haveSameWagons", "()Z"⟩
abbrev cX3_isSmall : ByteArray := prog_5_method_8_code
def yX3_isSmall : MethodName := ⟨RX3, "isSmall", "()Z"⟩
abbrev cX3_countMoved : ByteArray := prog_5_method_9_code
def yX3_countMoved : MethodName := ⟨RX3, "countMoved", "()I"⟩
abbrev cX3_makeLeast : ByteArray := prog_5_method_10_code
def yX3_makeLeast : MethodName := ⟨RX3, "makeLeast", "()I"⟩
abbrev cX3_makeByRule : ByteArray := prog_5_method_11_code
def yX3_makeByRule : MethodName := ⟨RX3, "makeByRule", "()I"⟩
abbrev cX3_bring : ByteArray := prog_5_method_12_code
def yX3_bring : MethodName := ⟨RX3, "bring", "(III)Z"⟩
abbrev cX3_lower : ByteArray := prog_5_method_13_code
def yX3_lower : MethodName := ⟨RX3, "lower", "(III)Z"⟩
abbrev cX3_roomiest : ByteArray := prog_5_method_14_code
def yX3_roomiest : MethodName := ⟨RX3, "roomiest", "(II)I"⟩
abbrev cX3_moveOne : ByteArray := prog_5_method_15_code
def yX3_moveOne : MethodName := ⟨RX3, "moveOne", "(II)Z"⟩
abbrev cX3_moveAt : ByteArray := prog_5_method_16_code
def yX3_moveAt : MethodName := ⟨RX3, "moveAt", "(II)I"⟩
abbrev cX3_potentialAt : ByteArray := prog_5_method_17_code
def yX3_potentialAt : MethodName := ⟨RX3, "potentialAt", "(I)I"⟩
abbrev cX3_setPotential : ByteArray := prog_5_method_18_code
def yX3_setPotential : MethodName := ⟨RX3, "setPotential", "(II)I"⟩
abbrev cX3_hasPotential : ByteArray := prog_5_method_19_code
def yX3_hasPotential : MethodName := ⟨RX3, "hasPotential", "(I)Z"⟩
abbrev cX3_holds : ByteArray := prog_5_method_20_code
def yX3_holds : MethodName := ⟨RX3, "holds", "()Z"⟩
abbrev cX3_leadsToGoal : ByteArray := prog_5_method_21_code
def yX3_leadsToGoal : MethodName := ⟨RX3, "leadsToGoal", "()Z"⟩
def RX4 : String := "SwitchYard$Potentials"
def TX4 : u_T := fun k => match k with
  | 0 => ("SwitchYard$Potentials", "numberOf", "[I", true)
  | 1 => ("SwitchYard$Potentials", "sequence", "[I", true)
  | 2 => ("SwitchYard$Potentials", "swapped", "[I", true)
  | 3 => ("SwitchYard$Potentials", "digits", "[I", true)
  | 4 => ("SwitchYard$Potentials", "shapeOfKey", "[I", true)
  | 5 => ("SwitchYard$Potentials", "wagons", "I", false)
  | 6 => ("SwitchYard$Potentials", "orders", "I", false)
  | 7 => ("SwitchYard$Potentials", "shapes", "I", false)
  | 8 => ("SwitchYard$Potentials", "ends", "[I", false)
  | 9 => ("SwitchYard$Potentials", "orderAfter", "[I", false)
  | 10 => ("SwitchYard$Potentials", "firstEntries", "[I", false)
  | 11 => ("SwitchYard$Potentials", "moves", "[I", false)
  | 12 => ("SwitchYard$Potentials", "nextShapes", "[I", false)
  | 13 => ("SwitchYard$Potentials", "swaps", "[I", false)
  | 14 => ("SwitchYard$Potentials", "least", "[I", false)
  | _ => ("SwitchYard$Potentials", "queue", "[I", false)
def tyX4 : Nat → FieldType := fun k => match k with
  | 0 => .array .int
  | 1 => .array .int
  | 2 => .array .int
  | 3 => .array .int
  | 4 => .array .int
  | 5 => .int
  | 6 => .int
  | 7 => .int
  | 8 => .array .int
  | 9 => .array .int
  | 10 => .array .int
  | 11 => .array .int
  | 12 => .array .int
  | 13 => .array .int
  | 14 => .array .int
  | _ => .array .int
abbrev wsX40 : List Cond := u_ws RX4 TX4 16
theorem nmX4 : ∀ a, a < 16 → ∀ b, b < 16 → a ≠ b → (TX4 a).2.1 ≠ (TX4 b).2.1 := by decide +kernel
theorem tyX4_ok : ∀ k, k < 16 → parseFieldDescriptor (TX4 k).2.2.1 = some (tyX4 k) := by decide +kernel
abbrev cX4_init : ByteArray := prog_6_method_1_code
def yX4_init : MethodName := ⟨RX4, "<init>", "()V"⟩
abbrev cX4_of : ByteArray := prog_6_method_2_code
def yX4_of : MethodName := ⟨RX4, "of", "(I)I"⟩
abbrev cX4_setTo : ByteArray := prog_6_method_3_code
def yX4_setTo : MethodName := ⟨RX4, "setTo", "(II)V"⟩
abbrev cX4_isRank : ByteArray := prog_6_method_4_code
def yX4_isRank : MethodName := ⟨RX4, "isRank", "(I)Z"⟩
abbrev cX4_rankOf : ByteArray := prog_6_method_5_code
def yX4_rankOf : MethodName := ⟨RX4, "rankOf", "(LSwitchYard$Stacks;)I"⟩
abbrev cX4_keyWith : ByteArray := prog_6_method_6_code
def yX4_keyWith : MethodName := ⟨RX4, "keyWith", "(III)I"⟩
abbrev cX4_orderOf : ByteArray := prog_6_method_7_code
def yX4_orderOf : MethodName := ⟨RX4, "orderOf", "([I)I"⟩
abbrev cX4_layOrder : ByteArray := prog_6_method_8_code
def yX4_layOrder : MethodName := ⟨RX4, "layOrder", "(I)V"⟩
abbrev cX4_spreadFrom : ByteArray := prog_6_method_9_code
def yX4_spreadFrom : MethodName := ⟨RX4, "spreadFrom", "(LSwitchYard$Stacks;[I)V"⟩
abbrev cX4_takeWagons : ByteArray := prog_6_method_10_code
def yX4_takeWagons : MethodName := ⟨RX4, "takeWagons", "(I)V"⟩
abbrev cX4_growRows : ByteArray := prog_6_method_11_code
def yX4_growRows : MethodName := ⟨RX4, "growRows", "()V"⟩
abbrev cX4_listShapes : ByteArray := prog_6_method_12_code
def yX4_listShapes : MethodName := ⟨RX4, "listShapes", "()V"⟩
abbrev cX4_listOrders : ByteArray := prog_6_method_13_code
def yX4_listOrders : MethodName := ⟨RX4, "listOrders", "()V"⟩
abbrev cX4_swapOf : ByteArray := prog_6_method_14_code
def yX4_swapOf : MethodName := ⟨RX4, "swapOf", "(III)I"⟩
abbrev cX4_listEntries : ByteArray := prog_6_method_15_code
def yX4_listEntries : MethodName := ⟨RX4, "listEntries", "([I)V"⟩
abbrev cX4_endIn : ByteArray := prog_6_method_16_code
def yX4_endIn : MethodName := ⟨RX4, "endIn", "(II)I"⟩
abbrev cX4_heightIn : ByteArray := prog_6_method_17_code
def yX4_heightIn : MethodName := ⟨RX4, "heightIn", "(II)I"⟩
abbrev cX4_shapeAfter : ByteArray := prog_6_method_18_code
def yX4_shapeAfter : MethodName := ⟨RX4, "shapeAfter", "(IIII)I"⟩
abbrev cX4_swapBy : ByteArray := prog_6_method_19_code
def yX4_swapBy : MethodName := ⟨RX4, "swapBy", "(IIII)I"⟩
abbrev cX4_moveOf : ByteArray := prog_6_method_20_code
def yX4_moveOf : MethodName := ⟨RX4, "moveOf", "(I)I"⟩
abbrev cX4_rankAfter : ByteArray := prog_6_method_21_code
def yX4_rankAfter : MethodName := ⟨RX4, "rankAfter", "(II)I"⟩
abbrev cX4_entryDown : ByteArray := prog_6_method_22_code
def yX4_entryDown : MethodName := ⟨RX4, "entryDown", "(I)I"⟩
abbrev cX4_prove : ByteArray := prog_6_method_23_code
def yX4_prove : MethodName := ⟨RX4, "prove", "([I)Z"⟩
abbrev cX4_isProved : ByteArray := prog_6_method_24_code
def yX4_isProved : MethodName := ⟨RX4, "isProved", "(I)Z"⟩
def RX5 : String := "SwitchYard$Report"
def TX5 : u_T := fun k => match k with
  | 0 => ("SwitchYard$Report", "everFound", "[I", true)
  | 1 => ("SwitchYard$Report", "bodies", "[I", true)
  | 2 => ("SwitchYard$Report", "told", "I", false)
  | 3 => ("SwitchYard$Report", "kind", "I", false)
  | 4 => ("SwitchYard$Report", "fault", "I", false)
  | 5 => ("SwitchYard$Report", "steps", "I", false)
  | _ => ("SwitchYard$Report", "locker", "I", false)
def tyX5 : Nat → FieldType := fun k => match k with
  | 0 => .array .int
  | 1 => .array .int
  | 2 => .int
  | 3 => .int
  | 4 => .int
  | 5 => .int
  | _ => .int
abbrev wsX50 : List Cond := u_ws RX5 TX5 7
theorem nmX5 : ∀ a, a < 7 → ∀ b, b < 7 → a ≠ b → (TX5 a).2.1 ≠ (TX5 b).2.1 := by decide +kernel
theorem tyX5_ok : ∀ k, k < 7 → parseFieldDescriptor (TX5 k).2.2.1 = some (tyX5 k) := by decide +kernel
abbrev cX5_init : ByteArray := prog_7_method_1_code
def yX5_init : MethodName := ⟨RX5, "<init>", "()V"⟩
abbrev cX5_begin : ByteArray := prog_7_method_2_code
def yX5_begin : MethodName := ⟨RX5, "begin", "()V"⟩
abbrev cX5_found : ByteArray := prog_7_method_3_code
def yX5_found : MethodName := ⟨RX5, "found", "(I)I"⟩
abbrev cX5_ever : ByteArray := prog_7_method_4_code
def yX5_ever : MethodName := ⟨RX5, "ever", "(I)I"⟩
abbrev cX5_beginBody : ByteArray := prog_7_method_5_code
def yX5_beginBody : MethodName := ⟨RX5, "beginBody", "(I)V"⟩
abbrev cX5_bodyAt : ByteArray := prog_7_method_6_code
def yX5_bodyAt : MethodName := ⟨RX5, "bodyAt", "(I)I"⟩
def RX6 : String := "SwitchYard$Routes"
def TX6 : u_T := fun k => match k with
  | 0 => ("SwitchYard$Routes", "state", "LSwitchYard$State;", true)
  | 1 => ("SwitchYard$Routes", "layout", "LSwitchYard$Layout;", true)
  | 2 => ("SwitchYard$Routes", "report", "LSwitchYard$Report;", true)
  | 3 => ("SwitchYard$Routes", "entryNumbers", "[I", true)
  | 4 => ("SwitchYard$Routes", "entryPoints", "[I", true)
  | 5 => ("SwitchYard$Routes", "entryLinks", "[I", true)
  | 6 => ("SwitchYard$Routes", "entryRanks", "[I", true)
  | 7 => ("SwitchYard$Routes", "settingsBefore", "[I", true)
  | _ => ("SwitchYard$Routes", "made", "I", false)
def tyX6 : Nat → FieldType := fun k => match k with
  | 0 => .object "SwitchYard$State"
  | 1 => .object "SwitchYard$Layout"
  | 2 => .object "SwitchYard$Report"
  | 3 => .array .int
  | 4 => .array .int
  | 5 => .array .int
  | 6 => .array .int
  | 7 => .array .int
  | _ => .int
abbrev wsX60 : List Cond := u_ws RX6 TX6 9
theorem nmX6 : ∀ a, a < 9 → ∀ b, b < 9 → a ≠ b → (TX6 a).2.1 ≠ (TX6 b).2.1 := by decide +kernel
theorem tyX6_ok : ∀ k, k < 9 → parseFieldDescriptor (TX6 k).2.2.1 = some (tyX6 k) := by decide +kernel
abbrev cX6_init : ByteArray := prog_8_method_1_code
def yX6_init : MethodName := ⟨RX6, "<init>", "(LSwitchYard$State;LSwitchYard$Layout;LSwitchYard$Report;)V"⟩
abbrev cX6_addRoute : ByteArray := prog_8_method_2_code
def yX6_addRoute : MethodName := ⟨RX6, "addRoute", "()I"⟩
abbrev cX6_routeFinding : ByteArray := prog_8_method_3_code
def yX6_routeFinding : MethodName := ⟨RX6, "routeFinding", "(I)I"⟩
abbrev cX6_entryFinding : ByteArray := prog_8_method_4_code
def yX6_entryFinding : MethodName := ⟨RX6, "entryFinding", "(II)I"⟩
abbrev cX6_entriesOf : ByteArray := prog_8_method_5_code
def yX6_entriesOf : MethodName := ⟨RX6, "entriesOf", "(I)I"⟩
abbrev cX6_lockedBy : ByteArray := prog_8_method_6_code
def yX6_lockedBy : MethodName := ⟨RX6, "lockedBy", "(I)I"⟩
abbrev cX6_lockedFinding : ByteArray := prog_8_method_7_code
def yX6_lockedFinding : MethodName := ⟨RX6, "lockedFinding", "(I)I"⟩
abbrev cX6_addEntry : ByteArray := prog_8_method_8_code
def yX6_addEntry : MethodName := ⟨RX6, "addEntry", "(IIII)I"⟩
abbrev cX6_isBehind : ByteArray := prog_8_method_9_code
def yX6_isBehind : MethodName := ⟨RX6, "isBehind", "(III)Z"⟩
abbrev cX6_putEntry : ByteArray := prog_8_method_10_code
def yX6_putEntry : MethodName := ⟨RX6, "putEntry", "(IIII)V"⟩
abbrev cX6_turnPoint : ByteArray := prog_8_method_11_code
def yX6_turnPoint : MethodName := ⟨RX6, "turnPoint", "(II)I"⟩
abbrev cX6_turnFinding : ByteArray := prog_8_method_12_code
def yX6_turnFinding : MethodName := ⟨RX6, "turnFinding", "(I)I"⟩
abbrev cX6_hasLink : ByteArray := prog_8_method_13_code
def yX6_hasLink : MethodName := ⟨RX6, "hasLink", "(II)Z"⟩
abbrev cX6_isUnder : ByteArray := prog_8_method_14_code
def yX6_isUnder : MethodName := ⟨RX6, "isUnder", "(I)Z"⟩
abbrev cX6_lockAll : ByteArray := prog_8_method_15_code
def yX6_lockAll : MethodName := ⟨RX6, "lockAll", "(I)I"⟩
abbrev cX6_lockFinding : ByteArray := prog_8_method_16_code
def yX6_lockFinding : MethodName := ⟨RX6, "lockFinding", "(II)I"⟩
abbrev cX6_giveBack : ByteArray := prog_8_method_17_code
def yX6_giveBack : MethodName := ⟨RX6, "giveBack", "(II)V"⟩
abbrev cX6_freeAll : ByteArray := prog_8_method_18_code
def yX6_freeAll : MethodName := ⟨RX6, "freeAll", "(I)I"⟩
def RX7 : String := "SwitchYard$Stacks"
def TX7 : u_T := fun k => match k with
  | 0 => ("SwitchYard$Stacks", "wagons", "[I", true)
  | _ => ("SwitchYard$Stacks", "heights", "[I", true)
def tyX7 : Nat → FieldType := fun k => match k with
  | 0 => .array .int
  | _ => .array .int
abbrev wsX70 : List Cond := u_ws RX7 TX7 2
theorem nmX7 : ∀ a, a < 2 → ∀ b, b < 2 → a ≠ b → (TX7 a).2.1 ≠ (TX7 b).2.1 := by decide +kernel
theorem tyX7_ok : ∀ k, k < 2 → parseFieldDescriptor (TX7 k).2.2.1 = some (tyX7 k) := by decide +kernel
abbrev cX7_init : ByteArray := prog_9_method_1_code
def yX7_init : MethodName := ⟨RX7, "<init>", "()V"⟩
abbrev cX7_empty : ByteArray := prog_9_method_2_code
def yX7_empty : MethodName := ⟨RX7, "empty", "()V"⟩
abbrev cX7_become : ByteArray := prog_9_method_3_code
def yX7_become : MethodName := ⟨RX7, "become", "(LSwitchYard$Stacks;)V"⟩
abbrev cX7_height : ByteArray := prog_9_method_4_code
def yX7_height : MethodName := ⟨RX7, "height", "(I)I"⟩
abbrev cX7_wagonAt : ByteArray := prog_9_method_5_code
def yX7_wagonAt : MethodName := ⟨RX7, "wagonAt", "(II)I"⟩
abbrev cX7_put : ByteArray := prog_9_method_6_code
def yX7_put : MethodName := ⟨RX7, "put", "(II)V"⟩
abbrev cX7_shift : ByteArray := prog_9_method_7_code
def yX7_shift : MethodName := ⟨RX7, "shift", "(III)V"⟩
abbrev cX7_members : ByteArray := prog_9_method_8_code
def yX7_members : MethodName := ⟨RX7, "members", "()I"⟩
abbrev cX7_stackOf : ByteArray := prog_9_method_9_code
def yX7_stackOf : MethodName := ⟨RX7, "stackOf", "(I)I"⟩
abbrev cX7_placeOn : ByteArray := prog_9_method_10_code
def yX7_placeOn : MethodName := ⟨RX7, "placeOn", "(II)I"⟩
abbrev cX7_below : ByteArray := prog_9_method_11_code
def yX7_below : MethodName := ⟨RX7, "below", "(I)I"⟩
abbrev cX7_isLike : ByteArray := prog_9_method_12_code
def yX7_isLike : MethodName := ⟨RX7, "isLike", "(LSwitchYard$Stacks;)Z"⟩
def RX8 : String := "SwitchYard$State"
def TX8 : u_T := fun k => match k with
  | 0 => ("SwitchYard$State", "cells", "[I", false)
  | _ => ("SwitchYard$State", "made", "I", false)
def tyX8 : Nat → FieldType := fun k => match k with
  | 0 => .array .int
  | _ => .int
abbrev wsX80 : List Cond := u_ws RX8 TX8 2
theorem nmX8 : ∀ a, a < 2 → ∀ b, b < 2 → a ≠ b → (TX8 a).2.1 ≠ (TX8 b).2.1 := by decide +kernel
theorem tyX8_ok : ∀ k, k < 2 → parseFieldDescriptor (TX8 k).2.2.1 = some (tyX8 k) := by decide +kernel
abbrev cX8_init : ByteArray := prog_10_method_1_code
def yX8_init : MethodName := ⟨RX8, "<init>", "()V"⟩
abbrev cX8_usedCells : ByteArray := prog_10_method_2_code
def yX8_usedCells : MethodName := ⟨RX8, "usedCells", "()I"⟩
abbrev cX8_addThing : ByteArray := prog_10_method_3_code
def yX8_addThing : MethodName := ⟨RX8, "addThing", "(II)I"⟩
abbrev cX8_get : ByteArray := prog_10_method_4_code
def yX8_get : MethodName := ⟨RX8, "get", "(II)I"⟩
abbrev cX8_set : ByteArray := prog_10_method_5_code
def yX8_set : MethodName := ⟨RX8, "set", "(III)V"⟩
abbrev cX8_isThere : ByteArray := prog_10_method_6_code
def yX8_isThere : MethodName := ⟨RX8, "isThere", "(I)Z"⟩
abbrev cX8_there : ByteArray := prog_10_method_7_code
def yX8_there : MethodName := ⟨RX8, "there", "()I"⟩
abbrev cX8_standsAt : ByteArray := prog_10_method_8_code
def yX8_standsAt : MethodName := ⟨RX8, "standsAt", "(I)I"⟩
abbrev cX8_looks : ByteArray := prog_10_method_9_code
def yX8_looks : MethodName := ⟨RX8, "looks", "(I)I"⟩
abbrev cX8_goTo : ByteArray := prog_10_method_10_code
def yX8_goTo : MethodName := ⟨RX8, "goTo", "(III)V"⟩
abbrev cX8_isRunning : ByteArray := prog_10_method_11_code
def yX8_isRunning : MethodName := ⟨RX8, "isRunning", "(I)Z"⟩
abbrev cX8_running : ByteArray := prog_10_method_12_code
def yX8_running : MethodName := ⟨RX8, "running", "()I"⟩
abbrev cX8_runner : ByteArray := prog_10_method_13_code
def yX8_runner : MethodName := ⟨RX8, "runner", "(I)I"⟩
abbrev cX8_beginRun : ByteArray := prog_10_method_14_code
def yX8_beginRun : MethodName := ⟨RX8, "beginRun", "(III)V"⟩
abbrev cX8_endRun : ByteArray := prog_10_method_15_code
def yX8_endRun : MethodName := ⟨RX8, "endRun", "(I)V"⟩
abbrev cX8_damps : ByteArray := prog_10_method_16_code
def yX8_damps : MethodName := ⟨RX8, "damps", "()I"⟩
abbrev cX8_addDamp : ByteArray := prog_10_method_17_code
def yX8_addDamp : MethodName := ⟨RX8, "addDamp", "()V"⟩
abbrev cX8_setting : ByteArray := prog_10_method_18_code
def yX8_setting : MethodName := ⟨RX8, "setting", "(I)I"⟩
abbrev cX8_locker : ByteArray := prog_10_method_19_code
def yX8_locker : MethodName := ⟨RX8, "locker", "(I)I"⟩
abbrev cX8_setPoint : ByteArray := prog_10_method_20_code
def yX8_setPoint : MethodName := ⟨RX8, "setPoint", "(III)V"⟩
def RX9 : String := "SwitchYard$Stock"
def TX9 : u_T := fun k => match k with
  | 0 => ("SwitchYard$Stock", "facts", "[I", true)
  | _ => ("SwitchYard$Stock", "pieces", "[I", true)
def tyX9 : Nat → FieldType := fun k => match k with
  | 0 => .array .int
  | _ => .array .int
abbrev wsX90 : List Cond := u_ws RX9 TX9 2
theorem nmX9 : ∀ a, a < 2 → ∀ b, b < 2 → a ≠ b → (TX9 a).2.1 ≠ (TX9 b).2.1 := by decide +kernel
theorem tyX9_ok : ∀ k, k < 2 → parseFieldDescriptor (TX9 k).2.2.1 = some (tyX9 k) := by decide +kernel
abbrev cX9_init : ByteArray := prog_11_method_1_code
def yX9_init : MethodName := ⟨RX9, "<init>", "()V"⟩
abbrev cX9_describe : ByteArray := prog_11_method_2_code
def yX9_describe : MethodName := ⟨RX9, "describe", "(IIII)V"⟩
abbrev cX9_get : ByteArray := prog_11_method_3_code
def yX9_get : MethodName := ⟨RX9, "get", "(II)I"⟩
abbrev cX9_set : ByteArray := prog_11_method_4_code
def yX9_set : MethodName := ⟨RX9, "set", "(III)V"⟩
abbrev cX9_isAs : ByteArray := prog_11_method_5_code
def yX9_isAs : MethodName := ⟨RX9, "isAs", "(II)Z"⟩
abbrev cX9_newLoad : ByteArray := prog_11_method_6_code
def yX9_newLoad : MethodName := ⟨RX9, "newLoad", "(III)V"⟩
abbrev cX9_pieceFinding : ByteArray := prog_11_method_7_code
def yX9_pieceFinding : MethodName := ⟨RX9, "pieceFinding", "(III)I"⟩
abbrev cX9_setPiece : ByteArray := prog_11_method_8_code
def yX9_setPiece : MethodName := ⟨RX9, "setPiece", "(III)V"⟩
abbrev cX9_putPiece : ByteArray := prog_11_method_9_code
def yX9_putPiece : MethodName := ⟨RX9, "putPiece", "(III)I"⟩
def RX10 : String := "SwitchYard$Trains"
def TX10 : u_T := fun k => match k with
  | 0 => ("SwitchYard$Trains", "state", "LSwitchYard$State;", true)
  | 1 => ("SwitchYard$Trains", "layout", "LSwitchYard$Layout;", true)
  | 2 => ("SwitchYard$Trains", "report", "LSwitchYard$Report;", true)
  | 3 => ("SwitchYard$Trains", "line", "[I", true)
  | 4 => ("SwitchYard$Trains", "length", "I", false)
  | _ => ("SwitchYard$Trains", "serials", "I", false)
def tyX10 : Nat → FieldType := fun k => match k with
  | 0 => .object "SwitchYard$State"
  | 1 => .object "SwitchYard$Layout"
  | 2 => .object "SwitchYard$Report"
  | 3 => .array .int
  | 4 => .int
  | _ => .int
abbrev wsX100 : List Cond := u_ws RX10 TX10 6
theorem nmX10 : ∀ a, a < 6 → ∀ b, b < 6 → a ≠ b → (TX10 a).2.1 ≠ (TX10 b).2.1 := by decide +kernel
theorem tyX10_ok : ∀ k, k < 6 → parseFieldDescriptor (TX10 k).2.2.1 = some (tyX10 k) := by decide +kernel
abbrev cX10_init : ByteArray := prog_12_method_1_code
def yX10_init : MethodName := ⟨RX10, "<init>", "(LSwitchYard$State;LSwitchYard$Layout;LSwitchYard$Report;)V"⟩
abbrev cX10_nextSerial : ByteArray := prog_12_method_2_code
def yX10_nextSerial : MethodName := ⟨RX10, "nextSerial", "()I"⟩
abbrev cX10_isCoupled : ByteArray := prog_12_method_3_code
def yX10_isCoupled : MethodName := ⟨RX10, "isCoupled", "(I)Z"⟩
abbrev cX10_onward : ByteArray := prog_12_method_4_code
def yX10_onward : MethodName := ⟨RX10, "onward", "(I)I"⟩
abbrev cX10_lineUp : ByteArray := prog_12_method_5_code
def yX10_lineUp : MethodName := ⟨RX10, "lineUp", "(I)V"⟩
abbrev cX10_hookInLine : ByteArray := prog_12_method_6_code
def yX10_hookInLine : MethodName := ⟨RX10, "hookInLine", "(I)I"⟩
abbrev cX10_inLine : ByteArray := prog_12_method_7_code
def yX10_inLine : MethodName := ⟨RX10, "inLine", "(I)I"⟩
abbrev cX10_setLine : ByteArray := prog_12_method_8_code
def yX10_setLine : MethodName := ⟨RX10, "setLine", "(II)V"⟩
abbrev cX10_nextFrom : ByteArray := prog_12_method_9_code
def yX10_nextFrom : MethodName := ⟨RX10, "nextFrom", "(I)I"⟩
abbrev cX10_hookAt : ByteArray := prog_12_method_10_code
def yX10_hookAt : MethodName := ⟨RX10, "hookAt", "(I)I"⟩
abbrev cX10_reachFinding : ByteArray := prog_12_method_11_code
def yX10_reachFinding : MethodName := ⟨RX10, "reachFinding", "(II)I"⟩
abbrev cX10_areOne : ByteArray := prog_12_method_12_code
def yX10_areOne : MethodName := ⟨RX10, "areOne", "(II)Z"⟩
abbrev cX10_joinHooks : ByteArray := prog_12_method_13_code
def yX10_joinHooks : MethodName := ⟨RX10, "joinHooks", "(II)V"⟩
abbrev cX10_cutHook : ByteArray := prog_12_method_14_code
def yX10_cutHook : MethodName := ⟨RX10, "cutHook", "(I)V"⟩
abbrev cX10_renew : ByteArray := prog_12_method_15_code
def yX10_renew : MethodName := ⟨RX10, "renew", "(I)V"⟩
abbrev cX10_raiseFinding : ByteArray := prog_12_method_16_code
def yX10_raiseFinding : MethodName := ⟨RX10, "raiseFinding", "(I)I"⟩
abbrev cX10_stepLine : ByteArray := prog_12_method_17_code
def yX10_stepLine : MethodName := ⟨RX10, "stepLine", "()I"⟩
abbrev cX10_moveLine : ByteArray := prog_12_method_18_code
def yX10_moveLine : MethodName := ⟨RX10, "moveLine", "(I)V"⟩
abbrev cX10_leaveFinding : ByteArray := prog_12_method_19_code
def yX10_leaveFinding : MethodName := ⟨RX10, "leaveFinding", "()I"⟩
abbrev cX10_looksOut : ByteArray := prog_12_method_20_code
def yX10_looksOut : MethodName := ⟨RX10, "looksOut", "(I)Z"⟩
abbrev cX10_runAll : ByteArray := prog_12_method_21_code
def yX10_runAll : MethodName := ⟨RX10, "runAll", "(I)I"⟩
abbrev cX10_runsOn : ByteArray := prog_12_method_22_code
def yX10_runsOn : MethodName := ⟨RX10, "runsOn", "(I)Z"⟩
def RX11 : String := "SwitchYard"
def TX11 : u_T := fun k => match k with
  | 0 => ("SwitchYard", "report", "LSwitchYard$Report;", true)
  | 1 => ("SwitchYard", "state", "LSwitchYard$State;", true)
  | 2 => ("SwitchYard", "history", "LSwitchYard$History;", true)
  | 3 => ("SwitchYard", "stock", "LSwitchYard$Stock;", true)
  | 4 => ("SwitchYard", "layout", "LSwitchYard$Layout;", true)
  | 5 => ("SwitchYard", "routes", "LSwitchYard$Routes;", true)
  | 6 => ("SwitchYard", "trains", "LSwitchYard$Trains;", true)
  | 7 => ("SwitchYard", "bodies", "LSwitchYard$Bodies;", true)
  | 8 => ("SwitchYard", "plans", "LSwitchYard$Plans;", true)
  | 9 => ("SwitchYard", "table", "[I", true)
  | _ => ("SwitchYard", "row", "[I", true)
def tyX11 : Nat → FieldType := fun k => match k with
  | 0 => .object "SwitchYard$Report"
  | 1 => .object "SwitchYard$State"
  | 2 => .object "SwitchYard$History"
  | 3 => .object "SwitchYard$Stock"
  | 4 => .object "SwitchYard$Layout"
  | 5 => .object "SwitchYard$Routes"
  | 6 => .object "SwitchYard$Trains"
  | 7 => .object "SwitchYard$Bodies"
  | 8 => .object "SwitchYard$Plans"
  | 9 => .array .int
  | _ => .array .int
abbrev wsX110 : List Cond := u_ws RX11 TX11 11
theorem nmX11 : ∀ a, a < 11 → ∀ b, b < 11 → a ≠ b → (TX11 a).2.1 ≠ (TX11 b).2.1 := by decide +kernel
theorem tyX11_ok : ∀ k, k < 11 → parseFieldDescriptor (TX11 k).2.2.1 = some (tyX11 k) := by decide +kernel
abbrev cX11_init : ByteArray := prog_1_method_1_code
def yX11_init : MethodName := ⟨RX11, "<init>", "()V"⟩
abbrev cX11_track : ByteArray := prog_1_method_2_code
def yX11_track : MethodName := ⟨RX11, "track", "(I)I"⟩
abbrev cX11_point : ByteArray := prog_1_method_3_code
def yX11_point : MethodName := ⟨RX11, "point", "(II)I"⟩
abbrev cX11_link : ByteArray := prog_1_method_4_code
def yX11_link : MethodName := ⟨RX11, "link", "(IIII)I"⟩
abbrev cX11_exit : ByteArray := prog_1_method_5_code
def yX11_exit : MethodName := ⟨RX11, "exit", "(IIZ)I"⟩
abbrev cX11_wagon : ByteArray := prog_1_method_6_code
def yX11_wagon : MethodName := ⟨RX11, "wagon", "(IIIII)I"⟩
abbrev cX11_engine : ByteArray := prog_1_method_7_code
def yX11_engine : MethodName := ⟨RX11, "engine", "(ZIII)I"⟩
abbrev cX11_standNew : ByteArray := prog_1_method_8_code
def yX11_standNew : MethodName := ⟨RX11, "standNew", "(IIIII)I"⟩
abbrev cX11_bar : ByteArray := prog_1_method_9_code
def yX11_bar : MethodName := ⟨RX11, "bar", "(IIZ)I"⟩
abbrev cX11_table : ByteArray := prog_1_method_10_code
def yX11_table : MethodName := ⟨RX11, "table", "(II)I"⟩
abbrev cX11_route : ByteArray := prog_1_method_11_code
def yX11_route : MethodName := ⟨RX11, "route", "()I"⟩
abbrev cX11_via : ByteArray := prog_1_method_12_code
def yX11_via : MethodName := ⟨RX11, "via", "(IIII)I"⟩
abbrev cX11_load : ByteArray := prog_1_method_13_code
def yX11_load : MethodName := ⟨RX11, "load", "(III)I"⟩
abbrev cX11_piece : ByteArray := prog_1_method_14_code
def yX11_piece : MethodName := ⟨RX11, "piece", "(IIII)I"⟩
abbrev cX11_danger : ByteArray := prog_1_method_15_code
def yX11_danger : MethodName := ⟨RX11, "danger", "(II)I"⟩
abbrev cX11_hold : ByteArray := prog_1_method_16_code
def yX11_hold : MethodName := ⟨RX11, "hold", "(II)I"⟩
abbrev cX11_jam : ByteArray := prog_1_method_17_code
def yX11_jam : MethodName := ⟨RX11, "jam", "(II)I"⟩
abbrev cX11_raise : ByteArray := prog_1_method_18_code
def yX11_raise : MethodName := ⟨RX11, "raise", "(I)I"⟩
abbrev cX11_turn : ByteArray := prog_1_method_19_code
def yX11_turn : MethodName := ⟨RX11, "turn", "(II)I"⟩
abbrev cX11_lock : ByteArray := prog_1_method_20_code
def yX11_lock : MethodName := ⟨RX11, "lock", "(I)I"⟩
abbrev cX11_free : ByteArray := prog_1_method_21_code
def yX11_free : MethodName := ⟨RX11, "free", "(I)I"⟩
abbrev cX11_couple : ByteArray := prog_1_method_22_code
def yX11_couple : MethodName := ⟨RX11, "couple", "(II)I"⟩
abbrev cX11_part : ByteArray := prog_1_method_23_code
def yX11_part : MethodName := ⟨RX11, "part", "(II)I"⟩
abbrev cX11_pull : ByteArray := prog_1_method_24_code
def yX11_pull : MethodName := ⟨RX11, "pull", "(III)I"⟩
abbrev cX11_kick : ByteArray := prog_1_method_25_code
def yX11_kick : MethodName := ⟨RX11, "kick", "(II)I"⟩
abbrev cX11_step : ByteArray := prog_1_method_26_code
def yX11_step : MethodName := ⟨RX11, "step", "(I)I"⟩
abbrev cX11_test : ByteArray := prog_1_method_27_code
def yX11_test : MethodName := ⟨RX11, "test", "(I)I"⟩
abbrev cX11_leave : ByteArray := prog_1_method_28_code
def yX11_leave : MethodName := ⟨RX11, "leave", "(I)I"⟩
abbrev cX11_roll : ByteArray := prog_1_method_29_code
def yX11_roll : MethodName := ⟨RX11, "roll", "(III)I"⟩
abbrev cX11_store : ByteArray := prog_1_method_30_code
def yX11_store : MethodName := ⟨RX11, "store", "(II)I"⟩
abbrev cX11_beginAct : ByteArray := prog_1_method_31_code
def yX11_beginAct : MethodName := ⟨RX11, "beginAct", "()V"⟩
abbrev cX11_endAct : ByteArray := prog_1_method_32_code
def yX11_endAct : MethodName := ⟨RX11, "endAct", "(II)I"⟩
abbrev cX11_change : ByteArray := prog_1_method_33_code
def yX11_change : MethodName := ⟨RX11, "change", "(IIII)I"⟩
abbrev cX11_coupleAhead : ByteArray := prog_1_method_34_code
def yX11_coupleAhead : MethodName := ⟨RX11, "coupleAhead", "(II)I"⟩
abbrev cX11_partFrom : ByteArray := prog_1_method_35_code
def yX11_partFrom : MethodName := ⟨RX11, "partFrom", "(II)I"⟩
abbrev cX11_pullBy : ByteArray := prog_1_method_36_code
def yX11_pullBy : MethodName := ⟨RX11, "pullBy", "(III)I"⟩
abbrev cX11_lineWeight : ByteArray := prog_1_method_37_code
def yX11_lineWeight : MethodName := ⟨RX11, "lineWeight", "()I"⟩
abbrev cX11_linePulls : ByteArray := prog_1_method_38_code
def yX11_linePulls : MethodName := ⟨RX11, "linePulls", "()I"⟩
abbrev cX11_kickTo : ByteArray := prog_1_method_39_code
def yX11_kickTo : MethodName := ⟨RX11, "kickTo", "(II)I"⟩
abbrev cX11_testAll : ByteArray := prog_1_method_40_code
def yX11_testAll : MethodName := ⟨RX11, "testAll", "(I)I"⟩
abbrev cX11_leaveYard : ByteArray := prog_1_method_41_code
def yX11_leaveYard : MethodName := ⟨RX11, "leaveYard", "(I)I"⟩
abbrev cX11_rolled : ByteArray := prog_1_method_42_code
def yX11_rolled : MethodName := ⟨RX11, "rolled", "(I)I"⟩
abbrev cX11_at : ByteArray := prog_1_method_43_code
def yX11_at : MethodName := ⟨RX11, "at", "(II)I"⟩
abbrev cX11_thing : ByteArray := prog_1_method_44_code
def yX11_thing : MethodName := ⟨RX11, "thing", "(II)I"⟩
abbrev cX11_pointed : ByteArray := prog_1_method_45_code
def yX11_pointed : MethodName := ⟨RX11, "pointed", "(II)I"⟩
abbrev cX11_ask : ByteArray := prog_1_method_46_code
def yX11_ask : MethodName := ⟨RX11, "ask", "(II)I"⟩
abbrev cX11_wantedFor : ByteArray := prog_1_method_47_code
def yX11_wantedFor : MethodName := ⟨RX11, "wantedFor", "(I)I"⟩
abbrev cX11_orZero : ByteArray := prog_1_method_48_code
def yX11_orZero : MethodName := ⟨RX11, "orZero", "(I)I"⟩
abbrev cX11_meet : ByteArray := prog_1_method_49_code
def yX11_meet : MethodName := ⟨RX11, "meet", "(III)I"⟩
abbrev cX11_weigh : ByteArray := prog_1_method_50_code
def yX11_weigh : MethodName := ⟨RX11, "weigh", "(I)I"⟩
abbrev cX11_share : ByteArray := prog_1_method_51_code
def yX11_share : MethodName := ⟨RX11, "share", "(I)I"⟩
abbrev cX11_consist : ByteArray := prog_1_method_52_code
def yX11_consist : MethodName := ⟨RX11, "consist", "(II)I"⟩
abbrev cX11_finding : ByteArray := prog_1_method_53_code
def yX11_finding : MethodName := ⟨RX11, "finding", "(I)I"⟩
abbrev cX11_count : ByteArray := prog_1_method_54_code
def yX11_count : MethodName := ⟨RX11, "count", "(I)I"⟩
abbrev cX11_trace : ByteArray := prog_1_method_55_code
def yX11_trace : MethodName := ⟨RX11, "trace", "(I)I"⟩
abbrev cX11_undo : ByteArray := prog_1_method_56_code
def yX11_undo : MethodName := ⟨RX11, "undo", "()I"⟩
abbrev cX11_back : ByteArray := prog_1_method_57_code
def yX11_back : MethodName := ⟨RX11, "back", "()I"⟩
abbrev cX11_digest : ByteArray := prog_1_method_58_code
def yX11_digest : MethodName := ⟨RX11, "digest", "()J"⟩
abbrev cX11_digestThing : ByteArray := prog_1_method_59_code
def yX11_digestThing : MethodName := ⟨RX11, "digestThing", "(JI)J"⟩
abbrev cX11_log : ByteArray := prog_1_method_60_code
def yX11_log : MethodName := ⟨RX11, "log", "(II)I"⟩
abbrev cX11_room : ByteArray := prog_1_method_61_code
def yX11_room : MethodName := ⟨RX11, "room", "(II)I"⟩
abbrev cX11_lay : ByteArray := prog_1_method_62_code
def yX11_lay : MethodName := ⟨RX11, "lay", "(ZII)I"⟩
abbrev cX11_wipe : ByteArray := prog_1_method_63_code
def yX11_wipe : MethodName := ⟨RX11, "wipe", "()I"⟩
abbrev cX11_plan : ByteArray := prog_1_method_64_code
def yX11_plan : MethodName := ⟨RX11, "plan", "(I)I"⟩
abbrev cX11_move : ByteArray := prog_1_method_65_code
def yX11_move : MethodName := ⟨RX11, "move", "(II)I"⟩
abbrev cX11_bound : ByteArray := prog_1_method_66_code
def yX11_bound : MethodName := ⟨RX11, "bound", "()I"⟩
abbrev cX11_proof : ByteArray := prog_1_method_67_code
def yX11_proof : MethodName := ⟨RX11, "proof", "(I)I"⟩
abbrev cX11_spoil : ByteArray := prog_1_method_68_code
def yX11_spoil : MethodName := ⟨RX11, "spoil", "(II)I"⟩
abbrev cX11_check : ByteArray := prog_1_method_69_code
def yX11_check : MethodName := ⟨RX11, "check", "()I"⟩
abbrev cX11_isNot : ByteArray := prog_1_method_70_code
def yX11_isNot : MethodName := ⟨RX11, "isNot", "(III)Z"⟩
abbrev cX11_named : ByteArray := prog_1_method_71_code
def yX11_named : MethodName := ⟨RX11, "named", "(II)I"⟩
abbrev cX11_namedSide : ByteArray := prog_1_method_72_code
def yX11_namedSide : MethodName := ⟨RX11, "namedSide", "(III)I"⟩
def RX12 : String := "SwitchYardModel"
def TX12 : u_T := fun k => match k with
  | 0 => ("SwitchYardModel", "failure", "I", false)
  | 1 => ("SwitchYardModel", "faultTold", "I", false)
  | 2 => ("SwitchYardModel", "stepsTold", "I", false)
  | 3 => ("SwitchYardModel", "lockTold", "I", false)
  | 4 => ("SwitchYardModel", "ever", "[I", true)
  | 5 => ("SwitchYardModel", "traces", "I", false)
  | 6 => ("SwitchYardModel", "traced", "[I", true)
  | 7 => ("SwitchYardModel", "tracks", "I", false)
  | 8 => ("SwitchYardModel", "places", "[I", true)
  | 9 => ("SwitchYardModel", "isExit", "[Z", true)
  | 10 => ("SwitchYardModel", "pointAt", "[I", true)
  | 11 => ("SwitchYardModel", "linkMany", "[I", true)
  | 12 => ("SwitchYardModel", "linkTo", "[I", true)
  | 13 => ("SwitchYardModel", "linkId", "[I", true)
  | 14 => ("SwitchYardModel", "links", "I", false)
  | 15 => ("SwitchYardModel", "points", "I", false)
  | 16 => ("SwitchYardModel", "pointEnd", "[I", true)
  | 17 => ("SwitchYardModel", "setTo", "[I", true)
  | 18 => ("SwitchYardModel", "lockedBy", "[I", true)
  | 19 => ("SwitchYardModel", "routes", "I", false)
  | 20 => ("SwitchYardModel", "entries", "[I", true)
  | 21 => ("SwitchYardModel", "entryPoint", "[I", true)
  | 22 => ("SwitchYardModel", "entryLink", "[I", true)
  | 23 => ("SwitchYardModel", "entryRank", "[I", true)
  | 24 => ("SwitchYardModel", "barred", "[Z", true)
  | 25 => ("SwitchYardModel", "table", "[I", true)
  | 26 => ("SwitchYardModel", "nextTrack", "I", false)
  | 27 => ("SwitchYardModel", "nextPlace", "I", false)
  | 28 => ("SwitchYardModel", "nextWay", "I", false)
  | 29 => ("SwitchYardModel", "made", "I", false)
  | 30 => ("SwitchYardModel", "kind", "[I", true)
  | 31 => ("SwitchYardModel", "isThere", "[Z", true)
  | 32 => ("SwitchYardModel", "track0", "[I", true)
  | 33 => ("SwitchYardModel", "place0", "[I", true)
  | 34 => ("SwitchYardModel", "looks", "[I", true)
  | 35 => ("SwitchYardModel", "coupled", "[I", true)
  | 36 => ("SwitchYardModel", "serial", "[I", true)
  | 37 => ("SwitchYardModel", "fault", "[I", true)
  | 38 => ("SwitchYardModel", "jammed", "[I", true)
  | 39 => ("SwitchYardModel", "dangerOf", "[I", true)
  | 40 => ("SwitchYardModel", "axlesOf", "[I", true)
  | 41 => ("SwitchYardModel", "strength", "[I", true)
  | 42 => ("SwitchYardModel", "left", "[I", true)
  | 43 => ("SwitchYardModel", "isRunning", "[Z", true)
  | 44 => ("SwitchYardModel", "runSide", "[I", true)
  | 45 => ("SwitchYardModel", "began", "[I", true)
  | 46 => ("SwitchYardModel", "isTested", "[Z", true)
  | 47 => ("SwitchYardModel", "begun", "I", false)
  | 48 => ("SwitchYardModel", "damps", "I", false)
  | 49 => ("SwitchYardModel", "serials", "I", false)
  | 50 => ("SwitchYardModel", "loadMany", "[I", true)
  | 51 => ("SwitchYardModel", "loadSort", "[I", true)
  | 52 => ("SwitchYardModel", "pieces", "[I", true)
  | 53 => ("SwitchYardModel", "roster", "[I", true)
  | 54 => ("SwitchYardModel", "byNone", "Z", false)
  | 55 => ("SwitchYardModel", "row", "[I", true)
  | 56 => ("SwitchYardModel", "rowMany", "I", false)
  | 57 => ("SwitchYardModel", "firstSide", "I", false)
  | 58 => ("SwitchYardModel", "lastSide", "I", false)
  | 59 => ("SwitchYardModel", "kept", "[I", true)
  | 60 => ("SwitchYardModel", "undoMany", "I", false)
  | 61 => ("SwitchYardModel", "backMany", "I", false)
  | 62 => ("SwitchYardModel", "logged", "I", false)
  | 63 => ("SwitchYardModel", "logAct", "[I", true)
  | 64 => ("SwitchYardModel", "logAnswer", "[I", true)
  | 65 => ("SwitchYardModel", "setBefore", "[I", true)
  | 66 => ("SwitchYardModel", "partner", "I", false)
  | 67 => ("SwitchYardModel", "partnerSide", "I", false)
  | 68 => ("SwitchYardModel", "line", "[I", true)
  | 69 => ("SwitchYardModel", "ahead", "[I", true)
  | 70 => ("SwitchYardModel", "lineMany", "I", false)
  | 71 => ("SwitchYardModel", "rooms", "[I", true)
  | 72 => ("SwitchYardModel", "startMany", "[I", true)
  | 73 => ("SwitchYardModel", "startOn", "[I", true)
  | 74 => ("SwitchYardModel", "goalMany", "[I", true)
  | 75 => ("SwitchYardModel", "goalOn", "[I", true)
  | 76 => ("SwitchYardModel", "planWay", "I", false)
  | 77 => ("SwitchYardModel", "moves", "I", false)
  | 78 => ("SwitchYardModel", "moveFrom", "[I", true)
  | 79 => ("SwitchYardModel", "moveTo", "[I", true)
  | 80 => ("SwitchYardModel", "moveMany", "[I", true)
  | 81 => ("SwitchYardModel", "planWagons", "I", false)
  | 82 => ("SwitchYardModel", "planWagon", "[I", true)
  | 83 => ("SwitchYardModel", "potential", "[I", true)
  | 84 => ("SwitchYardModel", "passed", "[I", true)
  | 85 => ("SwitchYardModel", "on", "[I", true)
  | 86 => ("SwitchYardModel", "many", "[I", true)
  | 87 => ("SwitchYardModel", "flat", "[I", true)
  | _ => ("SwitchYardModel", "queue", "[I", true)
def tyX12 : Nat → FieldType := fun k => match k with
  | 0 => .int
  | 1 => .int
  | 2 => .int
  | 3 => .int
  | 4 => .array .int
  | 5 => .int
  | 6 => .array .int
  | 7 => .int
  | 8 => .array .int
  | 9 => .array .boolean
  | 10 => .array .int
  | 11 => .array .int
  | 12 => .array .int
  | 13 => .array .int
  | 14 => .int
  | 15 => .int
  | 16 => .array .int
  | 17 => .array .int
  | 18 => .array .int
  | 19 => .int
  | 20 => .array .int
  | 21 => .array .int
  | 22 => .array .int
  | 23 => .array .int
  | 24 => .array .boolean
  | 25 => .array .int
  | 26 => .int
  | 27 => .int
  | 28 => .int
  | 29 => .int
  | 30 => .array .int
  | 31 => .array .boolean
  | 32 => .array .int
  | 33 => .array .int
  | 34 => .array .int
  | 35 => .array .int
  | 36 => .array .int
  | 37 => .array .int
  | 38 => .array .int
  | 39 => .array .int
  | 40 => .array .int
  | 41 => .array .int
  | 42 => .array .int
  | 43 => .array .boolean
  | 44 => .array .int
  | 45 => .array .int
  | 46 => .array .boolean
  | 47 => .int
  | 48 => .int
  | 49 => .int
  | 50 => .array .int
  | 51 => .array .int
  | 52 => .array .int
  | 53 => .array .int
  | 54 => .boolean
  | 55 => .array .int
  | 56 => .int
  | 57 => .int
  | 58 => .int
  | 59 => .array .int
  | 60 => .int
  | 61 => .int
  | 62 => .int
  | 63 => .array .int
  | 64 => .array .int
  | 65 => .array .int
  | 66 => .int
  | 67 => .int
  | 68 => .array .int
  | 69 => .array .int
  | 70 => .int
  | 71 => .array .int
  | 72 => .array .int
  | 73 => .array .int
  | 74 => .array .int
  | 75 => .array .int
  | 76 => .int
  | 77 => .int
  | 78 => .array .int
  | 79 => .array .int
  | 80 => .array .int
  | 81 => .int
  | 82 => .array .int
  | 83 => .array .int
  | 84 => .array .int
  | 85 => .array .int
  | 86 => .array .int
  | 87 => .array .int
  | _ => .array .int
abbrev wsX120 : List Cond := u_ws RX12 TX12 89
theorem nmX12 : ∀ a, a < 89 → ∀ b, b < 89 → a ≠ b → (TX12 a).2.1 ≠ (TX12 b).2.1 := by decide +kernel
theorem tyX12_ok : ∀ k, k < 89 → parseFieldDescriptor (TX12 k).2.2.1 = some (tyX12 k) := by decide +kernel
abbrev cX12_init : ByteArray := prog_14_method_1_code
def yX12_init : MethodName := ⟨RX12, "<init>", "()V"⟩
abbrev cX12_begin : ByteArray := prog_14_method_2_code
def yX12_begin : MethodName := ⟨RX12, "begin", "()V"⟩
abbrev cX12_found : ByteArray := prog_14_method_3_code
def yX12_found : MethodName := ⟨RX12, "found", "(I)I"⟩
abbrev cX12_ends : ByteArray := prog_14_method_4_code
def yX12_ends : MethodName := ⟨RX12, "ends", "(I)Z"⟩
abbrev cX12_note : ByteArray := prog_14_method_5_code
def yX12_note : MethodName := ⟨RX12, "note", "(I)V"⟩
abbrev cX12_finding : ByteArray := prog_14_method_6_code
def yX12_finding : MethodName := ⟨RX12, "finding", "(I)I"⟩
abbrev cX12_trace : ByteArray := prog_14_method_7_code
def yX12_trace : MethodName := ⟨RX12, "trace", "(I)I"⟩
abbrev cX12_missTrack : ByteArray := prog_14_method_8_code
def yX12_missTrack : MethodName := ⟨RX12, "missTrack", "(I)I"⟩
abbrev cX12_missPoint : ByteArray := prog_14_method_9_code
def yX12_missPoint : MethodName := ⟨RX12, "missPoint", "(I)I"⟩
abbrev cX12_missRoute : ByteArray := prog_14_method_10_code
def yX12_missRoute : MethodName := ⟨RX12, "missRoute", "(I)I"⟩
abbrev cX12_missPlace : ByteArray := prog_14_method_11_code
def yX12_missPlace : MethodName := ⟨RX12, "missPlace", "(II)I"⟩
abbrev cX12_isSide : ByteArray := prog_14_method_12_code
def yX12_isSide : MethodName := ⟨RX12, "isSide", "(I)Z"⟩
abbrev cX12_track : ByteArray := prog_14_method_13_code
def yX12_track : MethodName := ⟨RX12, "track", "(I)I"⟩
abbrev cX12_point : ByteArray := prog_14_method_14_code
def yX12_point : MethodName := ⟨RX12, "point", "(II)I"⟩
abbrev cX12_mostLinks : ByteArray := prog_14_method_15_code
def yX12_mostLinks : MethodName := ⟨RX12, "mostLinks", "(I)I"⟩
abbrev cX12_link : ByteArray := prog_14_method_16_code
def yX12_link : MethodName := ⟨RX12, "link", "(IIII)I"⟩
abbrev cX12_exit : ByteArray := prog_14_method_17_code
def yX12_exit : MethodName := ⟨RX12, "exit", "(IIZ)I"⟩
abbrev cX12_placeAtEnd : ByteArray := prog_14_method_18_code
def yX12_placeAtEnd : MethodName := ⟨RX12, "placeAtEnd", "(I)I"⟩
abbrev cX12_openLink : ByteArray := prog_14_method_19_code
def yX12_openLink : MethodName := ⟨RX12, "openLink", "(I)I"⟩
abbrev cX12_isOpen : ByteArray := prog_14_method_20_code
def yX12_isOpen : MethodName := ⟨RX12, "isOpen", "(III)Z"⟩
abbrev cX12_bar : ByteArray := prog_14_method_21_code
def yX12_bar : MethodName := ⟨RX12, "bar", "(IIZ)I"⟩
abbrev cX12_table : ByteArray := prog_14_method_22_code
def yX12_table : MethodName := ⟨RX12, "table", "(II)I"⟩
abbrev cX12_route : ByteArray := prog_14_method_23_code
def yX12_route : MethodName := ⟨RX12, "route", "()I"⟩
abbrev cX12_isLocking : ByteArray := prog_14_method_24_code
def yX12_isLocking : MethodName := ⟨RX12, "isLocking", "(I)Z"⟩
abbrev cX12_via : ByteArray := prog_14_method_25_code
def yX12_via : MethodName := ⟨RX12, "via", "(IIII)I"⟩
abbrev cX12_standing : ByteArray := prog_14_method_26_code
def yX12_standing : MethodName := ⟨RX12, "standing", "(II)I"⟩
abbrev cX12_put : ByteArray := prog_14_method_27_code
def yX12_put : MethodName := ⟨RX12, "put", "(IIIII)I"⟩
abbrev cX12_missFree : ByteArray := prog_14_method_28_code
def yX12_missFree : MethodName := ⟨RX12, "missFree", "(II)I"⟩
abbrev cX12_wagon : ByteArray := prog_14_method_29_code
def yX12_wagon : MethodName := ⟨RX12, "wagon", "(IIIII)I"⟩
abbrev cX12_engine : ByteArray := prog_14_method_30_code
def yX12_engine : MethodName := ⟨RX12, "engine", "(ZIII)I"⟩
abbrev cX12_isSuch : ByteArray := prog_14_method_31_code
def yX12_isSuch : MethodName := ⟨RX12, "isSuch", "(II)Z"⟩
abbrev cX12_missThing : ByteArray := prog_14_method_32_code
def yX12_missThing : MethodName := ⟨RX12, "missThing", "(II)I"⟩
abbrev cX12_missSide : ByteArray := prog_14_method_33_code
def yX12_missSide : MethodName := ⟨RX12, "missSide", "(III)I"⟩
abbrev cX12_load : ByteArray := prog_14_method_34_code
def yX12_load : MethodName := ⟨RX12, "load", "(III)I"⟩
abbrev cX12_piece : ByteArray := prog_14_method_35_code
def yX12_piece : MethodName := ⟨RX12, "piece", "(IIII)I"⟩
abbrev cX12_loaded : ByteArray := prog_14_method_36_code
def yX12_loaded : MethodName := ⟨RX12, "loaded", "(I)I"⟩
abbrev cX12_weight : ByteArray := prog_14_method_37_code
def yX12_weight : MethodName := ⟨RX12, "weight", "(I)I"⟩
abbrev cX12_brake : ByteArray := prog_14_method_38_code
def yX12_brake : MethodName := ⟨RX12, "brake", "(I)I"⟩
abbrev cX12_heavy : ByteArray := prog_14_method_39_code
def yX12_heavy : MethodName := ⟨RX12, "heavy", "(I)I"⟩
abbrev cX12_perAxle : ByteArray := prog_14_method_40_code
def yX12_perAxle : MethodName := ⟨RX12, "perAxle", "(I)I"⟩
abbrev cX12_hasEngine : ByteArray := prog_14_method_41_code
def yX12_hasEngine : MethodName := ⟨RX12, "hasEngine", "(I)Z"⟩
abbrev cX12_pulls : ByteArray := prog_14_method_42_code
def yX12_pulls : MethodName := ⟨RX12, "pulls", "(I)I"⟩
abbrev cX12_suits : ByteArray := prog_14_method_43_code
def yX12_suits : MethodName := ⟨RX12, "suits", "(II)Z"⟩
abbrev cX12_sideTo : ByteArray := prog_14_method_44_code
def yX12_sideTo : MethodName := ⟨RX12, "sideTo", "(II)I"⟩
abbrev cX12_lineUp : ByteArray := prog_14_method_45_code
def yX12_lineUp : MethodName := ⟨RX12, "lineUp", "(I)V"⟩
abbrev cX12_renumber : ByteArray := prog_14_method_46_code
def yX12_renumber : MethodName := ⟨RX12, "renumber", "(I)V"⟩
abbrev cX12_forget : ByteArray := prog_14_method_47_code
def yX12_forget : MethodName := ⟨RX12, "forget", "()V"⟩
abbrev cX12_save : ByteArray := prog_14_method_48_code
def yX12_save : MethodName := ⟨RX12, "save", "(I)V"⟩
abbrev cX12_restore : ByteArray := prog_14_method_49_code
def yX12_restore : MethodName := ⟨RX12, "restore", "(I)V"⟩
abbrev cX12_keep : ByteArray := prog_14_method_50_code
def yX12_keep : MethodName := ⟨RX12, "keep", "()V"⟩
abbrev cX12_entered : ByteArray := prog_14_method_51_code
def yX12_entered : MethodName := ⟨RX12, "entered", "(II)I"⟩
abbrev cX12_undo : ByteArray := prog_14_method_52_code
def yX12_undo : MethodName := ⟨RX12, "undo", "()I"⟩
abbrev cX12_back : ByteArray := prog_14_method_53_code
def yX12_back : MethodName := ⟨RX12, "back", "()I"⟩
abbrev cX12_log : ByteArray := prog_14_method_54_code
def yX12_log : MethodName := ⟨RX12, "log", "(II)I"⟩
abbrev cX12_danger : ByteArray := prog_14_method_55_code
def yX12_danger : MethodName := ⟨RX12, "danger", "(II)I"⟩
abbrev cX12_hold : ByteArray := prog_14_method_56_code
def yX12_hold : MethodName := ⟨RX12, "hold", "(II)I"⟩
abbrev cX12_jam : ByteArray := prog_14_method_57_code
def yX12_jam : MethodName := ⟨RX12, "jam", "(II)I"⟩
abbrev cX12_raised : ByteArray := prog_14_method_58_code
def yX12_raised : MethodName := ⟨RX12, "raised", "(I)I"⟩
abbrev cX12_raise : ByteArray := prog_14_method_59_code
def yX12_raise : MethodName := ⟨RX12, "raise", "(I)I"⟩
abbrev cX12_isUnder : ByteArray := prog_14_method_60_code
def yX12_isUnder : MethodName := ⟨RX12, "isUnder", "(I)Z"⟩
abbrev cX12_missTurn : ByteArray := prog_14_method_61_code
def yX12_missTurn : MethodName := ⟨RX12, "missTurn", "(II)I"⟩
abbrev cX12_turn : ByteArray := prog_14_method_62_code
def yX12_turn : MethodName := ⟨RX12, "turn", "(II)I"⟩
abbrev cX12_missEntry : ByteArray := prog_14_method_63_code
def yX12_missEntry : MethodName := ⟨RX12, "missEntry", "(I)I"⟩
abbrev cX12_lock : ByteArray := prog_14_method_64_code
def yX12_lock : MethodName := ⟨RX12, "lock", "(I)I"⟩
abbrev cX12_free : ByteArray := prog_14_method_65_code
def yX12_free : MethodName := ⟨RX12, "free", "(I)I"⟩
abbrev cX12_wayOf : ByteArray := prog_14_method_66_code
def yX12_wayOf : MethodName := ⟨RX12, "wayOf", "(II)I"⟩
abbrev cX12_areTogether : ByteArray := prog_14_method_67_code
def yX12_areTogether : MethodName := ⟨RX12, "areTogether", "(II)Z"⟩
abbrev cX12_missCouple : ByteArray := prog_14_method_68_code
def yX12_missCouple : MethodName := ⟨RX12, "missCouple", "(II)I"⟩
abbrev cX12_couple : ByteArray := prog_14_method_69_code
def yX12_couple : MethodName := ⟨RX12, "couple", "(II)I"⟩
abbrev cX12_part : ByteArray := prog_14_method_70_code
def yX12_part : MethodName := ⟨RX12, "part", "(II)I"⟩
abbrev cX12_follow : ByteArray := prog_14_method_71_code
def yX12_follow : MethodName := ⟨RX12, "follow", "(II)V"⟩
abbrev cX12_missStep : ByteArray := prog_14_method_72_code
def yX12_missStep : MethodName := ⟨RX12, "missStep", "()I"⟩
abbrev cX12_place : ByteArray := prog_14_method_73_code
def yX12_place : MethodName := ⟨RX12, "place", "(IIIII)V"⟩
abbrev cX12_goOn : ByteArray := prog_14_method_74_code
def yX12_goOn : MethodName := ⟨RX12, "goOn", "()V"⟩
abbrev cX12_missPull : ByteArray := prog_14_method_75_code
def yX12_missPull : MethodName := ⟨RX12, "missPull", "(II)I"⟩
abbrev cX12_pull : ByteArray := prog_14_method_76_code
def yX12_pull : MethodName := ⟨RX12, "pull", "(III)I"⟩
abbrev cX12_kick : ByteArray := prog_14_method_77_code
def yX12_kick : MethodName := ⟨RX12, "kick", "(II)I"⟩
abbrev cX12_stop : ByteArray := prog_14_method_78_code
def yX12_stop : MethodName := ⟨RX12, "stop", "(I)V"⟩
abbrev cX12_run : ByteArray := prog_14_method_79_code
def yX12_run : MethodName := ⟨RX12, "run", "(I)V"⟩
abbrev cX12_running : ByteArray := prog_14_method_80_code
def yX12_running : MethodName := ⟨RX12, "running", "()I"⟩
abbrev cX12_nextRunning : ByteArray := prog_14_method_81_code
def yX12_nextRunning : MethodName := ⟨RX12, "nextRunning", "(I)I"⟩
abbrev cX12_step : ByteArray := prog_14_method_82_code
def yX12_step : MethodName := ⟨RX12, "step", "(I)I"⟩
abbrev cX12_test : ByteArray := prog_14_method_83_code
def yX12_test : MethodName := ⟨RX12, "test", "(I)I"⟩
abbrev cX12_mayLeave : ByteArray := prog_14_method_84_code
def yX12_mayLeave : MethodName := ⟨RX12, "mayLeave", "(II)Z"⟩
abbrev cX12_missLeave : ByteArray := prog_14_method_85_code
def yX12_missLeave : MethodName := ⟨RX12, "missLeave", "(I)I"⟩
abbrev cX12_leave : ByteArray := prog_14_method_86_code
def yX12_leave : MethodName := ⟨RX12, "leave", "(I)I"⟩
abbrev cX12_roll : ByteArray := prog_14_method_87_code
def yX12_roll : MethodName := ⟨RX12, "roll", "(III)I"⟩
abbrev cX12_store : ByteArray := prog_14_method_88_code
def yX12_store : MethodName := ⟨RX12, "store", "(II)I"⟩
abbrev cX12_rolled : ByteArray := prog_14_method_89_code
def yX12_rolled : MethodName := ⟨RX12, "rolled", "(I)I"⟩
abbrev cX12_at : ByteArray := prog_14_method_90_code
def yX12_at : MethodName := ⟨RX12, "at", "(II)I"⟩
abbrev cX12_thing : ByteArray := prog_14_method_91_code
def yX12_thing : MethodName := ⟨RX12, "thing", "(II)I"⟩
abbrev cX12_pointed : ByteArray := prog_14_method_92_code
def yX12_pointed : MethodName := ⟨RX12, "pointed", "(II)I"⟩
abbrev cX12_ask : ByteArray := prog_14_method_93_code
def yX12_ask : MethodName := ⟨RX12, "ask", "(II)I"⟩
abbrev cX12_meet : ByteArray := prog_14_method_94_code
def yX12_meet : MethodName := ⟨RX12, "meet", "(III)I"⟩
abbrev cX12_weigh : ByteArray := prog_14_method_95_code
def yX12_weigh : MethodName := ⟨RX12, "weigh", "(I)I"⟩
abbrev cX12_share : ByteArray := prog_14_method_96_code
def yX12_share : MethodName := ⟨RX12, "share", "(I)I"⟩
abbrev cX12_consist : ByteArray := prog_14_method_97_code
def yX12_consist : MethodName := ⟨RX12, "consist", "(II)I"⟩
abbrev cX12_count : ByteArray := prog_14_method_98_code
def yX12_count : MethodName := ⟨RX12, "count", "(I)I"⟩
abbrev cX12_digest : ByteArray := prog_14_method_99_code
def yX12_digest : MethodName := ⟨RX12, "digest", "()J"⟩
abbrev cX12_room : ByteArray := prog_14_method_100_code
def yX12_room : MethodName := ⟨RX12, "room", "(II)I"⟩
abbrev cX12_has : ByteArray := prog_14_method_101_code
def yX12_has : MethodName := ⟨RX12, "has", "([I[II)Z"⟩
abbrev cX12_laid : ByteArray := prog_14_method_102_code
def yX12_laid : MethodName := ⟨RX12, "laid", "([I[III)I"⟩
abbrev cX12_lay : ByteArray := prog_14_method_103_code
def yX12_lay : MethodName := ⟨RX12, "lay", "(ZII)I"⟩
abbrev cX12_sumOf : ByteArray := prog_14_method_104_code
def yX12_sumOf : MethodName := ⟨RX12, "sumOf", "([I)I"⟩
abbrev cX12_wipe : ByteArray := prog_14_method_105_code
def yX12_wipe : MethodName := ⟨RX12, "wipe", "()I"⟩
abbrev cX12_areSame : ByteArray := prog_14_method_106_code
def yX12_areSame : MethodName := ⟨RX12, "areSame", "()Z"⟩
abbrev cX12_take : ByteArray := prog_14_method_107_code
def yX12_take : MethodName := ⟨RX12, "take", "(Z)V"⟩
abbrev cX12_mayMove : ByteArray := prog_14_method_108_code
def yX12_mayMove : MethodName := ⟨RX12, "mayMove", "(III)Z"⟩
abbrev cX12_shift : ByteArray := prog_14_method_109_code
def yX12_shift : MethodName := ⟨RX12, "shift", "(III)V"⟩
abbrev cX12_rankOf : ByteArray := prog_14_method_110_code
def yX12_rankOf : MethodName := ⟨RX12, "rankOf", "(I)I"⟩
abbrev cX12_code : ByteArray := prog_14_method_111_code
def yX12_code : MethodName := ⟨RX12, "code", "()I"⟩
abbrev cX12_decode : ByteArray := prog_14_method_112_code
def yX12_decode : MethodName := ⟨RX12, "decode", "(I)V"⟩
abbrev cX12_measure : ByteArray := prog_14_method_113_code
def yX12_measure : MethodName := ⟨RX12, "measure", "()V"⟩
abbrev cX12_hasFallen : ByteArray := prog_14_method_114_code
def yX12_hasFallen : MethodName := ⟨RX12, "hasFallen", "(IIII)Z"⟩
abbrev cX12_wander : ByteArray := prog_14_method_115_code
def yX12_wander : MethodName := ⟨RX12, "wander", "(I)V"⟩
abbrev cX12_widest : ByteArray := prog_14_method_116_code
def yX12_widest : MethodName := ⟨RX12, "widest", "(II)I"⟩
abbrev cX12_carries : ByteArray := prog_14_method_117_code
def yX12_carries : MethodName := ⟨RX12, "carries", "(II)Z"⟩
abbrev cX12_stackOf : ByteArray := prog_14_method_118_code
def yX12_stackOf : MethodName := ⟨RX12, "stackOf", "(I)I"⟩
abbrev cX12_byRule : ByteArray := prog_14_method_119_code
def yX12_byRule : MethodName := ⟨RX12, "byRule", "()Z"⟩
abbrev cX12_plan : ByteArray := prog_14_method_120_code
def yX12_plan : MethodName := ⟨RX12, "plan", "(I)I"⟩
abbrev cX12_move : ByteArray := prog_14_method_121_code
def yX12_move : MethodName := ⟨RX12, "move", "(II)I"⟩
abbrev cX12_under : ByteArray := prog_14_method_122_code
def yX12_under : MethodName := ⟨RX12, "under", "([I[II)I"⟩
abbrev cX12_bound : ByteArray := prog_14_method_123_code
def yX12_bound : MethodName := ⟨RX12, "bound", "()I"⟩
abbrev cX12_proof : ByteArray := prog_14_method_124_code
def yX12_proof : MethodName := ⟨RX12, "proof", "(I)I"⟩
abbrev cX12_spoil : ByteArray := prog_14_method_125_code
def yX12_spoil : MethodName := ⟨RX12, "spoil", "(II)I"⟩
abbrev cX12_works : ByteArray := prog_14_method_126_code
def yX12_works : MethodName := ⟨RX12, "works", "()Z"⟩
abbrev cX12_proves : ByteArray := prog_14_method_127_code
def yX12_proves : MethodName := ⟨RX12, "proves", "()Z"⟩
abbrev cX12_check : ByteArray := prog_14_method_128_code
def yX12_check : MethodName := ⟨RX12, "check", "()I"⟩
def RJ6 : String := "java/lang/Integer"
def TJ6 : u_T := fun k => match k with
  | _ => ("", "", "", false)
def tyJ6 : Nat → FieldType := fun k => match k with
  | _ => .int
abbrev wsJ60 : List Cond := u_ws RJ6 TJ6 0
theorem nmJ6 : ∀ a, a < 0 → ∀ b, b < 0 → a ≠ b → (TJ6 a).2.1 ≠ (TJ6 b).2.1 := by decide +kernel
theorem tyJ6_ok : ∀ k, k < 0 → parseFieldDescriptor (TJ6 k).2.2.1 = some (tyJ6 k) := by decide +kernel
abbrev cJ6_bitCount_0f7a4 : ByteArray := prog_15_method_49_code
def yJ6_bitCount_0f7a4 : MethodName := ⟨RJ6, "bitCount", "(I)I"⟩
def RJ9 : String := "java/lang/Math"
def TJ9 : u_T := fun k => match k with
  | _ => ("", "", "", false)
def tyJ9 : Nat → FieldType := fun k => match k with
  | _ => .int
abbrev wsJ90 : List Cond := u_ws RJ9 TJ9 0
theorem nmJ9 : ∀ a, a < 0 → ∀ b, b < 0 → a ≠ b → (TJ9 a).2.1 ≠ (TJ9 b).2.1 := by decide +kernel
theorem tyJ9_ok : ∀ k, k < 0 → parseFieldDescriptor (TJ9 k).2.2.1 = some (tyJ9 k) := by decide +kernel
abbrev cJ9_max_7cf53 : ByteArray := prog_16_method_65_code
def yJ9_max_7cf53 : MethodName := ⟨RJ9, "max", "(II)I"⟩
abbrev cJ9_min_7cf53 : ByteArray := prog_16_method_69_code
def yJ9_min_7cf53 : MethodName := ⟨RJ9, "min", "(II)I"⟩
def RJ10 : String := "java/lang/System"
def TJ10 : u_T := fun k => match k with
  | _ => ("", "", "", false)
def tyJ10 : Nat → FieldType := fun k => match k with
  | _ => .int
abbrev wsJ100 : List Cond := u_ws RJ10 TJ10 0
theorem nmJ10 : ∀ a, a < 0 → ∀ b, b < 0 → a ≠ b → (TJ10 a).2.1 ≠ (TJ10 b).2.1 := by decide +kernel
theorem tyJ10_ok : ∀ k, k < 0 → parseFieldDescriptor (TJ10 k).2.2.1 = some (tyJ10 k) := by decide +kernel
def RJ7 : String := "java/util/Arrays"
def TJ7 : u_T := fun k => match k with
  | _ => ("", "", "", false)
def tyJ7 : Nat → FieldType := fun k => match k with
  | _ => .int
abbrev wsJ70 : List Cond := u_ws RJ7 TJ7 0
theorem nmJ7 : ∀ a, a < 0 → ∀ b, b < 0 → a ≠ b → (TJ7 a).2.1 ≠ (TJ7 b).2.1 := by decide +kernel
theorem tyJ7_ok : ∀ k, k < 0 → parseFieldDescriptor (TJ7 k).2.2.1 = some (tyJ7 k) := by decide +kernel
abbrev cJ7_rangeCheck_23922 : ByteArray := prog_18_method_30_code
def yJ7_rangeCheck_23922 : MethodName := ⟨RJ7, "rangeCheck", "(III)V"⟩
abbrev cJ7_fill_53178 : ByteArray := prog_18_method_103_code
def yJ7_fill_53178 : MethodName := ⟨RJ7, "fill", "([II)V"⟩
abbrev cJ7_fill_fda19 : ByteArray := prog_18_method_104_code
def yJ7_fill_fda19 : MethodName := ⟨RJ7, "fill", "([IIII)V"⟩
def RL : String := "SwitchYardLaw"
abbrev cL_law : ByteArray := code
def yL_law : MethodName := ⟨RL, "law", "([I)Z"⟩
abbrev vwCl : List vw_C := [(RX0, TX0, 4), (RX1, TX1, 8), (RX2, TX2, 9), (RX3, TX3, 9), (RX4, TX4, 16), (RX5, TX5, 7), (RX6, TX6, 9), (RX7, TX7, 2), (RX8, TX8, 2), (RX9, TX9, 2), (RX10, TX10, 6), (RX11, TX11, 11), (RX12, TX12, 89)]
