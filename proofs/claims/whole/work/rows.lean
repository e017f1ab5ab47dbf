section
-- ===== PART A: goes FIRST, ahead of the names: the tables' words, and 'selects' of the private methods out of them =====
/-- a private method of a class that the tables say can be made, by its rows of tables_1 -/
def lw_okq (q : MethodName × Nat) : Prop := (q.1.cls ≠ "java/lang/invoke/MethodHandle" ∧ q.1.cls ≠ "java/lang/invoke/VarHandle") ∧ Cond.instantiable q.1.cls q.2 ∈ tables_1 ∧ Cond.privateMethod q.1 ∈ tables_1 ∧ Cond.instanceMethod q.1 ∈ tables_1
theorem lw_p0 : lw_okq (⟨"MendingRoads$Land", "makeEmpty", "()V"⟩, 9) := ⟨⟨by decide +kernel, by decide +kernel⟩, List.mem_of_getElem? (i := 41) (by decide +kernel), List.mem_of_getElem? (i := 49) (by decide +kernel), List.mem_of_getElem? (i := 50) (by decide +kernel)⟩
theorem lw_p1 : lw_okq (⟨"MendingRoads$Gate", "allGetThrough", "(LMendingRoads$Land;LMendingRoads$State;I)Z"⟩, 1) := ⟨⟨by decide +kernel, by decide +kernel⟩, List.mem_of_getElem? (i := 335) (by decide +kernel), List.mem_of_getElem? (i := 523) (by decide +kernel), List.mem_of_getElem? (i := 524) (by decide +kernel)⟩
theorem lw_p2 : lw_okq (⟨"MendingRoads$Gate", "groupPlaces", "(LMendingRoads$Land;LMendingRoads$State;I)V"⟩, 1) := ⟨⟨by decide +kernel, by decide +kernel⟩, List.mem_of_getElem? (i := 335) (by decide +kernel), List.mem_of_getElem? (i := 527) (by decide +kernel), List.mem_of_getElem? (i := 528) (by decide +kernel)⟩
theorem lw_p3 : lw_okq (⟨"MendingRoads$Gate", "join", "(III)V"⟩, 1) := ⟨⟨by decide +kernel, by decide +kernel⟩, List.mem_of_getElem? (i := 335) (by decide +kernel), List.mem_of_getElem? (i := 535) (by decide +kernel), List.mem_of_getElem? (i := 536) (by decide +kernel)⟩
theorem lw_p4 : lw_okq (⟨"MendingRoads$Walk", "setsOut", "(I)Z"⟩, 8) := ⟨⟨by decide +kernel, by decide +kernel⟩, List.mem_of_getElem? (i := 183) (by decide +kernel), List.mem_of_getElem? (i := 568) (by decide +kernel), List.mem_of_getElem? (i := 569) (by decide +kernel)⟩
theorem lw_p5 : lw_okq (⟨"MendingRoads$Walk", "send", "(II)V"⟩, 8) := ⟨⟨by decide +kernel, by decide +kernel⟩, List.mem_of_getElem? (i := 183) (by decide +kernel), List.mem_of_getElem? (i := 586) (by decide +kernel), List.mem_of_getElem? (i := 587) (by decide +kernel)⟩
theorem lw_p6 : lw_okq (⟨"MendingRoads$Ways", "measure", "(I)V"⟩, 13) := ⟨⟨by decide +kernel, by decide +kernel⟩, List.mem_of_getElem? (i := 189) (by decide +kernel), List.mem_of_getElem? (i := 598) (by decide +kernel), List.mem_of_getElem? (i := 599) (by decide +kernel)⟩
theorem lw_p7 : lw_okq (⟨"MendingRoads$Ways", "stepOn", "(II)I"⟩, 13) := ⟨⟨by decide +kernel, by decide +kernel⟩, List.mem_of_getElem? (i := 189) (by decide +kernel), List.mem_of_getElem? (i := 603) (by decide +kernel), List.mem_of_getElem? (i := 604) (by decide +kernel)⟩
theorem lw_p8 : lw_okq (⟨"MendingRoads$Ways", "acrossFrom", "(II)I"⟩, 13) := ⟨⟨by decide +kernel, by decide +kernel⟩, List.mem_of_getElem? (i := 189) (by decide +kernel), List.mem_of_getElem? (i := 607) (by decide +kernel), List.mem_of_getElem? (i := 608) (by decide +kernel)⟩
theorem lw_p9 : lw_okq (⟨"MendingRoads$Walk", "loadWay", "(I)V"⟩, 8) := ⟨⟨by decide +kernel, by decide +kernel⟩, List.mem_of_getElem? (i := 183) (by decide +kernel), List.mem_of_getElem? (i := 618) (by decide +kernel), List.mem_of_getElem? (i := 619) (by decide +kernel)⟩
theorem lw_p10 : lw_okq (⟨"MendingRoads$Walk", "endDay", "()V"⟩, 8) := ⟨⟨by decide +kernel, by decide +kernel⟩, List.mem_of_getElem? (i := 183) (by decide +kernel), List.mem_of_getElem? (i := 627) (by decide +kernel), List.mem_of_getElem? (i := 628) (by decide +kernel)⟩
theorem lw_p11 : lw_okq (⟨"java/lang/Throwable", "fillInStackTrace", "(I)Ljava/lang/Throwable;"⟩, 6) := ⟨⟨by decide +kernel, by decide +kernel⟩, List.mem_of_getElem? (i := 706) (by decide +kernel), List.mem_of_getElem? (i := 704) (by decide +kernel), List.mem_of_getElem? (i := 705) (by decide +kernel)⟩
theorem lw_p12 : lw_okq (⟨"MendingRoads$Reader", "skipBlanks", "()V"⟩, 9) := ⟨⟨by decide +kernel, by decide +kernel⟩, List.mem_of_getElem? (i := 35) (by decide +kernel), List.mem_of_getElem? (i := 742) (by decide +kernel), List.mem_of_getElem? (i := 743) (by decide +kernel)⟩
theorem lw_p13 : lw_okq (⟨"MendingRoads$Reader", "readClause", "()V"⟩, 9) := ⟨⟨by decide +kernel, by decide +kernel⟩, List.mem_of_getElem? (i := 35) (by decide +kernel), List.mem_of_getElem? (i := 746) (by decide +kernel), List.mem_of_getElem? (i := 747) (by decide +kernel)⟩
theorem lw_p14 : lw_okq (⟨"MendingRoads$Reader", "kindOf", "(I)I"⟩, 9) := ⟨⟨by decide +kernel, by decide +kernel⟩, List.mem_of_getElem? (i := 35) (by decide +kernel), List.mem_of_getElem? (i := 750) (by decide +kernel), List.mem_of_getElem? (i := 751) (by decide +kernel)⟩
theorem lw_p15 : lw_okq (⟨"MendingRoads$Reader", "isWord", "(ILjava/lang/String;)Z"⟩, 9) := ⟨⟨by decide +kernel, by decide +kernel⟩, List.mem_of_getElem? (i := 35) (by decide +kernel), List.mem_of_getElem? (i := 755) (by decide +kernel), List.mem_of_getElem? (i := 756) (by decide +kernel)⟩
def lw_privs_1 : List (MethodName × Nat) := [(⟨"MendingRoads$Land", "makeEmpty", "()V"⟩, 9), (⟨"MendingRoads$Gate", "allGetThrough", "(LMendingRoads$Land;LMendingRoads$State;I)Z"⟩, 1), (⟨"MendingRoads$Gate", "groupPlaces", "(LMendingRoads$Land;LMendingRoads$State;I)V"⟩, 1), (⟨"MendingRoads$Gate", "join", "(III)V"⟩, 1), (⟨"MendingRoads$Walk", "setsOut", "(I)Z"⟩, 8), (⟨"MendingRoads$Walk", "send", "(II)V"⟩, 8), (⟨"MendingRoads$Ways", "measure", "(I)V"⟩, 13), (⟨"MendingRoads$Ways", "stepOn", "(II)I"⟩, 13), (⟨"MendingRoads$Ways", "acrossFrom", "(II)I"⟩, 13), (⟨"MendingRoads$Walk", "loadWay", "(I)V"⟩, 8), (⟨"MendingRoads$Walk", "endDay", "()V"⟩, 8), (⟨"java/lang/Throwable", "fillInStackTrace", "(I)Ljava/lang/Throwable;"⟩, 6), (⟨"MendingRoads$Reader", "skipBlanks", "()V"⟩, 9), (⟨"MendingRoads$Reader", "readClause", "()V"⟩, 9), (⟨"MendingRoads$Reader", "kindOf", "(I)I"⟩, 9), (⟨"MendingRoads$Reader", "isWord", "(ILjava/lang/String;)Z"⟩, 9)]
theorem lw_r1 : ∀ q ∈ lw_privs_1, lw_okq q := List.forall_mem_cons.mpr ⟨lw_p0, List.forall_mem_cons.mpr ⟨lw_p1, List.forall_mem_cons.mpr ⟨lw_p2, List.forall_mem_cons.mpr ⟨lw_p3, List.forall_mem_cons.mpr ⟨lw_p4, List.forall_mem_cons.mpr ⟨lw_p5, List.forall_mem_cons.mpr ⟨lw_p6, List.forall_mem_cons.mpr ⟨lw_p7, List.forall_mem_cons.mpr ⟨lw_p8, List.forall_mem_cons.mpr ⟨lw_p9, List.forall_mem_cons.mpr ⟨lw_p10, List.forall_mem_cons.mpr ⟨lw_p11, List.forall_mem_cons.mpr ⟨lw_p12, List.forall_mem_cons.mpr ⟨lw_p13, List.forall_mem_cons.mpr ⟨lw_p14, List.forall_mem_cons.mpr ⟨lw_p15, fun _ h => absurd h List.not_mem_nil⟩⟩⟩⟩⟩⟩⟩⟩⟩⟩⟩⟩⟩⟩⟩⟩
theorem lw_p16 : lw_okq (⟨"MendingRoads$Reader", "faultOfWord", "(I)I"⟩, 9) := ⟨⟨by decide +kernel, by decide +kernel⟩, List.mem_of_getElem? (i := 35) (by decide +kernel), List.mem_of_getElem? (i := 814) (by decide +kernel), List.mem_of_getElem? (i := 815) (by decide +kernel)⟩
theorem lw_p17 : lw_okq (⟨"MendingRoads$Reader", "isOneTooMany", "(I)Z"⟩, 9) := ⟨⟨by decide +kernel, by decide +kernel⟩, List.mem_of_getElem? (i := 35) (by decide +kernel), List.mem_of_getElem? (i := 818) (by decide +kernel), List.mem_of_getElem? (i := 819) (by decide +kernel)⟩
theorem lw_p18 : lw_okq (⟨"MendingRoads$Reader", "fail", "(II)V"⟩, 9) := ⟨⟨by decide +kernel, by decide +kernel⟩, List.mem_of_getElem? (i := 35) (by decide +kernel), List.mem_of_getElem? (i := 822) (by decide +kernel), List.mem_of_getElem? (i := 823) (by decide +kernel)⟩
theorem lw_p19 : lw_okq (⟨"MendingRoads$Reader", "readNumber", "(II)V"⟩, 9) := ⟨⟨by decide +kernel, by decide +kernel⟩, List.mem_of_getElem? (i := 35) (by decide +kernel), List.mem_of_getElem? (i := 828) (by decide +kernel), List.mem_of_getElem? (i := 829) (by decide +kernel)⟩
theorem lw_p20 : lw_okq (⟨"MendingRoads$Reader", "leastOf", "(II)I"⟩, 9) := ⟨⟨by decide +kernel, by decide +kernel⟩, List.mem_of_getElem? (i := 35) (by decide +kernel), List.mem_of_getElem? (i := 833) (by decide +kernel), List.mem_of_getElem? (i := 834) (by decide +kernel)⟩
theorem lw_p21 : lw_okq (⟨"MendingRoads$Reader", "mostOf", "(II)I"⟩, 9) := ⟨⟨by decide +kernel, by decide +kernel⟩, List.mem_of_getElem? (i := 35) (by decide +kernel), List.mem_of_getElem? (i := 841) (by decide +kernel), List.mem_of_getElem? (i := 842) (by decide +kernel)⟩
theorem lw_p22 : lw_okq (⟨"MendingRoads$Reader", "isSameEnd", "(III)Z"⟩, 9) := ⟨⟨by decide +kernel, by decide +kernel⟩, List.mem_of_getElem? (i := 35) (by decide +kernel), List.mem_of_getElem? (i := 849) (by decide +kernel), List.mem_of_getElem? (i := 850) (by decide +kernel)⟩
theorem lw_p23 : lw_okq (⟨"MendingRoads$Reader", "readEnd", "()V"⟩, 9) := ⟨⟨by decide +kernel, by decide +kernel⟩, List.mem_of_getElem? (i := 35) (by decide +kernel), List.mem_of_getElem? (i := 853) (by decide +kernel), List.mem_of_getElem? (i := 854) (by decide +kernel)⟩
theorem lw_p24 : lw_okq (⟨"MendingRoads$Reader", "tell", "(I)V"⟩, 9) := ⟨⟨by decide +kernel, by decide +kernel⟩, List.mem_of_getElem? (i := 35) (by decide +kernel), List.mem_of_getElem? (i := 857) (by decide +kernel), List.mem_of_getElem? (i := 858) (by decide +kernel)⟩
theorem lw_p25 : lw_okq (⟨"MendingRoads$Reader", "tellRoad", "(I)V"⟩, 9) := ⟨⟨by decide +kernel, by decide +kernel⟩, List.mem_of_getElem? (i := 35) (by decide +kernel), List.mem_of_getElem? (i := 861) (by decide +kernel), List.mem_of_getElem? (i := 862) (by decide +kernel)⟩
theorem lw_p26 : lw_okq (⟨"MendingRoads$Reader", "tellGoing", "(I)V"⟩, 9) := ⟨⟨by decide +kernel, by decide +kernel⟩, List.mem_of_getElem? (i := 35) (by decide +kernel), List.mem_of_getElem? (i := 865) (by decide +kernel), List.mem_of_getElem? (i := 866) (by decide +kernel)⟩
theorem lw_p27 : lw_okq (⟨"MendingRoads$Reader", "tellWet", "(I)V"⟩, 9) := ⟨⟨by decide +kernel, by decide +kernel⟩, List.mem_of_getElem? (i := 35) (by decide +kernel), List.mem_of_getElem? (i := 869) (by decide +kernel), List.mem_of_getElem? (i := 870) (by decide +kernel)⟩
theorem lw_p28 : lw_okq (⟨"MendingRoads", "demandRoad", "(I)V"⟩, 9) := ⟨⟨by decide +kernel, by decide +kernel⟩, List.mem_of_getElem? (i := 27) (by decide +kernel), List.mem_of_getElem? (i := 889) (by decide +kernel), List.mem_of_getElem? (i := 890) (by decide +kernel)⟩
theorem lw_p29 : lw_okq (⟨"MendingRoads", "demandGoing", "(I)V"⟩, 9) := ⟨⟨by decide +kernel, by decide +kernel⟩, List.mem_of_getElem? (i := 27) (by decide +kernel), List.mem_of_getElem? (i := 918) (by decide +kernel), List.mem_of_getElem? (i := 919) (by decide +kernel)⟩
theorem lw_p30 : lw_okq (⟨"MendingRoads", "demandShut", "(I)V"⟩, 9) := ⟨⟨by decide +kernel, by decide +kernel⟩, List.mem_of_getElem? (i := 27) (by decide +kernel), List.mem_of_getElem? (i := 945) (by decide +kernel), List.mem_of_getElem? (i := 946) (by decide +kernel)⟩
theorem lw_p31 : lw_okq (⟨"MendingRoads", "seekWay", "(II)Z"⟩, 9) := ⟨⟨by decide +kernel, by decide +kernel⟩, List.mem_of_getElem? (i := 27) (by decide +kernel), List.mem_of_getElem? (i := 949) (by decide +kernel), List.mem_of_getElem? (i := 950) (by decide +kernel)⟩
def lw_privs_2 : List (MethodName × Nat) := [(⟨"MendingRoads$Reader", "faultOfWord", "(I)I"⟩, 9), (⟨"MendingRoads$Reader", "isOneTooMany", "(I)Z"⟩, 9), (⟨"MendingRoads$Reader", "fail", "(II)V"⟩, 9), (⟨"MendingRoads$Reader", "readNumber", "(II)V"⟩, 9), (⟨"MendingRoads$Reader", "leastOf", "(II)I"⟩, 9), (⟨"MendingRoads$Reader", "mostOf", "(II)I"⟩, 9), (⟨"MendingRoads$Reader", "isSameEnd", "(III)Z"⟩, 9), (⟨"MendingRoads$Reader", "readEnd", "()V"⟩, 9), (⟨"MendingRoads$Reader", "tell", "(I)V"⟩, 9), (⟨"MendingRoads$Reader", "tellRoad", "(I)V"⟩, 9), (⟨"MendingRoads$Reader", "tellGoing", "(I)V"⟩, 9), (⟨"MendingRoads$Reader", "tellWet", "(I)V"⟩, 9), (⟨"MendingRoads", "demandRoad", "(I)V"⟩, 9), (⟨"MendingRoads", "demandGoing", "(I)V"⟩, 9), (⟨"MendingRoads", "demandShut", "(I)V"⟩, 9), (⟨"MendingRoads", "seekWay", "(II)Z"⟩, 9)]
theorem lw_r2 : ∀ q ∈ lw_privs_2, lw_okq q := List.forall_mem_cons.mpr ⟨lw_p16, List.forall_mem_cons.mpr ⟨lw_p17, List.forall_mem_cons.mpr ⟨lw_p18, List.forall_mem_cons.mpr ⟨lw_p19, List.forall_mem_cons.mpr ⟨lw_p20, List.forall_mem_cons.mpr ⟨lw_p21, List.forall_mem_cons.mpr ⟨lw_p22, List.forall_mem_cons.mpr ⟨lw_p23, List.forall_mem_cons.mpr ⟨lw_p24, List.forall_mem_cons.mpr ⟨lw_p25, List.forall_mem_cons.mpr ⟨lw_p26, List.forall_mem_cons.mpr ⟨lw_p27, List.forall_mem_cons.mpr ⟨lw_p28, List.forall_mem_cons.mpr ⟨lw_p29, List.forall_mem_cons.mpr ⟨lw_p30, List.forall_mem_cons.mpr ⟨lw_p31, fun _ h => absurd h List.not_mem_nil⟩⟩⟩⟩⟩⟩⟩⟩⟩⟩⟩⟩⟩⟩⟩⟩
theorem lw_p32 : lw_okq (⟨"MendingRoads", "demandRowFor", "(I)V"⟩, 9) := ⟨⟨by decide +kernel, by decide +kernel⟩, List.mem_of_getElem? (i := 27) (by decide +kernel), List.mem_of_getElem? (i := 992) (by decide +kernel), List.mem_of_getElem? (i := 993) (by decide +kernel)⟩
theorem lw_p33 : lw_okq (⟨"MendingRoads", "demandRow", "()V"⟩, 9) := ⟨⟨by decide +kernel, by decide +kernel⟩, List.mem_of_getElem? (i := 27) (by decide +kernel), List.mem_of_getElem? (i := 996) (by decide +kernel), List.mem_of_getElem? (i := 997) (by decide +kernel)⟩
theorem lw_p34 : lw_okq (⟨"MendingRoads", "judgeRow", "()V"⟩, 9) := ⟨⟨by decide +kernel, by decide +kernel⟩, List.mem_of_getElem? (i := 27) (by decide +kernel), List.mem_of_getElem? (i := 1047) (by decide +kernel), List.mem_of_getElem? (i := 1048) (by decide +kernel)⟩
theorem lw_p35 : lw_okq (⟨"MendingRoads", "noteVerdict", "(III)V"⟩, 9) := ⟨⟨by decide +kernel, by decide +kernel⟩, List.mem_of_getElem? (i := 27) (by decide +kernel), List.mem_of_getElem? (i := 1055) (by decide +kernel), List.mem_of_getElem? (i := 1056) (by decide +kernel)⟩
theorem lw_p36 : lw_okq (⟨"MendingRoads$Rounds", "mark", "(ILMendingRoads$State;)V"⟩, 5) := ⟨⟨by decide +kernel, by decide +kernel⟩, List.mem_of_getElem? (i := 406) (by decide +kernel), List.mem_of_getElem? (i := 1071) (by decide +kernel), List.mem_of_getElem? (i := 1072) (by decide +kernel)⟩
theorem lw_p37 : lw_okq (⟨"MendingRoads$Rounds", "lookBack", "(II)V"⟩, 5) := ⟨⟨by decide +kernel, by decide +kernel⟩, List.mem_of_getElem? (i := 406) (by decide +kernel), List.mem_of_getElem? (i := 1081) (by decide +kernel), List.mem_of_getElem? (i := 1082) (by decide +kernel)⟩
theorem lw_p38 : lw_okq (⟨"MendingRoads$Search", "tryDays", "(LMendingRoads$Walk;LMendingRoads$Land;IJI)V"⟩, 4) := ⟨⟨by decide +kernel, by decide +kernel⟩, List.mem_of_getElem? (i := 383) (by decide +kernel), List.mem_of_getElem? (i := 1117) (by decide +kernel), List.mem_of_getElem? (i := 1118) (by decide +kernel)⟩
theorem lw_p39 : lw_okq (⟨"MendingRoads", "openCost", "(I)J"⟩, 9) := ⟨⟨by decide +kernel, by decide +kernel⟩, List.mem_of_getElem? (i := 27) (by decide +kernel), List.mem_of_getElem? (i := 1130) (by decide +kernel), List.mem_of_getElem? (i := 1131) (by decide +kernel)⟩
theorem lw_p40 : lw_okq (⟨"MendingRoads", "tollCost", "(II)J"⟩, 9) := ⟨⟨by decide +kernel, by decide +kernel⟩, List.mem_of_getElem? (i := 27) (by decide +kernel), List.mem_of_getElem? (i := 1141) (by decide +kernel), List.mem_of_getElem? (i := 1142) (by decide +kernel)⟩
theorem lw_p41 : lw_okq (⟨"MendingRoads", "othersCost", "(IIIZ)J"⟩, 9) := ⟨⟨by decide +kernel, by decide +kernel⟩, List.mem_of_getElem? (i := 27) (by decide +kernel), List.mem_of_getElem? (i := 1159) (by decide +kernel), List.mem_of_getElem? (i := 1160) (by decide +kernel)⟩
theorem lw_p42 : lw_okq (⟨"MendingRoads", "heldCost", "(III)J"⟩, 9) := ⟨⟨by decide +kernel, by decide +kernel⟩, List.mem_of_getElem? (i := 27) (by decide +kernel), List.mem_of_getElem? (i := 1177) (by decide +kernel), List.mem_of_getElem? (i := 1178) (by decide +kernel)⟩
theorem lw_p43 : lw_okq (⟨"MendingRoads", "newCost", "(II)J"⟩, 9) := ⟨⟨by decide +kernel, by decide +kernel⟩, List.mem_of_getElem? (i := 27) (by decide +kernel), List.mem_of_getElem? (i := 1195) (by decide +kernel), List.mem_of_getElem? (i := 1196) (by decide +kernel)⟩
theorem lw_p44 : lw_okq (⟨"MendingRoads", "mendedCost", "(II)J"⟩, 9) := ⟨⟨by decide +kernel, by decide +kernel⟩, List.mem_of_getElem? (i := 27) (by decide +kernel), List.mem_of_getElem? (i := 1214) (by decide +kernel), List.mem_of_getElem? (i := 1215) (by decide +kernel)⟩
theorem lw_p45 : lw_okq (⟨"MendingRoads", "lawCost", "(II)J"⟩, 9) := ⟨⟨by decide +kernel, by decide +kernel⟩, List.mem_of_getElem? (i := 27) (by decide +kernel), List.mem_of_getElem? (i := 1232) (by decide +kernel), List.mem_of_getElem? (i := 1233) (by decide +kernel)⟩
theorem lw_p46 : lw_okq (⟨"MendingRoadsModel", "bad", "(ZI)Z"⟩, 62) := ⟨⟨by decide +kernel, by decide +kernel⟩, List.mem_of_getElem? (i := 1261) (by decide +kernel), List.mem_of_getElem? (i := 1470) (by decide +kernel), List.mem_of_getElem? (i := 1471) (by decide +kernel)⟩
theorem lw_p47 : lw_okq (⟨"MendingRoadsModel", "blanks", "()V"⟩, 62) := ⟨⟨by decide +kernel, by decide +kernel⟩, List.mem_of_getElem? (i := 1261) (by decide +kernel), List.mem_of_getElem? (i := 1474) (by decide +kernel), List.mem_of_getElem? (i := 1475) (by decide +kernel)⟩
def lw_privs_3 : List (MethodName × Nat) := [(⟨"MendingRoads", "demandRowFor", "(I)V"⟩, 9), (⟨"MendingRoads", "demandRow", "()V"⟩, 9), (⟨"MendingRoads", "judgeRow", "()V"⟩, 9), (⟨"MendingRoads", "noteVerdict", "(III)V"⟩, 9), (⟨"MendingRoads$Rounds", "mark", "(ILMendingRoads$State;)V"⟩, 5), (⟨"MendingRoads$Rounds", "lookBack", "(II)V"⟩, 5), (⟨"MendingRoads$Search", "tryDays", "(LMendingRoads$Walk;LMendingRoads$Land;IJI)V"⟩, 4), (⟨"MendingRoads", "openCost", "(I)J"⟩, 9), (⟨"MendingRoads", "tollCost", "(II)J"⟩, 9), (⟨"MendingRoads", "othersCost", "(IIIZ)J"⟩, 9), (⟨"MendingRoads", "heldCost", "(III)J"⟩, 9), (⟨"MendingRoads", "newCost", "(II)J"⟩, 9), (⟨"MendingRoads", "mendedCost", "(II)J"⟩, 9), (⟨"MendingRoads", "lawCost", "(II)J"⟩, 9), (⟨"MendingRoadsModel", "bad", "(ZI)Z"⟩, 62), (⟨"MendingRoadsModel", "blanks", "()V"⟩, 62)]
theorem lw_r3 : ∀ q ∈ lw_privs_3, lw_okq q := List.forall_mem_cons.mpr ⟨lw_p32, List.forall_mem_cons.mpr ⟨lw_p33, List.forall_mem_cons.mpr ⟨lw_p34, List.forall_mem_cons.mpr ⟨lw_p35, List.forall_mem_cons.mpr ⟨lw_p36, List.forall_mem_cons.mpr ⟨lw_p37, List.forall_mem_cons.mpr ⟨lw_p38, List.forall_mem_cons.mpr ⟨lw_p39, List.forall_mem_cons.mpr ⟨lw_p40, List.forall_mem_cons.mpr ⟨lw_p41, List.forall_mem_cons.mpr ⟨lw_p42, List.forall_mem_cons.mpr ⟨lw_p43, List.forall_mem_cons.mpr ⟨lw_p44, List.forall_mem_cons.mpr ⟨lw_p45, List.forall_mem_cons.mpr ⟨lw_p46, List.forall_mem_cons.mpr ⟨lw_p47, fun _ h => absurd h List.not_mem_nil⟩⟩⟩⟩⟩⟩⟩⟩⟩⟩⟩⟩⟩⟩⟩⟩
theorem lw_p48 : lw_okq (⟨"MendingRoadsModel", "byteAt", "(I)I"⟩, 62) := ⟨⟨by decide +kernel, by decide +kernel⟩, List.mem_of_getElem? (i := 1261) (by decide +kernel), List.mem_of_getElem? (i := 1478) (by decide +kernel), List.mem_of_getElem? (i := 1479) (by decide +kernel)⟩
theorem lw_p49 : lw_okq (⟨"MendingRoadsModel", "clause", "()V"⟩, 62) := ⟨⟨by decide +kernel, by decide +kernel⟩, List.mem_of_getElem? (i := 1261) (by decide +kernel), List.mem_of_getElem? (i := 1482) (by decide +kernel), List.mem_of_getElem? (i := 1483) (by decide +kernel)⟩
theorem lw_p50 : lw_okq (⟨"MendingRoadsModel", "kindHere", "()I"⟩, 62) := ⟨⟨by decide +kernel, by decide +kernel⟩, List.mem_of_getElem? (i := 1261) (by decide +kernel), List.mem_of_getElem? (i := 1486) (by decide +kernel), List.mem_of_getElem? (i := 1487) (by decide +kernel)⟩
theorem lw_p51 : lw_okq (⟨"MendingRoadsModel", "isWord", "(IIIIII)Z"⟩, 62) := ⟨⟨by decide +kernel, by decide +kernel⟩, List.mem_of_getElem? (i := 1261) (by decide +kernel), List.mem_of_getElem? (i := 1490) (by decide +kernel), List.mem_of_getElem? (i := 1491) (by decide +kernel)⟩
theorem lw_p52 : lw_okq (⟨"MendingRoadsModel", "wordHere", "()I"⟩, 62) := ⟨⟨by decide +kernel, by decide +kernel⟩, List.mem_of_getElem? (i := 1261) (by decide +kernel), List.mem_of_getElem? (i := 1494) (by decide +kernel), List.mem_of_getElem? (i := 1495) (by decide +kernel)⟩
theorem lw_p53 : lw_okq (⟨"MendingRoadsModel", "wrong", "(II)V"⟩, 62) := ⟨⟨by decide +kernel, by decide +kernel⟩, List.mem_of_getElem? (i := 1261) (by decide +kernel), List.mem_of_getElem? (i := 1501) (by decide +kernel), List.mem_of_getElem? (i := 1502) (by decide +kernel)⟩
theorem lw_p54 : lw_okq (⟨"MendingRoadsModel", "number", "(III)I"⟩, 62) := ⟨⟨by decide +kernel, by decide +kernel⟩, List.mem_of_getElem? (i := 1261) (by decide +kernel), List.mem_of_getElem? (i := 1508) (by decide +kernel), List.mem_of_getElem? (i := 1509) (by decide +kernel)⟩
theorem lw_p55 : lw_okq (⟨"MendingRoadsModel", "readsRoad", "([I)V"⟩, 62) := ⟨⟨by decide +kernel, by decide +kernel⟩, List.mem_of_getElem? (i := 1261) (by decide +kernel), List.mem_of_getElem? (i := 1516) (by decide +kernel), List.mem_of_getElem? (i := 1517) (by decide +kernel)⟩
theorem lw_p56 : lw_okq (⟨"MendingRoadsModel", "readsGoing", "([I)V"⟩, 62) := ⟨⟨by decide +kernel, by decide +kernel⟩, List.mem_of_getElem? (i := 1261) (by decide +kernel), List.mem_of_getElem? (i := 1520) (by decide +kernel), List.mem_of_getElem? (i := 1521) (by decide +kernel)⟩
theorem lw_p57 : lw_okq (⟨"MendingRoadsModel", "readsWet", "()V"⟩, 62) := ⟨⟨by decide +kernel, by decide +kernel⟩, List.mem_of_getElem? (i := 1261) (by decide +kernel), List.mem_of_getElem? (i := 1524) (by decide +kernel), List.mem_of_getElem? (i := 1525) (by decide +kernel)⟩
theorem lw_p58 : lw_okq (⟨"MendingRoadsModel", "sign", "(I)V"⟩, 62) := ⟨⟨by decide +kernel, by decide +kernel⟩, List.mem_of_getElem? (i := 1261) (by decide +kernel), List.mem_of_getElem? (i := 1528) (by decide +kernel), List.mem_of_getElem? (i := 1529) (by decide +kernel)⟩
theorem lw_p59 : lw_okq (⟨"MendingRoadsModel", "isRoad", "(I)Z"⟩, 62) := ⟨⟨by decide +kernel, by decide +kernel⟩, List.mem_of_getElem? (i := 1261) (by decide +kernel), List.mem_of_getElem? (i := 1544) (by decide +kernel), List.mem_of_getElem? (i := 1545) (by decide +kernel)⟩
theorem lw_p60 : lw_okq (⟨"MendingRoadsModel", "isGoing", "(I)Z"⟩, 62) := ⟨⟨by decide +kernel, by decide +kernel⟩, List.mem_of_getElem? (i := 1261) (by decide +kernel), List.mem_of_getElem? (i := 1552) (by decide +kernel), List.mem_of_getElem? (i := 1553) (by decide +kernel)⟩
theorem lw_p61 : lw_okq (⟨"MendingRoadsModel", "areRoads", "(I)Z"⟩, 62) := ⟨⟨by decide +kernel, by decide +kernel⟩, List.mem_of_getElem? (i := 1261) (by decide +kernel), List.mem_of_getElem? (i := 1560) (by decide +kernel), List.mem_of_getElem? (i := 1561) (by decide +kernel)⟩
theorem lw_p62 : lw_okq (⟨"MendingRoadsModel", "lays", "()V"⟩, 62) := ⟨⟨by decide +kernel, by decide +kernel⟩, List.mem_of_getElem? (i := 1261) (by decide +kernel), List.mem_of_getElem? (i := 1564) (by decide +kernel), List.mem_of_getElem? (i := 1565) (by decide +kernel)⟩
theorem lw_p63 : lw_okq (⟨"MendingRoadsModel", "findWay", "(III)Z"⟩, 62) := ⟨⟨by decide +kernel, by decide +kernel⟩, List.mem_of_getElem? (i := 1261) (by decide +kernel), List.mem_of_getElem? (i := 1568) (by decide +kernel), List.mem_of_getElem? (i := 1569) (by decide +kernel)⟩
def lw_privs_4 : List (MethodName × Nat) := [(⟨"MendingRoadsModel", "byteAt", "(I)I"⟩, 62), (⟨"MendingRoadsModel", "clause", "()V"⟩, 62), (⟨"MendingRoadsModel", "kindHere", "()I"⟩, 62), (⟨"MendingRoadsModel", "isWord", "(IIIIII)Z"⟩, 62), (⟨"MendingRoadsModel", "wordHere", "()I"⟩, 62), (⟨"MendingRoadsModel", "wrong", "(II)V"⟩, 62), (⟨"MendingRoadsModel", "number", "(III)I"⟩, 62), (⟨"MendingRoadsModel", "readsRoad", "([I)V"⟩, 62), (⟨"MendingRoadsModel", "readsGoing", "([I)V"⟩, 62), (⟨"MendingRoadsModel", "readsWet", "()V"⟩, 62), (⟨"MendingRoadsModel", "sign", "(I)V"⟩, 62), (⟨"MendingRoadsModel", "isRoad", "(I)Z"⟩, 62), (⟨"MendingRoadsModel", "isGoing", "(I)Z"⟩, 62), (⟨"MendingRoadsModel", "areRoads", "(I)Z"⟩, 62), (⟨"MendingRoadsModel", "lays", "()V"⟩, 62), (⟨"MendingRoadsModel", "findWay", "(III)Z"⟩, 62)]
theorem lw_r4 : ∀ q ∈ lw_privs_4, lw_okq q := List.forall_mem_cons.mpr ⟨lw_p48, List.forall_mem_cons.mpr ⟨lw_p49, List.forall_mem_cons.mpr ⟨lw_p50, List.forall_mem_cons.mpr ⟨lw_p51, List.forall_mem_cons.mpr ⟨lw_p52, List.forall_mem_cons.mpr ⟨lw_p53, List.forall_mem_cons.mpr ⟨lw_p54, List.forall_mem_cons.mpr ⟨lw_p55, List.forall_mem_cons.mpr ⟨lw_p56, List.forall_mem_cons.mpr ⟨lw_p57, List.forall_mem_cons.mpr ⟨lw_p58, List.forall_mem_cons.mpr ⟨lw_p59, List.forall_mem_cons.mpr ⟨lw_p60, List.forall_mem_cons.mpr ⟨lw_p61, List.forall_mem_cons.mpr ⟨lw_p62, List.forall_mem_cons.mpr ⟨lw_p63, fun _ h => absurd h List.not_mem_nil⟩⟩⟩⟩⟩⟩⟩⟩⟩⟩⟩⟩⟩⟩⟩⟩
theorem lw_p64 : lw_okq (⟨"MendingRoadsModel", "isOpen", "(II)Z"⟩, 62) := ⟨⟨by decide +kernel, by decide +kernel⟩, List.mem_of_getElem? (i := 1261) (by decide +kernel), List.mem_of_getElem? (i := 1573) (by decide +kernel), List.mem_of_getElem? (i := 1574) (by decide +kernel)⟩
theorem lw_p65 : lw_okq (⟨"MendingRoadsModel", "minutesOf", "(I)I"⟩, 62) := ⟨⟨by decide +kernel, by decide +kernel⟩, List.mem_of_getElem? (i := 1261) (by decide +kernel), List.mem_of_getElem? (i := 1577) (by decide +kernel), List.mem_of_getElem? (i := 1578) (by decide +kernel)⟩
theorem lw_p66 : lw_okq (⟨"MendingRoadsModel", "farEnd", "(II)I"⟩, 62) := ⟨⟨by decide +kernel, by decide +kernel⟩, List.mem_of_getElem? (i := 1261) (by decide +kernel), List.mem_of_getElem? (i := 1581) (by decide +kernel), List.mem_of_getElem? (i := 1582) (by decide +kernel)⟩
theorem lw_p67 : lw_okq (⟨"MendingRoadsModel", "shutBy", "(I)I"⟩, 62) := ⟨⟨by decide +kernel, by decide +kernel⟩, List.mem_of_getElem? (i := 1261) (by decide +kernel), List.mem_of_getElem? (i := 1593) (by decide +kernel), List.mem_of_getElem? (i := 1594) (by decide +kernel)⟩
theorem lw_p68 : lw_okq (⟨"MendingRoadsModel", "allHave", "(I)Z"⟩, 62) := ⟨⟨by decide +kernel, by decide +kernel⟩, List.mem_of_getElem? (i := 1261) (by decide +kernel), List.mem_of_getElem? (i := 1597) (by decide +kernel), List.mem_of_getElem? (i := 1598) (by decide +kernel)⟩
theorem lw_p69 : lw_okq (⟨"MendingRoadsModel", "isOn", "(I)Z"⟩, 62) := ⟨⟨by decide +kernel, by decide +kernel⟩, List.mem_of_getElem? (i := 1261) (by decide +kernel), List.mem_of_getElem? (i := 1601) (by decide +kernel), List.mem_of_getElem? (i := 1602) (by decide +kernel)⟩
theorem lw_p70 : lw_okq (⟨"MendingRoadsModel", "goesBy", "(I)V"⟩, 62) := ⟨⟨by decide +kernel, by decide +kernel⟩, List.mem_of_getElem? (i := 1261) (by decide +kernel), List.mem_of_getElem? (i := 1609) (by decide +kernel), List.mem_of_getElem? (i := 1610) (by decide +kernel)⟩
theorem lw_p71 : lw_okq (⟨"MendingRoadsModel", "goesByLot", "(I)Z"⟩, 62) := ⟨⟨by decide +kernel, by decide +kernel⟩, List.mem_of_getElem? (i := 1261) (by decide +kernel), List.mem_of_getElem? (i := 1613) (by decide +kernel), List.mem_of_getElem? (i := 1614) (by decide +kernel)⟩
theorem lw_p72 : lw_okq (⟨"MendingRoadsModel", "isWet", "()Z"⟩, 62) := ⟨⟨by decide +kernel, by decide +kernel⟩, List.mem_of_getElem? (i := 1261) (by decide +kernel), List.mem_of_getElem? (i := 1619) (by decide +kernel), List.mem_of_getElem? (i := 1620) (by decide +kernel)⟩
theorem lw_p73 : lw_okq (⟨"MendingRoadsModel", "stands", "()V"⟩, 62) := ⟨⟨by decide +kernel, by decide +kernel⟩, List.mem_of_getElem? (i := 1261) (by decide +kernel), List.mem_of_getElem? (i := 1623) (by decide +kernel), List.mem_of_getElem? (i := 1624) (by decide +kernel)⟩
theorem lw_p74 : lw_okq (⟨"MendingRoadsModel", "isRule", "(II)Z"⟩, 62) := ⟨⟨by decide +kernel, by decide +kernel⟩, List.mem_of_getElem? (i := 1261) (by decide +kernel), List.mem_of_getElem? (i := 1631) (by decide +kernel), List.mem_of_getElem? (i := 1632) (by decide +kernel)⟩
theorem lw_p75 : lw_okq (⟨"MendingRoadsModel", "goes", "(II)V"⟩, 62) := ⟨⟨by decide +kernel, by decide +kernel⟩, List.mem_of_getElem? (i := 1261) (by decide +kernel), List.mem_of_getElem? (i := 1638) (by decide +kernel), List.mem_of_getElem? (i := 1639) (by decide +kernel)⟩
theorem lw_p76 : lw_okq (⟨"MendingRoadsModel", "pastUse", "()I"⟩, 62) := ⟨⟨by decide +kernel, by decide +kernel⟩, List.mem_of_getElem? (i := 1261) (by decide +kernel), List.mem_of_getElem? (i := 1658) (by decide +kernel), List.mem_of_getElem? (i := 1659) (by decide +kernel)⟩
theorem lw_p77 : lw_okq (⟨"MendingRoadsModel", "findRound", "()V"⟩, 62) := ⟨⟨by decide +kernel, by decide +kernel⟩, List.mem_of_getElem? (i := 1261) (by decide +kernel), List.mem_of_getElem? (i := 1670) (by decide +kernel), List.mem_of_getElem? (i := 1671) (by decide +kernel)⟩
theorem lw_p78 : lw_okq (⟨"MendingRoadsModel", "keeps", "(I)V"⟩, 62) := ⟨⟨by decide +kernel, by decide +kernel⟩, List.mem_of_getElem? (i := 1261) (by decide +kernel), List.mem_of_getElem? (i := 1674) (by decide +kernel), List.mem_of_getElem? (i := 1675) (by decide +kernel)⟩
theorem lw_p79 : lw_okq (⟨"MendingRoadsModel", "findBest", "(I)V"⟩, 62) := ⟨⟨by decide +kernel, by decide +kernel⟩, List.mem_of_getElem? (i := 1261) (by decide +kernel), List.mem_of_getElem? (i := 1692) (by decide +kernel), List.mem_of_getElem? (i := 1693) (by decide +kernel)⟩
def lw_privs_5 : List (MethodName × Nat) := [(⟨"MendingRoadsModel", "isOpen", "(II)Z"⟩, 62), (⟨"MendingRoadsModel", "minutesOf", "(I)I"⟩, 62), (⟨"MendingRoadsModel", "farEnd", "(II)I"⟩, 62), (⟨"MendingRoadsModel", "shutBy", "(I)I"⟩, 62), (⟨"MendingRoadsModel", "allHave", "(I)Z"⟩, 62), (⟨"MendingRoadsModel", "isOn", "(I)Z"⟩, 62), (⟨"MendingRoadsModel", "goesBy", "(I)V"⟩, 62), (⟨"MendingRoadsModel", "goesByLot", "(I)Z"⟩, 62), (⟨"MendingRoadsModel", "isWet", "()Z"⟩, 62), (⟨"MendingRoadsModel", "stands", "()V"⟩, 62), (⟨"MendingRoadsModel", "isRule", "(II)Z"⟩, 62), (⟨"MendingRoadsModel", "goes", "(II)V"⟩, 62), (⟨"MendingRoadsModel", "pastUse", "()I"⟩, 62), (⟨"MendingRoadsModel", "findRound", "()V"⟩, 62), (⟨"MendingRoadsModel", "keeps", "(I)V"⟩, 62), (⟨"MendingRoadsModel", "findBest", "(I)V"⟩, 62)]
theorem lw_r5 : ∀ q ∈ lw_privs_5, lw_okq q := List.forall_mem_cons.mpr ⟨lw_p64, List.forall_mem_cons.mpr ⟨lw_p65, List.forall_mem_cons.mpr ⟨lw_p66, List.forall_mem_cons.mpr ⟨lw_p67, List.forall_mem_cons.mpr ⟨lw_p68, List.forall_mem_cons.mpr ⟨lw_p69, List.forall_mem_cons.mpr ⟨lw_p70, List.forall_mem_cons.mpr ⟨lw_p71, List.forall_mem_cons.mpr ⟨lw_p72, List.forall_mem_cons.mpr ⟨lw_p73, List.forall_mem_cons.mpr ⟨lw_p74, List.forall_mem_cons.mpr ⟨lw_p75, List.forall_mem_cons.mpr ⟨lw_p76, List.forall_mem_cons.mpr ⟨lw_p77, List.forall_mem_cons.mpr ⟨lw_p78, List.forall_mem_cons.mpr ⟨lw_p79, fun _ h => absurd h List.not_mem_nil⟩⟩⟩⟩⟩⟩⟩⟩⟩⟩⟩⟩⟩⟩⟩⟩
theorem lw_p80 : lw_okq (⟨"MendingRoadsModel", "tries", "(II)V"⟩, 62) := ⟨⟨by decide +kernel, by decide +kernel⟩, List.mem_of_getElem? (i := 1261) (by decide +kernel), List.mem_of_getElem? (i := 1697) (by decide +kernel), List.mem_of_getElem? (i := 1698) (by decide +kernel)⟩
theorem lw_p81 : lw_okq (⟨"MendingRoadsModel", "openCost", "(I)J"⟩, 62) := ⟨⟨by decide +kernel, by decide +kernel⟩, List.mem_of_getElem? (i := 1261) (by decide +kernel), List.mem_of_getElem? (i := 1705) (by decide +kernel), List.mem_of_getElem? (i := 1706) (by decide +kernel)⟩
theorem lw_p82 : lw_okq (⟨"MendingRoadsModel", "tollCost", "(II)J"⟩, 62) := ⟨⟨by decide +kernel, by decide +kernel⟩, List.mem_of_getElem? (i := 1261) (by decide +kernel), List.mem_of_getElem? (i := 1713) (by decide +kernel), List.mem_of_getElem? (i := 1714) (by decide +kernel)⟩
theorem lw_p83 : lw_okq (⟨"MendingRoadsModel", "othersCost", "(III)J"⟩, 62) := ⟨⟨by decide +kernel, by decide +kernel⟩, List.mem_of_getElem? (i := 1261) (by decide +kernel), List.mem_of_getElem? (i := 1725) (by decide +kernel), List.mem_of_getElem? (i := 1726) (by decide +kernel)⟩
theorem lw_p84 : lw_okq (⟨"MendingRoadsModel", "heldCost", "(III)J"⟩, 62) := ⟨⟨by decide +kernel, by decide +kernel⟩, List.mem_of_getElem? (i := 1261) (by decide +kernel), List.mem_of_getElem? (i := 1737) (by decide +kernel), List.mem_of_getElem? (i := 1738) (by decide +kernel)⟩
theorem lw_p85 : lw_okq (⟨"MendingRoadsModel", "moreCost", "(II)J"⟩, 62) := ⟨⟨by decide +kernel, by decide +kernel⟩, List.mem_of_getElem? (i := 1261) (by decide +kernel), List.mem_of_getElem? (i := 1749) (by decide +kernel), List.mem_of_getElem? (i := 1750) (by decide +kernel)⟩
theorem lw_p86 : lw_okq (⟨"MendingRoadsModel", "menCost", "(II)J"⟩, 62) := ⟨⟨by decide +kernel, by decide +kernel⟩, List.mem_of_getElem? (i := 1261) (by decide +kernel), List.mem_of_getElem? (i := 1761) (by decide +kernel), List.mem_of_getElem? (i := 1762) (by decide +kernel)⟩
theorem lw_p87 : lw_okq (⟨"MendingRoadsModel", "lawCost", "(II)J"⟩, 62) := ⟨⟨by decide +kernel, by decide +kernel⟩, List.mem_of_getElem? (i := 1261) (by decide +kernel), List.mem_of_getElem? (i := 1773) (by decide +kernel), List.mem_of_getElem? (i := 1774) (by decide +kernel)⟩
theorem lw_p88 : lw_okq (⟨"MendingRoadsModel", "movesAll", "([IZ)V"⟩, 62) := ⟨⟨by decide +kernel, by decide +kernel⟩, List.mem_of_getElem? (i := 1261) (by decide +kernel), List.mem_of_getElem? (i := 1794) (by decide +kernel), List.mem_of_getElem? (i := 1795) (by decide +kernel)⟩
theorem lw_p89 : lw_okq (⟨"MendingRoadsModel", "moves", "([IIZ)I"⟩, 62) := ⟨⟨by decide +kernel, by decide +kernel⟩, List.mem_of_getElem? (i := 1261) (by decide +kernel), List.mem_of_getElem? (i := 1798) (by decide +kernel), List.mem_of_getElem? (i := 1799) (by decide +kernel)⟩
def lw_privs_6 : List (MethodName × Nat) := [(⟨"MendingRoadsModel", "tries", "(II)V"⟩, 62), (⟨"MendingRoadsModel", "openCost", "(I)J"⟩, 62), (⟨"MendingRoadsModel", "tollCost", "(II)J"⟩, 62), (⟨"MendingRoadsModel", "othersCost", "(III)J"⟩, 62), (⟨"MendingRoadsModel", "heldCost", "(III)J"⟩, 62), (⟨"MendingRoadsModel", "moreCost", "(II)J"⟩, 62), (⟨"MendingRoadsModel", "menCost", "(II)J"⟩, 62), (⟨"MendingRoadsModel", "lawCost", "(II)J"⟩, 62), (⟨"MendingRoadsModel", "movesAll", "([IZ)V"⟩, 62), (⟨"MendingRoadsModel", "moves", "([IIZ)I"⟩, 62)]
theorem lw_r6 : ∀ q ∈ lw_privs_6, lw_okq q := List.forall_mem_cons.mpr ⟨lw_p80, List.forall_mem_cons.mpr ⟨lw_p81, List.forall_mem_cons.mpr ⟨lw_p82, List.forall_mem_cons.mpr ⟨lw_p83, List.forall_mem_cons.mpr ⟨lw_p84, List.forall_mem_cons.mpr ⟨lw_p85, List.forall_mem_cons.mpr ⟨lw_p86, List.forall_mem_cons.mpr ⟨lw_p87, List.forall_mem_cons.mpr ⟨lw_p88, List.forall_mem_cons.mpr ⟨lw_p89, fun _ h => absurd h List.not_mem_nil⟩⟩⟩⟩⟩⟩⟩⟩⟩⟩
def lw_privs : List (MethodName × Nat) := lw_privs_1 ++ (lw_privs_2 ++ (lw_privs_3 ++ (lw_privs_4 ++ (lw_privs_5 ++ (lw_privs_6)))))
def lw_tbl : List Cond := k2_sels lw_privs ++ tables_1
theorem lw_privs_ok : ∀ q ∈ lw_privs, lw_okq q := by
  show ∀ q ∈ lw_privs_1 ++ (lw_privs_2 ++ (lw_privs_3 ++ (lw_privs_4 ++ (lw_privs_5 ++ (lw_privs_6))))), lw_okq q
  exact List.forall_mem_append.mpr ⟨lw_r1, List.forall_mem_append.mpr ⟨lw_r2, List.forall_mem_append.mpr ⟨lw_r3, List.forall_mem_append.mpr ⟨lw_r4, List.forall_mem_append.mpr ⟨lw_r5, lw_r6⟩⟩⟩⟩⟩
-- ===== end of PART A; then your names; then what follows =====
end
section
/-! ===== BEGIN words of one list among another's, by their places ===== -/
theorem goodIn_r {big : List Cond} (ws : List Cond) (ps : List Nat) (hp : ws = ps.filterMap (fun i => big[i]?)) (h : ws.all goodWord = true) : GoodIn big ws := by
  intro w hw
  have h1 := List.all_eq_true.mp h w hw
  rw [hp] at hw
  obtain ⟨i, -, hi⟩ := List.mem_filterMap.mp hw
  have hm : w ∈ big := by first | exact List.mem_of_getElem? hi | exact List.getElem?_mem hi
  exact ⟨hm, good_of_word h1⟩
theorem goodIn_app {big a b : List Cond} (ha : GoodIn big a) (hb : GoodIn big b) : GoodIn big (a ++ b) := fun w h => (List.mem_append.mp h).elim (ha w) (hb w)
theorem goodIn_ca {big a b : List Cond} {c : Cond} (ha : GoodIn big (c :: a)) (hb : GoodIn big b) : GoodIn big (c :: (a ++ b)) := fun w h => (List.mem_cons.mp h).elim (fun e => ha w (List.mem_cons.mpr (Or.inl e))) (fun h => (List.mem_append.mp h).elim (fun h => ha w (List.mem_cons.mpr (Or.inr h))) (hb w))
theorem goodIn_sub {big ws : List Cond} (hm : ∀ w ∈ ws, w ∈ big) (h : ws.all goodWord = true) : GoodIn big ws := fun w hw => ⟨hm w hw, good_of_word (List.all_eq_true.mp h w hw)⟩
/-! ===== END ===== -/

/-! ===== BEGIN new T[n][m]: the outer array a place, the inner ones among the pooled ===== -/
/-- f, but v at every address of l -/
def vr_up {α : Type} (f : Nat → α) (l : List Nat) (v : α) : Nat → α := fun a => if a ∈ l then v else f a
theorem vr_up_in {α : Type} {f : Nat → α} {l : List Nat} {v : α} {a : Nat} (h : a ∈ l) : vr_up f l v a = v := if_pos h
theorem vr_up_ne {α : Type} {f : Nat → α} {l : List Nat} {v : α} {a : Nat} (h : a ∉ l) : vr_up f l v a = f a := if_neg h
theorem vr_rows {L l : List Nat} {f : Nat → va_E} {e : va_E} (h : ∀ a, a ∈ l → a ∉ L) : va_pl L f ++ l.map (fun a => (a, e)) = va_pl (L ++ l) (vr_up f l e) := by
  unfold va_pl
  rw [List.map_append]
  congr 1
  · apply List.map_congr_left
    intro a ha
    rw [vr_up_ne (fun q => h a q ha)]
  · apply List.map_congr_left
    intro a ha
    rw [vr_up_in ha]
theorem vr_lay {X rows : va_W} {x : Nat × va_E} {pl : va_W} {D : va_G} {cl : List vw_C} {H : Heap} (hP : va_P D cl (((X ++ pl) ++ [x]) ++ rows) H) : va_P D cl ((X ++ [x]) ++ (pl ++ rows)) H := by
  rw [List.append_assoc (X ++ pl)] at hP
  have h := va_P.swap hP
  rw [← List.append_assoc X] at h
  have h2 := va_P.swap h
  rw [List.append_assoc (X ++ [x])] at h2
  exact h2
theorem vr_layD {X rows : va_W} {x : Nat × va_E} {pl : va_W} {A : Nat → Prop} (hD : va_D A (((X ++ pl) ++ [x]) ++ rows)) : va_D A ((X ++ [x]) ++ (pl ++ rows)) := by
  rw [List.append_assoc (X ++ pl)] at hD
  have h := va_D.swap hD
  rw [← List.append_assoc X] at h
  have h2 := va_D.swap h
  rw [List.append_assoc (X ++ [x])] at h2
  exact h2
theorem vr_outer (c : ClassId) (N h0 : Nat) : ∀ i : Nat, Jvm.Free.Multi.outerC c N h0 i = arrV c N (fun j => va_rf (if j < i then some (h0 + 1 + j) else none))
  | 0 => by
    show ({ cls := c, slots := Array.replicate N .null, vm := .none } : Cell) = _
    rw [arrV_new]
    refine congrArg (arrV c N) (funext fun j => ?_)
    simp [va_rf]
  | i + 1 => by
    show (Jvm.Free.Multi.outerC c N h0 i).setSlot i (.ref (h0 + 1 + i)) = _
    rw [vr_outer c N h0 i, arrV_store]
    refine congrArg (arrV c N) (funext fun j => ?_)
    by_cases e : j = i
    · subst e
      simp [updV, va_rf]
    · by_cases h : j < i
      · simp [updV, e, h, Nat.lt_succ_of_lt h]
      · simp [updV, e, h, show ¬ j < i + 1 by omega]
def va_AOA (ty : FieldType) (U : State) : Prop := (Cond.arrayOver (.array ty)).before #[] U = true
theorem va_AOA.use {ty : FieldType} {A : Array Value} {U : State} (h : va_AOA ty U) : (Cond.arrayOver (.array ty)).before A U = true := h
section VGM
variable {p : Program} {l : Launch} {e : Env} {R : Room} {s : State} {m : MethodId} {args : Array Value} {below : List Frame} {meth : Method} {c : Code} {H : Heap} {locs : List Loc} {cells slots : Nat} {Q : State → Prop}
variable {cc : ByteArray} {pc : Nat} {ls : Array Slot} {rest : List Value} {D : va_G} {cl : List vw_C} {A : Nat → Prop} {a : Nat} {tys : List (ClassId × FieldType)} {ws : va_W} {H0 : Heap}
theorem va_mna {X : va_W} {L : List Nat} {f : Nat → va_E} {cc : ByteArray} (hexec : p.tables.exec = Jvm.exec) (hb : c.code = cc) {own : String} {index : Nat} {ty : FieldType} {cy : ClassId} (hown : s.vm.findClass own = some m.cls) (hclink : (Cond.classLink own index ("[" ++ (FieldType.array ty).toString)).before args s = true) (hover : va_AOA ty s) (harr : (Cond.arrayClass ty).before args s = true) (hcy : s.vm.findClass (FieldType.array ty).toString = some cy)
    (hK : va_K D cl tys s) (hP : va_P D cl (X ++ va_pl L f) H) (hD : va_D A (X ++ va_pl L f)) (hS : va_S A H0 H locs) (hA : ∀ q, H0.size ≤ q → A q) {n k : Int32} {N' K' : Nat} {z : vp_A} (hn : ¬ n < 0) (hk : ¬ k < 0) (hN : n.toNatClampNeg = N') (hM : k.toNatClampNeg = K')
    (hb1 : N' * 4 ≤ 536870912) (hb2 : K' * componentBytes ty ≤ 536870912) (hb3 : K' ≤ 536870912) (hdf : fits ty (defaultValue ty) = true) (hdd : (defaultValue ty).isDefault = true) (hcells : cells + (1 + N') ≤ R.cells) (hslots : slots + (N' + N' * K') ≤ R.slots) (hz : ∀ c : ClassId, Jvm.Free.Multi.innerC c K' (defaultValue ty) = vp_cell c z) (hdg : decode cc pc = .ok (.multianewarray index 2, 4))
    (kk : ∀ (q : Nat) (r : Nat → Nat) (cA : ClassId) (H1 : Heap), (∀ i j : Nat, i < N' → j < N' → r i = r j → i = j) → (∀ i : Nat, i < N' → r i ∉ L) → va_K D cl (tys ++ [(cA, .array ty)]) s →
      va_P D cl ((X ++ [(q, .inl (cA, N', .inr (.inr (.inr (.inr (fun i => if i < N' then some (r i) else none))))))]) ++ va_pl (L ++ (List.range N').map r) (vr_up f ((List.range N').map r) (.inl (cy, z)))) H1 → va_D A ((X ++ [(q, .inl (cA, N', .inr (.inr (.inr (.inr (fun i => if i < N' then some (r i) else none))))))]) ++ va_pl (L ++ (List.range N').map r) (vr_up f ((List.range N').map r) (.inl (cy, z)))) → va_S A H0 H1 locs →
      W p l e R s m args below meth c H1 locs (cells + 1 + N') (slots + N' + N' * K') Q (F0 m (pc + 4) ls (.ref q :: rest))) : W p l e R s m args below meth c H locs cells slots Q (F0 m pc ls (.int k :: .int n :: rest)) := by
  subst hN
  subst hM
  intro T hT Xs
  obtain ⟨vm₁, cA, comp, -, fA, fC, hO, -, X', step⟩ := Xs.multianewarray2F hexec hown hclink (va_AOA.use hover) harr (g := F0 m pc ls (.int k :: .int n :: rest)) rfl (by rw [hb]; exact hdg) rfl hn hk hb1 hb2 hb3 hdf hdd hcells hslots
  have ec : some cy = some comp := hcy.symm.trans fC
  cases ec
  generalize hF : Jvm.Free.Multi.fill (T.setVm vm₁) cA cy n.toNatClampNeg k.toNatClampNeg (defaultValue ty) n.toNatClampNeg = F at X' step
  have hTh : (T.setVm vm₁).heap = H := hT
  obtain ⟨f1, f2, -, -⟩ := Jvm.Free.Multi.fill_facts (T.setVm vm₁) cA cy n.toNatClampNeg k.toNatClampNeg (defaultValue ty) n.toNatClampNeg
  rw [hF, hTh] at f1 f2
  have hold : ∀ x : Nat, x < H.size → F.heap[x]? = H[x]? := fun x hx => by
    have := Jvm.Free.Multi.fill_old (T.setVm vm₁) cA cy n.toNatClampNeg k.toNatClampNeg (defaultValue ty) (a := x) (by rw [hTh]; exact hx) n.toNatClampNeg
    rw [hF, hTh] at this
    exact this
  have hrow : ∀ j : Nat, j < n.toNatClampNeg → F.heap[H.size + 1 + j]? = some (vp_cell cy z) := fun j hj => by
    have := Jvm.Free.Multi.fill_inner (T.setVm vm₁) cA cy n.toNatClampNeg k.toNatClampNeg (defaultValue ty) n.toNatClampNeg j hj
    rw [hF, hTh, hz] at this
    exact this
  have hout : Jvm.Free.Multi.outerC cA n.toNatClampNeg H.size n.toNatClampNeg = vp_cell cA (n.toNatClampNeg, .inr (.inr (.inr (.inr (fun i => if i < n.toNatClampNeg then some (H.size + 1 + i) else none))))) := by
    rw [vp_cell_q]
    exact vr_outer cA n.toNatClampNeg H.size n.toNatClampNeg
  rw [hout] at f2
  have hlt : ∀ a, a ∈ L → a < H.size := fun a ha => by
    obtain ⟨k9, hk9⟩ := va_pl_get (X := X) (f := f) ha
    exact (hP k9 _ hk9).lt
  have hnl : ∀ i : Nat, i < n.toNatClampNeg → H.size + 1 + i ∉ L := fun i _ h => by
    have := hlt _ h
    omega
  have hnm : ∀ a, a ∈ (List.range n.toNatClampNeg).map (fun i => H.size + 1 + i) → a ∉ L := fun a ha h => by
    obtain ⟨i, -, rfl⟩ := List.mem_map.mp ha
    have := hlt _ h
    omega
  have hP0 : va_P D cl (X ++ va_pl L f) F.heap := hP.kept (fun k9 x hx => hold x.1 ((hP k9 x hx).lt))
  have hP1 : va_P D cl ((X ++ va_pl L f) ++ [(H.size, .inl (cA, n.toNatClampNeg, .inr (.inr (.inr (.inr (fun i => if i < n.toNatClampNeg then some (H.size + 1 + i) else none))))))]) F.heap := hP0.app (fun k9 x hx => by
    have h0 : k9 < 1 := (List.getElem?_eq_some_iff.mp hx).1
    rw [show k9 = 0 by omega] at hx
    cases hx
    exact f2)
  have hP2 : va_P D cl (((X ++ va_pl L f) ++ [(H.size, .inl (cA, n.toNatClampNeg, .inr (.inr (.inr (.inr (fun i => if i < n.toNatClampNeg then some (H.size + 1 + i) else none))))))]) ++ ((List.range n.toNatClampNeg).map (fun i => H.size + 1 + i)).map (fun a => (a, .inl (cy, z)))) F.heap := hP1.app (fun k9 x hx => by
    obtain ⟨a, ha, rfl⟩ := List.mem_map.mp (List.mem_of_getElem? hx)
    obtain ⟨i, hi, rfl⟩ := List.mem_map.mp ha
    exact hrow i (List.mem_range.mp hi))
  have hD2 : va_D A (((X ++ va_pl L f) ++ [(H.size, .inl (cA, n.toNatClampNeg, .inr (.inr (.inr (.inr (fun i => if i < n.toNatClampNeg then some (H.size + 1 + i) else none))))))]) ++ ((List.range n.toNatClampNeg).map (fun i => H.size + 1 + i)).map (fun a => (a, .inl (cy, z)))) := by
    have hD1 := hD.push (e := .inl (cA, n.toNatClampNeg, .inr (.inr (.inr (.inr (fun i => if i < n.toNatClampNeg then some (H.size + 1 + i) else none)))))) hP rfl (hA _ hS.1)
    generalize hW1 : (X ++ va_pl L f) ++ [(H.size, .inl (cA, n.toNatClampNeg, .inr (.inr (.inr (.inr (fun i => if i < n.toNatClampNeg then some (H.size + 1 + i) else none))))))] = W1 at hD1 hP1 ⊢
    have hle : ∀ (k9 : Nat) (x : Nat × va_E), W1[k9]? = some x → x.1 ≤ H.size := fun k9 x hx => by
      rw [← hW1] at hx
      by_cases hl : k9 < (X ++ va_pl L f).length
      · rw [List.getElem?_append_left hl] at hx
        exact Nat.le_of_lt ((hP k9 x hx).lt)
      · rw [List.getElem?_append_right (by omega)] at hx
        have h0 : k9 - (X ++ va_pl L f).length < 1 := (List.getElem?_eq_some_iff.mp hx).1
        rw [show k9 - (X ++ va_pl L f).length = 0 by omega] at hx
        cases hx
        exact Nat.le_refl _
    have hr : ∀ (k9 : Nat) (x : Nat × va_E), (((List.range n.toNatClampNeg).map (fun i => H.size + 1 + i)).map (fun a => ((a, .inl (cy, z)) : Nat × va_E)))[k9]? = some x → x.1 = H.size + 1 + k9 := fun k9 x hx => by
      rw [List.getElem?_map, List.getElem?_map] at hx
      by_cases h9 : k9 < n.toNatClampNeg
      · rw [List.getElem?_range h9] at hx
        cases hx
        rfl
      · have hn0 : (List.range n.toNatClampNeg)[k9]? = none := List.getElem?_eq_none (by rw [List.length_range]; omega)
        rw [hn0] at hx
        cases hx
    refine ⟨fun i j x y hi hj hxy => ?_, fun k9 x hx => ?_⟩
    · by_cases h1 : i < W1.length <;> by_cases h2 : j < W1.length
      · rw [List.getElem?_append_left h1] at hi
        rw [List.getElem?_append_left h2] at hj
        exact hD1.1 i j x y hi hj hxy
      · rw [List.getElem?_append_left h1] at hi
        rw [List.getElem?_append_right (by omega)] at hj
        have := hle _ _ hi
        have := hr _ _ hj
        omega
      · rw [List.getElem?_append_right (by omega)] at hi
        rw [List.getElem?_append_left h2] at hj
        have := hle _ _ hj
        have := hr _ _ hi
        omega
      · rw [List.getElem?_append_right (by omega)] at hi hj
        have := hr _ _ hi
        have := hr _ _ hj
        omega
    · by_cases h1 : k9 < W1.length
      · rw [List.getElem?_append_left h1] at hx
        exact hD1.2 k9 x hx
      · rw [List.getElem?_append_right (by omega)] at hx
        have := hr _ _ hx
        exact hA _ (by have := hS.1; omega)
  have hAr : ArrOfT s cA (.array ty) := fun N9 z9 => by
    obtain ⟨-, k9, hk9, cm9, hkk9⟩ := (hO 0 0 0).1
    exact ⟨(fun q hq => by cases hq), k9, hk9, cm9, hkk9⟩
  have hK2 : va_K D cl (tys ++ [(cA, .array ty)]) s := ⟨hK.1, fun k9 x hx => by
    by_cases hl : k9 < tys.length
    · rw [List.getElem?_append_left hl] at hx
      exact hK.2 k9 x hx
    · rw [List.getElem?_append_right (by omega)] at hx
      have h0 : k9 - tys.length < 1 := (List.getElem?_eq_some_iff.mp hx).1
      rw [show k9 - tys.length = 0 by omega] at hx
      cases hx
      exact ⟨hAr, fA⟩⟩
  obtain ⟨t, a1, b1⟩ := kk H.size (fun i => H.size + 1 + i) cA F.heap (fun i j _ _ h => by have h9 : H.size + 1 + i = H.size + 1 + j := h; omega) hnl hK2 (by rw [← vr_rows hnm]; exact vr_lay hP2) (by rw [← vr_rows hnm]; exact vr_layD hD2) ⟨by rw [f1]; have := hS.1; omega, fun x h1 h2 => (hold x (Nat.lt_of_lt_of_le h1 hS.1)).trans (hS.2.1 x h1 h2), hS.2.2⟩ F rfl X'
  refine ⟨t, step t ?_, b1⟩
  have e : T.heap.size = H.size := by rw [hT]
  rw [e]
  exact a1
end VGM
/-! ===== END ===== -/

/-! ===== BEGIN exceptions that leave a method, and their catching by the caller (launches without stack traces) ===== -/
section VXA
/-- where a method has thrown q: the class by its name, the cell, what was written, the world -/
def vx_T (XC : String → State → State → Prop) (st : State) (q : Addr) (t : State) (mc ms : Nat) (free : Addr → Prop) : Prop :=
  ∃ (E : String) (ce : Cell) (L : List Loc), XC E st t ∧ t.heap[q]? = some ce ∧ ce.vm = .none ∧ st.vm.findClass E = some ce.cls ∧ st.WarmedH t.vm ∧ st.sameButNew ({ t with vm := st.vm } : State) L mc ms ∧ ∀ z ∈ L, free z.base
def vx_Q (Qc : Array Value → State → Outcome → State → Prop) (XC : String → State → State → Prop) (mc ms : Nat) (free : Addr → Prop) : Array Value → State → Outcome → State → Prop := fun a st o t =>
  (Qc a st o t ∧ ∃ L, FrameEnd st o t L mc ms ∧ ∀ q ∈ L, free q.base) ∨ ∃ q, o = .threw q ∧ vx_T XC st q t mc ms free
/-- a callee that returns or throws -/
def vx_Met (l : Launch) (y : MethodName) (ws : List Cond) (rm : Room) (Pc : Array Value → State → Prop) (Qc : Array Value → State → Outcome → State → Prop) (XC : String → State → State → Prop) (mc ms : Nat) (free : Addr → Prop) : Prop :=
  MetFree l y (headSpec ws rm) Pc (fun _ _ _ _ _ => True) (vx_Q Qc XC mc ms free)
def vx_Post (XC : String → State → State → Prop) (mc ms : Nat) (free : Addr → Prop) : Pt → Array Value → Addr → Pt → Prop := fun A a q B =>
  ∃ (g : JFrame) (mk : MethodId) (t : State) (L : List Loc) (E : String) (ce : Cell), B.U.heap = t.heap ∧ B.U.vm = t.vm ∧ XC E (A.U.calling g mk a) t ∧ t.heap[q]? = some ce ∧ ce.vm = .none ∧ A.U.vm.findClass E = some ce.cls ∧ B.locs = A.locs ++ L ∧ (∀ z ∈ L, free z.base) ∧ B.cells = A.cells + mc ∧ B.slots = A.slots + ms
def vx_Back (l : Launch) (R : Room) (p : Program) (e : Env) (below : List Frame) (s : State) (sargs : Array Value) (y : MethodName) (len W9 : Nat)
    (Pre : Pt → Array Value → Prop) (Post : Pt → Array Value → Option Value → Pt → Prop) (PostX : Pt → Array Value → Addr → Pt → Prop) : Prop :=
  ∀ (m : MethodId) (meth : Method) (c : Code) (A : Pt) (g : JFrame) (ig : Instr) (mk : MethodId) (a : Array Value),
    Stand p l e R s m sargs below meth c A.U A.locs A.cells A.slots → g.method = m → g.locals.size = c.maxLocals → decode c.code g.pc = .ok (ig, len) →
    2 * g.monitorRoom + (g.stack.map fun v => v.category).sum ≤ W9 → A.U.methodNamed? y = some mk → Pre A a →
    (∃ (v : Option Value) (B : Pt), Stand p l e R s m sargs below meth c B.U B.locs B.cells B.slots ∧ Post A a v B ∧
      Steps p.tables e below (doInvoke e (A.U.setTop g) [] mk a).1 (B.U.setTop { g with pc := g.pc + len, stack := v.toList ++ g.stack })) ∨
    (∃ (q : Addr) (B : Pt), Stand p l e R s m sargs below meth c B.U B.locs B.cells B.slots ∧ PostX A a q B ∧
      Steps p.tables e below (doInvoke e (A.U.setTop g) [] mk a).1 ((B.U.setTop g).pushFrame (.throwing q)))
section Payer
variable {l : Launch} {R : Room} {p : Program} {e : Env} {below : List Frame} {s : State} {sargs : Array Value} {y : MethodName} {len W9 : Nat}
theorem vx_back {ws : List Cond} {rm : Room} {Pc : Array Value → State → Prop} {Qc : Array Value → State → Outcome → State → Prop} {XC : String → State → State → Prop} {mc ms : Nat} {free : Addr → Prop} {bytes : ByteArray} {maxL : Nat} {ret : Option FieldType}
    (hM : vx_Met l y ws rm Pc Qc XC mc ms free) (hblind : FrameBlind Pc) (hrc : rm.cells = mc) (hrs : rm.slots = ms)
    (hframes : rm.frames + 1 ≤ R.frames) (hlocals : W9 + (maxL + 11) + rm.locals ≤ R.locals)
    (hws : ∀ w ∈ ws, ∀ a' U, s.WarmedH U.vm → w.before a' U = true) (hcode : Cond.code y bytes maxL ret ∈ ws) (hinit : ∀ a' U, s.WarmedH U.vm → (Cond.initialized y.cls).before a' U = true) :
    vx_Back l R p e below s sargs y len W9 (PreOf R mc ms Pc) (PostOf Qc mc ms free) (vx_Post XC mc ms free) := by
  intro m meth c A g ig mk a X hg hsize hdg hW hn hp
  have h1 : (headSpec ws rm).pre.before a A.U = true := atoms_intro fun w hw => hws w hw _ _ X.warmed
  have h2 : (Cond.code y bytes maxL ret).before a A.U = true := hws _ hcode _ _ X.warmed
  have h3 : (Cond.initialized y.cls).before a A.U = true := hinit _ _ X.warmed
  have h4 : A.cells + (headSpec ws rm).room.cells ≤ R.cells := by rw [show (headSpec ws rm).room.cells = mc from hrc]; exact hp.1
  have h5 : A.slots + (headSpec ws rm).room.slots ≤ R.slots := by rw [show (headSpec ws rm).room.slots = ms from hrs]; exact hp.2.1
  have hPc : Pc a (A.U.calling g mk a) := hblind _ _ _ _ hp.2.2
  obtain ⟨U, Ls, c0, s0⟩ := A
  dsimp only [Pt.U, Pt.locs, Pt.cells, Pt.slots] at h1 h2 h3 h4 h5 X hn hPc ⊢
  obtain ⟨methY, cY, hmY, hcY, -, hlY, -, -, -, -⟩ := Cond.code_spec hn h2
  obtain ⟨kY, hkY, -⟩ := className_of_methodNamed hn
  have hinitY : kY.init = .initialized := Cond.initialized_spec (findClass_of_methodNamed hn) hkY h3
  have h : At U g.method c below := by rw [hg]; exact X.here
  have hlocals9 : W9 + (maxL + 11) + (headSpec ws rm).room.locals ≤ R.locals := hlocals
  have happ : (headSpec ws rm).appliesLoose y e.platform (U.calling g mk a) = true :=
    Spec.appliesLoose_calling (g := g) h hdg hn hkY hinitY
      (X.room_calling (g := g) (R' := (headSpec ws rm).room) hsize hmY hcY hframes (by rw [hlY]; omega) h4 h5) h1
  obtain ⟨mid, hmid⟩ := h.above
  have hfr : (U.setTop g).frames = (.java g :: mid) ++ below := by rw [State.frames_setTop' g h.top, hmid]; rfl
  obtain ⟨o, s₂, hsteps, -, hend, hq⟩ := Steps.callFree hM p X.admits X.cas X.clock (acts := []) hfr happ hPc trivial
  have hq' : vx_Q Qc XC mc ms free a (U.calling g mk a) o s₂ := hq
  rw [State.frames_setTop' g h.top] at hend
  obtain ⟨g₀, hg0⟩ := Option.isSome_iff_exists.mp h.top
  obtain ⟨r, hr⟩ := State.topJava?_eq_some.mp hg0
  have hr' : (({ U with heap := s₂.heap, slotsUsed := s₂.slotsUsed } : State).setVm s₂.vm).frames = .java g₀ :: r := hr
  rcases hq' with ⟨hqc, L, hfe, hL⟩ | ⟨q, rfl, E, ce, L, hx, hce, hcv, hcl, hW₂, hsm, hL⟩
  · obtain ⟨⟨v, rfl⟩, hW₂, e2, q2, q3, q4, q5, q6⟩ := id hfe
    have e3 : s₂ = ({ (U.calling g mk a).setFrames s₂.frames with heap := s₂.heap, slotsUsed := s₂.slotsUsed } : State).setVm s₂.vm := by
      have : s₂ = ({ s₂ with vm := (U.calling g mk a).vm } : State).setVm s₂.vm := rfl
      rw [e2] at this
      exact this
    obtain ⟨c₂, i₂, len₂, hc₂, hd₂, hf₂⟩ := hend
    have hW' : U.WarmedH s₂.vm := hW₂
    have hcc : c₂ = c := by
      have h1 : s₂.code? g.method = U.code? g.method := by
        rw [State.code?_eq, State.code?_eq, hW'.alike.method?]
      exact Option.some.inj (hc₂.symm.trans (h1.trans h.code))
    subst hcc
    have hlen : len₂ = len := by rw [hdg] at hd₂; cases hd₂; rfl
    subst hlen
    have hs₂ : s₂ = (({ U with heap := s₂.heap, slotsUsed := s₂.slotsUsed } : State).setVm s₂.vm).setTop { g with pc := g.pc + len₂, stack := v.toList ++ g.stack } := by
      refine e3.trans ?_
      rw [hf₂, State.calling_eq h.top, State.setFrames_setFrames, State.setTop_of_frames _ hr', hr]
      rfl
    have hsame : U.sameButNew ({ U with heap := s₂.heap, slotsUsed := s₂.slotsUsed } : State) L mc ms := by
      refine ⟨?_, q2, q3, q4, q5, q6⟩
      obtain ⟨t, ht, -⟩ := State.frames_cons hr
      show ({ U with heap := s₂.heap, slotsUsed := s₂.slotsUsed } : State) = { U.setFrames U.frames with heap := s₂.heap, slotsUsed := s₂.slotsUsed }
      rw [State.setFrames_self ht]
    subst hg
    refine Or.inl ⟨v, ⟨(({ U with heap := s₂.heap, slotsUsed := s₂.slotsUsed } : State).setVm s₂.vm), Ls ++ L, c0 + mc, s0 + ms⟩,
      ⟨X.admits, X.cas, X.clock, X.frames, X.room, X.hears, X.method, X.code, (X.here.setHeapUsed s₂.heap s₂.slotsUsed).setVm hW'.alike, X.tail, State.WarmedH.trans X.warmed hW', X.limits, X.bytes, X.same.trans (hsame.setVm s.vm)⟩,
      ⟨g, mk, s₂, L, rfl, rfl, hqc, rfl, hL, rfl, rfl⟩, ?_⟩
    show Steps p.tables e below _ ((({ U with heap := s₂.heap, slotsUsed := s₂.slotsUsed } : State).setVm s₂.vm).setTop { g with pc := g.pc + len₂, stack := v.toList ++ g.stack })
    rw [← hs₂]
    exact hsteps
  · obtain ⟨e2, q2, q3, q4, q5, q6⟩ := id hsm
    have e3 : s₂ = ({ (U.calling g mk a).setFrames s₂.frames with heap := s₂.heap, slotsUsed := s₂.slotsUsed } : State).setVm s₂.vm := by
      have : s₂ = ({ s₂ with vm := (U.calling g mk a).vm } : State).setVm s₂.vm := rfl
      rw [e2] at this
      exact this
    have hf₂ : s₂.frames = .throwing q :: .java g :: U.frames.tail := hend
    have hW' : U.WarmedH s₂.vm := hW₂
    have hs₂ : s₂ = ((({ U with heap := s₂.heap, slotsUsed := s₂.slotsUsed } : State).setVm s₂.vm).setTop g).pushFrame (.throwing q) := by
      refine e3.trans ?_
      rw [hf₂, State.calling_eq h.top, State.setFrames_setFrames, State.pushFrame, State.frames_setTop _ hr', State.setTop_of_frames _ hr', State.setFrames_setFrames, hr]
      rfl
    have hsame : U.sameButNew ({ U with heap := s₂.heap, slotsUsed := s₂.slotsUsed } : State) L mc ms := by
      refine ⟨?_, q2, q3, q4, q5, q6⟩
      obtain ⟨t, ht, -⟩ := State.frames_cons hr
      show ({ U with heap := s₂.heap, slotsUsed := s₂.slotsUsed } : State) = { U.setFrames U.frames with heap := s₂.heap, slotsUsed := s₂.slotsUsed }
      rw [State.setFrames_self ht]
    subst hg
    refine Or.inr ⟨q, ⟨(({ U with heap := s₂.heap, slotsUsed := s₂.slotsUsed } : State).setVm s₂.vm), Ls ++ L, c0 + mc, s0 + ms⟩,
      ⟨X.admits, X.cas, X.clock, X.frames, X.room, X.hears, X.method, X.code, (X.here.setHeapUsed s₂.heap s₂.slotsUsed).setVm hW'.alike, X.tail, State.WarmedH.trans X.warmed hW', X.limits, X.bytes, X.same.trans (hsame.setVm s.vm)⟩,
      ⟨g, mk, s₂, L, E, ce, rfl, rfl, hx, hce, hcv, hcl, rfl, hL, rfl, rfl⟩, ?_⟩
    show Steps p.tables e below _ (((({ U with heap := s₂.heap, slotsUsed := s₂.slotsUsed } : State).setVm s₂.vm).setTop g).pushFrame (.throwing q))
    rw [← hs₂]
    exact hsteps
end Payer
section Calls
variable {p : Program} {l : Launch} {e : Env} {R : Room} {s : State} {m : MethodId} {args : Array Value} {below : List Frame} {meth : Method} {c : Code} {T : State} {locs : List Loc} {cells slots : Nat}
theorem vx_callV (X : Stand p l e R s m args below meth c T locs cells slots) (hexec : p.tables.exec = Jvm.exec) {own C : String} {index : Nat} {y : MethodName} {bytes : ByteArray} {maxL : Nat} {ret : Option FieldType}
    (hown : s.vm.findClass own = some m.cls) (hlink : (Cond.methodLink own index y).before args s = true) (hinst : (Cond.instanceMethod y).before args s = true) (hsel : (Cond.selects C y y).before args s = true)
    (hcode : (Cond.code y bytes maxL ret).before args s = true) (hy : y.cls ≠ "java/lang/invoke/MethodHandle" ∧ y.cls ≠ "java/lang/invoke/VarHandle")
    {W9 : Nat} {Pre : Pt → Array Value → Prop} {Post : Pt → Array Value → Option Value → Pt → Prop} {PostX : Pt → Array Value → Addr → Pt → Prop} (hK : vx_Back l R p e below s args y 3 W9 Pre Post PostX)
    {b : Addr} {cellB : Cell} (hcell : T.heap[b]? = some cellB) (hobj : cellB.vm.isStatics = false) (hcls : s.vm.findClass C = some cellB.cls)
    {g : JFrame} (hg : g.method = m) (hsize : g.locals.size = c.maxLocals) {argsL rest : List Value} (hlen : ∀ sig, parseMethodDescriptor y.desc = some sig → argsL.length = sig.parameters.length)
    (hstack : g.stack = argsL.reverse ++ .ref b :: rest) (hW : 2 * g.monitorRoom + (rest.map fun v => v.category).sum ≤ W9) (hdg : decode c.code g.pc = .ok (.invokevirtual index, 3))
    (hpre : ∀ vm₁, s.WarmedH vm₁ → Pre ⟨T.setVm vm₁, locs, cells, slots⟩ (Value.ref b :: argsL).toArray) :
    (∃ (v : Option Value) (vm₁ : Vm) (B : Pt), s.WarmedH vm₁ ∧ Stand p l e R s m args below meth c B.U B.locs B.cells B.slots ∧ Post ⟨T.setVm vm₁, locs, cells, slots⟩ (Value.ref b :: argsL).toArray v B ∧
      ∀ target, Steps p.tables e below (B.U.setTop { g with pc := g.pc + 3, stack := v.toList ++ rest }) target → Steps p.tables e below (T.setTop g) target) ∨
    (∃ (q : Addr) (vm₁ : Vm) (B : Pt), s.WarmedH vm₁ ∧ Stand p l e R s m args below meth c B.U B.locs B.cells B.slots ∧ PostX ⟨T.setVm vm₁, locs, cells, slots⟩ (Value.ref b :: argsL).toArray q B ∧
      Steps p.tables e below (T.setTop g) ((B.U.setTop { g with stack := rest }).pushFrame (.throwing q))) := by
  obtain ⟨mk, methM, hnamed, hmethM, hstM, habM⟩ := Cond.instanceMethod_spec hinst
  obtain ⟨methM', cM, hmethM', -, -, -, -, -, -, hsigM⟩ := Cond.code_spec hnamed hcode
  cases hmethM.symm.trans hmethM'
  obtain ⟨c2, r2, m2, q1, q2, q3, q4, kP, hkP, hkPi⟩ := Cond.selects_spec hsel
  cases hcls.symm.trans q1
  cases (State.methodFound?_of_named hnamed hy).symm.trans q2
  cases hnamed.symm.trans q3
  have hselP : selectMethod e.platform s.vm cellB.cls mk = .method mk := by rw [Launch.admits_selectMethod X.admits]; exact q4
  obtain ⟨vm₁, X₁, hstep₁⟩ := X.invokevirtual hexec hown hlink hnamed hmethM hstM hkP hkPi hy (a := b) (cell := cellB) hcell
    (fun z h => by rw [h] at hobj; cases hobj) hselP hmethM habM hkP hkPi (g := g) hg (argsL := argsL) (rest := rest) (hlen _ hsigM) hstack hdg
  rcases hK m meth c ⟨T.setVm vm₁, locs, cells, slots⟩ { g with stack := rest } (.invokevirtual index) mk (Value.ref b :: argsL).toArray X₁ hg hsize hdg hW (X₁.named hnamed) (hpre vm₁ X₁.warmed) with ⟨v, B, X', hpost, hsteps⟩ | ⟨q, B, X', hpost, hsteps⟩
  · exact Or.inl ⟨v, vm₁, B, X₁.warmed, X', hpost, fun target h => hstep₁ _ fun acts => by rw [doInvoke_state]; exact hsteps.trans h⟩
  · exact Or.inr ⟨q, vm₁, B, X₁.warmed, X', hpost, hstep₁ _ fun acts => by rw [doInvoke_state]; exact hsteps⟩
theorem vx_callS (X : Stand p l e R s m args below meth c T locs cells slots) (hexec : p.tables.exec = Jvm.exec) {own : String} {index : Nat} {y : MethodName} {bytes : ByteArray} {maxL : Nat} {ret : Option FieldType}
    (hown : s.vm.findClass own = some m.cls) (hlink : (Cond.methodLink own index y).before args s = true) (hstat : (Cond.static y).before args s = true) (hinit : (Cond.initialized y.cls).before args s = true)
    (hcode : (Cond.code y bytes maxL ret).before args s = true) (hy : y.cls ≠ "java/lang/invoke/MethodHandle" ∧ y.cls ≠ "java/lang/invoke/VarHandle")
    {W9 : Nat} {Pre : Pt → Array Value → Prop} {Post : Pt → Array Value → Option Value → Pt → Prop} {PostX : Pt → Array Value → Addr → Pt → Prop} (hK : vx_Back l R p e below s args y 3 W9 Pre Post PostX)
    {g : JFrame} (hg : g.method = m) (hsize : g.locals.size = c.maxLocals) {argsL rest : List Value} (hlen : ∀ sig, parseMethodDescriptor y.desc = some sig → argsL.length = sig.parameters.length)
    (hstack : g.stack = argsL.reverse ++ rest) (hW : 2 * g.monitorRoom + (rest.map fun v => v.category).sum ≤ W9) (hdg : decode c.code g.pc = .ok (.invokestatic index, 3))
    (hpre : ∀ vm₁, s.WarmedH vm₁ → Pre ⟨T.setVm vm₁, locs, cells, slots⟩ argsL.toArray) :
    (∃ (v : Option Value) (vm₁ : Vm) (B : Pt), s.WarmedH vm₁ ∧ Stand p l e R s m args below meth c B.U B.locs B.cells B.slots ∧ Post ⟨T.setVm vm₁, locs, cells, slots⟩ argsL.toArray v B ∧
      ∀ target, Steps p.tables e below (B.U.setTop { g with pc := g.pc + 3, stack := v.toList ++ rest }) target → Steps p.tables e below (T.setTop g) target) ∨
    (∃ (q : Addr) (vm₁ : Vm) (B : Pt), s.WarmedH vm₁ ∧ Stand p l e R s m args below meth c B.U B.locs B.cells B.slots ∧ PostX ⟨T.setVm vm₁, locs, cells, slots⟩ argsL.toArray q B ∧
      Steps p.tables e below (T.setTop g) ((B.U.setTop { g with stack := rest }).pushFrame (.throwing q))) := by
  obtain ⟨mk, hnamed⟩ := Cond.code_named hcode
  obtain ⟨methM, cM, hmethM, -, -, -, -, -, -, hsigM⟩ := Cond.code_spec hnamed hcode
  have hstatic : methM.isStatic = true := Cond.static_spec hnamed hmethM hstat
  obtain ⟨kP, hkP, -⟩ := className_of_methodNamed hnamed
  have hinitP : kP.init = .initialized := Cond.initialized_spec (findClass_of_methodNamed hnamed) hkP hinit
  obtain ⟨vm₁, X₁, hstep₁⟩ := X.invokestatic hexec hown hlink hnamed hmethM hstatic hkP hinitP hy (g := g) hg (argsL := argsL) (rest := rest) (hlen _ hsigM) hstack hdg
  rcases hK m meth c ⟨T.setVm vm₁, locs, cells, slots⟩ { g with stack := rest } (.invokestatic index) mk argsL.toArray X₁ hg hsize hdg hW (X₁.named hnamed) (hpre vm₁ X₁.warmed) with ⟨v, B, X', hpost, hsteps⟩ | ⟨q, B, X', hpost, hsteps⟩
  · exact Or.inl ⟨v, vm₁, B, X₁.warmed, X', hpost, fun target h => hstep₁ _ fun acts => by rw [doInvoke_state]; exact hsteps.trans h⟩
  · exact Or.inr ⟨q, vm₁, B, X₁.warmed, X', hpost, hstep₁ _ fun acts => by rw [doInvoke_state]; exact hsteps⟩
end Calls
theorem vx_cls {s : State} {T : State} {vm₁ : Vm} {E : String} {k : ClassId} (hW : s.WarmedH vm₁) (h : (T.setVm vm₁).vm.findClass E = some k) : s.vm.findClass E = some k := by
  have h1 : vm₁.findClass E = some k := h
  rw [hW.alike.findClass] at h1
  exact h1
/-- the method's frame g, with q thrown over it -/
def vx_W (p : Program) (l : Launch) (e : Env) (R : Room) (s : State) (m : MethodId) (args : Array Value) (below : List Frame) (meth : Method) (c : Code) (H : Heap) (locs : List Loc) (cells slots : Nat) (Q : State → Prop) (g : JFrame) (q : Addr) : Prop :=
  ∀ T : State, T.heap = H → Stand p l e R s m args below meth c T locs cells slots → ∃ t, Steps p.tables e below ((T.setTop g).pushFrame (.throwing q)) t ∧ Q t
def vx_Run (p : Program) (l : Launch) (e : Env) (R : Room) (s : State) (m : MethodId) (args : Array Value) (below : List Frame) (meth : Method) (c : Code) (H : Heap) (locs : List Loc) (cells slots mc ms : Nat) (g : JFrame) (rest : List Value) (Qa : State → Outcome → State → Prop) (XC : String → State → State → Prop) (free : Addr → Prop) : Prop :=
  ∀ T : State, T.heap = H → Stand p l e R s m args below meth c T locs cells slots →
    (∃ (v : Option Value) (st₀ t T' : State) (L : List Loc), st₀.heap = H ∧ Stand p l e R s m args below meth c T' (locs ++ L) (cells + mc) (slots + ms) ∧ (∀ q ∈ L, free q.base) ∧ T'.heap = t.heap ∧ T'.vm = t.vm ∧ Qa st₀ (.returned v) t ∧
      Goes p e below T g T' { g with pc := g.pc + 3, stack := v.toList ++ rest }) ∨
    (∃ (q : Addr) (st₀ t T' : State) (L : List Loc) (E : String) (ce : Cell), st₀.heap = H ∧ Stand p l e R s m args below meth c T' (locs ++ L) (cells + mc) (slots + ms) ∧ (∀ z ∈ L, free z.base) ∧ T'.heap = t.heap ∧ T'.vm = t.vm ∧ XC E st₀ t ∧ t.heap[q]? = some ce ∧ ce.vm = .none ∧ s.vm.findClass E = some ce.cls ∧
      Steps p.tables e below (T.setTop g) ((T'.setTop { g with stack := rest }).pushFrame (.throwing q)))
def vx_X {S : Type} (px : S → Prop) (B : String → S → State → Prop) (A : Nat → Prop) : String → State → State → Prop := fun E st t => ∃ u : S, px u ∧ B E u t ∧ va_F A st t
section Runs
variable {p : Program} {l : Launch} {e : Env} {R : Room} {s : State} {m : MethodId} {args : Array Value} {below : List Frame} {meth : Method} {c : Code} {H : Heap} {locs : List Loc} {cells slots : Nat}
variable {y : MethodName} {bytes cc : ByteArray} {maxL nL mc ms n index : Nat} {ret : Option FieldType} {ws : List Cond} {rm : Room} {Pc : Array Value → State → Prop} {Qc : Array Value → State → Outcome → State → Prop} {XC : String → State → State → Prop} {free : Addr → Prop} {Ts : List Cond} {own C : String} {b : Addr} {As rest : List Value} {g : JFrame}
theorem vx_callBack (cb : CallB R s args own index y bytes maxL ret ws rm mc ms n) (hM : vx_Met l y ws rm Pc Qc XC mc ms free) (hbl : FrameBlind Pc) : vx_Back l R p e below s args y 3 8 (PreOf R mc ms Pc) (PostOf Qc mc ms free) (vx_Post XC mc ms free) := by
  obtain ⟨hrc, hrs, hfr, hlo, hws, hcw, -, hini, -⟩ := cb
  exact vx_back (bytes := bytes) (maxL := maxL) (ret := ret) hM hbl hrc hrs hfr hlo hws hcw (fun a' U hW => word_at hW (Or.inl (by first | rfl | simp [Cond.onTables, Cond.keeps, Cond.steady])) hini)
theorem vx_runV (S : CallFix p m c cc nL s args Ts own) (hM : vx_Met l y ws rm Pc Qc XC mc ms free) (cw : CallW R s args own C index y bytes maxL ret ws rm mc ms n) (hp : PreV s H C b Pc As)
    (hg : g.method = m) (hn : As.length = n) (hsize : g.locals.size = nL) (hstack : g.stack = As.reverse ++ .ref b :: rest) (hW : 2 * g.monitorRoom + (rest.map fun v => v.category).sum ≤ 8) (hdg : decode cc g.pc = .ok (.invokevirtual index, 3)) (hf : cells + mc ≤ R.cells ∧ slots + ms ≤ R.slots) :
    vx_Run p l e R s m args below meth c H locs cells slots mc ms g rest (Qc (Value.ref b :: As).toArray) XC free := by
  have hK : vx_Back l R p e below s args y 3 8 (PreOf R mc ms Pc) (PostOf Qc mc ms free) (vx_Post XC mc ms free) := vx_callBack cw.1 hM hp.1
  obtain ⟨⟨-, -, -, -, -, -, hcode, -, hy, hlen, hl⟩, hin, hse⟩ := cw
  obtain ⟨hx, hb, hml, ho, -⟩ := S
  obtain ⟨-, ⟨cellB, hcB, hoB, hclB⟩, hPc⟩ := hp
  intro T hT X
  rcases vx_callV X hx (C := C) (bytes := bytes) (maxL := maxL) (ret := ret) ho hl hin hse hcode hy hK (by rw [hT]; exact hcB) hoB hclB hg (hsize.trans hml.symm) (argsL := As) (rest := rest) (fun sig h => hn.trans (hlen sig h)) hstack hW (by rw [hb]; exact hdg)
    (fun vm₁ hW₁ => ⟨hf.1, hf.2, hPc (T.setVm vm₁) hT hW₁⟩) with ⟨v, vm₁, ⟨U', l2, c2, s2⟩, hW₁, X', ⟨g', mk, t, L, e1, e2, hq, h1, hL, h2, h3⟩, st⟩ | ⟨q, vm₁, ⟨U', l2, c2, s2⟩, hW₁, X', ⟨g', mk, t, L, E, ce, e1, e2, hq, hce, hcv, hcl, h1, hL, h2, h3⟩, st⟩
  · dsimp only [Pt.U, Pt.locs, Pt.cells, Pt.slots] at X' e1 e2 h1 h2 h3 st
    subst h1; subst h2; subst h3
    exact Or.inl ⟨v, (T.setVm vm₁).calling g' mk (Value.ref b :: As).toArray, t, U', L, hT, X', hL, e1, e2, hq, st⟩
  · dsimp only [Pt.U, Pt.locs, Pt.cells, Pt.slots] at X' e1 e2 h1 h2 h3 st hcl
    subst h1; subst h2; subst h3
    exact Or.inr ⟨q, (T.setVm vm₁).calling g' mk (Value.ref b :: As).toArray, t, U', L, E, ce, hT, X', hL, e1, e2, hq, hce, hcv, vx_cls hW₁ hcl, st⟩
theorem vx_runS (S : CallFix p m c cc nL s args Ts own) (hM : vx_Met l y ws rm Pc Qc XC mc ms free) (cw : CallB R s args own index y bytes maxL ret ws rm mc ms n ∧ (Cond.static y).before args s = true) (hp : PreS s H Pc As)
    (hg : g.method = m) (hn : As.length = n) (hsize : g.locals.size = nL) (hstack : g.stack = As.reverse ++ rest) (hW : 2 * g.monitorRoom + (rest.map fun v => v.category).sum ≤ 8) (hdg : decode cc g.pc = .ok (.invokestatic index, 3)) (hf : cells + mc ≤ R.cells ∧ slots + ms ≤ R.slots) :
    vx_Run p l e R s m args below meth c H locs cells slots mc ms g rest (Qc As.toArray) XC free := by
  have hK : vx_Back l R p e below s args y 3 8 (PreOf R mc ms Pc) (PostOf Qc mc ms free) (vx_Post XC mc ms free) := vx_callBack cw.1 hM hp.1
  obtain ⟨⟨-, -, -, -, -, -, hcode, hini, hy, hlen, hl⟩, hstt⟩ := cw
  obtain ⟨hx, hb, hml, ho, -⟩ := S
  intro T hT X
  rcases vx_callS X hx (bytes := bytes) (maxL := maxL) (ret := ret) ho hl hstt hini hcode hy hK hg (hsize.trans hml.symm) (argsL := As) (rest := rest) (fun sig h => hn.trans (hlen sig h)) hstack hW (by rw [hb]; exact hdg)
    (fun vm₁ hW₁ => ⟨hf.1, hf.2, hp.2 (T.setVm vm₁) hT hW₁⟩) with ⟨v, vm₁, ⟨U', l2, c2, s2⟩, hW₁, X', ⟨g', mk, t, L, e1, e2, hq, h1, hL, h2, h3⟩, st⟩ | ⟨q, vm₁, ⟨U', l2, c2, s2⟩, hW₁, X', ⟨g', mk, t, L, E, ce, e1, e2, hq, hce, hcv, hcl, h1, hL, h2, h3⟩, st⟩
  · dsimp only [Pt.U, Pt.locs, Pt.cells, Pt.slots] at X' e1 e2 h1 h2 h3 st
    subst h1; subst h2; subst h3
    exact Or.inl ⟨v, (T.setVm vm₁).calling g' mk As.toArray, t, U', L, hT, X', hL, e1, e2, hq, st⟩
  · dsimp only [Pt.U, Pt.locs, Pt.cells, Pt.slots] at X' e1 e2 h1 h2 h3 st hcl
    subst h1; subst h2; subst h3
    exact Or.inr ⟨q, (T.setVm vm₁).calling g' mk As.toArray, t, U', L, E, ce, hT, X', hL, e1, e2, hq, hce, hcv, vx_cls hW₁ hcl, st⟩
end Runs
section Rows
variable {p : Program} {l : Launch} {e : Env} {R : Room} {s : State} {m : MethodId} {args : Array Value} {below : List Frame} {meth : Method} {c : Code} {H : Heap} {locs : List Loc} {cells slots : Nat} {Q : State → Prop}
variable {mc ms : Nat} {free : Addr → Prop} {A0 A1 : Nat → Prop} {H0 : Heap} {a : Array Value} {pc : Nat} {ls : Array Slot} {st0 rest : List Value}
theorem vx_keep {st₀ t T' : State} {L : List Loc} (h0 : st₀.heap = H) (e1 : T'.heap = t.heap) (hS : va_S A0 H0 H locs) (hA : ∀ q, q < H.size → A1 q → A0 q) (hf : ∀ q, free q → A0 q) (hL : ∀ q ∈ L, free q.base) (hF : va_F A1 st₀ t) :
    H.size ≤ T'.heap.size ∧ (∀ q : Nat, q < H.size → ¬ A1 q → T'.heap[q]? = H[q]?) ∧ va_S A0 H0 T'.heap (locs ++ L) := by
  obtain ⟨hz, hk⟩ := hF
  rw [h0] at hz hk
  exact ⟨by rw [e1]; exact hz, fun q h1 h2 => by rw [e1]; exact hk q h1 h2,
    ⟨Nat.le_trans hS.1 (by rw [e1]; exact hz), fun q h1 h2 => by rw [e1, hk q (Nat.lt_of_lt_of_le h1 hS.1) (fun z => h2 (hA q (Nat.lt_of_lt_of_le h1 hS.1) z))]; exact hS.2.1 q h1 h2, fun q hq => by
      rcases List.mem_append.mp hq with h | h
      · exact hS.2.2 q h
      · exact hf _ (hL q h)⟩⟩
theorem vx_calli {S SX : Type} {post : Int32 → S → Prop} {px : SX → Prop} {B : S → State → Prop} {BX : String → SX → State → Prop} {AX : Nat → Prop} (hr : vx_Run p l e R s m args below meth c H locs cells slots mc ms (F0 m pc ls st0) rest (va_Qi post B A1 a) (vx_X px BX AX) free) (hS : va_S A0 H0 H locs) (hA : ∀ q, q < H.size → A1 q → A0 q) (hf : ∀ q, free q → A0 q) (hAX : ∀ q, q < H.size → AX q → A0 q)
    (kx : ∀ (E : String) (ce : Cell) (q9 : Addr) (u : SX) (t : State) (H1 : Heap) (locs1 : List Loc), t.heap = H1 → s.vm.Alike t.vm → px u → BX E u t → H.size ≤ H1.size → (∀ q : Nat, q < H.size → ¬ AX q → H1[q]? = H[q]?) → va_S A0 H0 H1 locs1 → H1[q9]? = some ce → ce.vm = .none → s.vm.findClass E = some ce.cls → vx_W p l e R s m args below meth c H1 locs1 (cells + mc) (slots + ms) Q (F0 m pc ls rest) q9)
    (kk : ∀ (r : Int32) (u : S) (t : State) (H1 : Heap) (locs1 : List Loc), t.heap = H1 → s.vm.Alike t.vm → post r u → B u t → H.size ≤ H1.size → (∀ q : Nat, q < H.size → ¬ A1 q → H1[q]? = H[q]?) → va_S A0 H0 H1 locs1 → W p l e R s m args below meth c H1 locs1 (cells + mc) (slots + ms) Q (F0 m (pc + 3) ls (.int r :: rest))) : W p l e R s m args below meth c H locs cells slots Q (F0 m pc ls st0) := by
  intro T hT X
  rcases hr T hT X with ⟨v, st₀, t, T', L, h0, X', hL, e1, e2, ⟨⟨r, u, hv, hp, hb⟩, hF⟩, st⟩ | ⟨q, st₀, t, T', L, E, ce, h0, X', hL, e1, e2, ⟨u, hp, hb, hF⟩, hce, hcv, hcl, st⟩
  · cases hv
    obtain ⟨k1, k2, k3⟩ := vx_keep h0 e1 hS hA hf hL hF
    obtain ⟨t2, a1, b1⟩ := kk r u t T'.heap (locs ++ L) e1.symm (by rw [← e2]; exact X'.warmed.alike) hp hb k1 k2 k3 T' rfl X'
    exact ⟨t2, st t2 a1, b1⟩
  · obtain ⟨k1, k2, k3⟩ := vx_keep h0 e1 hS hAX hf hL hF
    obtain ⟨t2, a1, b1⟩ := kx E ce q u t T'.heap (locs ++ L) e1.symm (by rw [← e2]; exact X'.warmed.alike) hp hb k1 k2 k3 (by rw [e1]; exact hce) hcv hcl T' rfl X'
    exact ⟨t2, st.trans a1, b1⟩
theorem vx_calll {S SX : Type} {post : Int64 → S → Prop} {px : SX → Prop} {B : S → State → Prop} {BX : String → SX → State → Prop} {AX : Nat → Prop} (hr : vx_Run p l e R s m args below meth c H locs cells slots mc ms (F0 m pc ls st0) rest (va_Ql post B A1 a) (vx_X px BX AX) free) (hS : va_S A0 H0 H locs) (hA : ∀ q, q < H.size → A1 q → A0 q) (hf : ∀ q, free q → A0 q) (hAX : ∀ q, q < H.size → AX q → A0 q)
    (kx : ∀ (E : String) (ce : Cell) (q9 : Addr) (u : SX) (t : State) (H1 : Heap) (locs1 : List Loc), t.heap = H1 → s.vm.Alike t.vm → px u → BX E u t → H.size ≤ H1.size → (∀ q : Nat, q < H.size → ¬ AX q → H1[q]? = H[q]?) → va_S A0 H0 H1 locs1 → H1[q9]? = some ce → ce.vm = .none → s.vm.findClass E = some ce.cls → vx_W p l e R s m args below meth c H1 locs1 (cells + mc) (slots + ms) Q (F0 m pc ls rest) q9)
    (kk : ∀ (r : Int64) (u : S) (t : State) (H1 : Heap) (locs1 : List Loc), t.heap = H1 → s.vm.Alike t.vm → post r u → B u t → H.size ≤ H1.size → (∀ q : Nat, q < H.size → ¬ A1 q → H1[q]? = H[q]?) → va_S A0 H0 H1 locs1 → W p l e R s m args below meth c H1 locs1 (cells + mc) (slots + ms) Q (F0 m (pc + 3) ls (.long r :: rest))) : W p l e R s m args below meth c H locs cells slots Q (F0 m pc ls st0) := by
  intro T hT X
  rcases hr T hT X with ⟨v, st₀, t, T', L, h0, X', hL, e1, e2, ⟨⟨r, u, hv, hp, hb⟩, hF⟩, st⟩ | ⟨q, st₀, t, T', L, E, ce, h0, X', hL, e1, e2, ⟨u, hp, hb, hF⟩, hce, hcv, hcl, st⟩
  · cases hv
    obtain ⟨k1, k2, k3⟩ := vx_keep h0 e1 hS hA hf hL hF
    obtain ⟨t2, a1, b1⟩ := kk r u t T'.heap (locs ++ L) e1.symm (by rw [← e2]; exact X'.warmed.alike) hp hb k1 k2 k3 T' rfl X'
    exact ⟨t2, st t2 a1, b1⟩
  · obtain ⟨k1, k2, k3⟩ := vx_keep h0 e1 hS hAX hf hL hF
    obtain ⟨t2, a1, b1⟩ := kx E ce q u t T'.heap (locs ++ L) e1.symm (by rw [← e2]; exact X'.warmed.alike) hp hb k1 k2 k3 (by rw [e1]; exact hce) hcv hcl T' rfl X'
    exact ⟨t2, st.trans a1, b1⟩
theorem vx_callf {S SX : Type} {post : UInt32 → S → Prop} {px : SX → Prop} {B : S → State → Prop} {BX : String → SX → State → Prop} {AX : Nat → Prop} (hr : vx_Run p l e R s m args below meth c H locs cells slots mc ms (F0 m pc ls st0) rest (va_Qf post B A1 a) (vx_X px BX AX) free) (hS : va_S A0 H0 H locs) (hA : ∀ q, q < H.size → A1 q → A0 q) (hf : ∀ q, free q → A0 q) (hAX : ∀ q, q < H.size → AX q → A0 q)
    (kx : ∀ (E : String) (ce : Cell) (q9 : Addr) (u : SX) (t : State) (H1 : Heap) (locs1 : List Loc), t.heap = H1 → s.vm.Alike t.vm → px u → BX E u t → H.size ≤ H1.size → (∀ q : Nat, q < H.size → ¬ AX q → H1[q]? = H[q]?) → va_S A0 H0 H1 locs1 → H1[q9]? = some ce → ce.vm = .none → s.vm.findClass E = some ce.cls → vx_W p l e R s m args below meth c H1 locs1 (cells + mc) (slots + ms) Q (F0 m pc ls rest) q9)
    (kk : ∀ (r : UInt32) (u : S) (t : State) (H1 : Heap) (locs1 : List Loc), t.heap = H1 → s.vm.Alike t.vm → post r u → B u t → H.size ≤ H1.size → (∀ q : Nat, q < H.size → ¬ A1 q → H1[q]? = H[q]?) → va_S A0 H0 H1 locs1 → W p l e R s m args below meth c H1 locs1 (cells + mc) (slots + ms) Q (F0 m (pc + 3) ls (.float r :: rest))) : W p l e R s m args below meth c H locs cells slots Q (F0 m pc ls st0) := by
  intro T hT X
  rcases hr T hT X with ⟨v, st₀, t, T', L, h0, X', hL, e1, e2, ⟨⟨r, u, hv, hp, hb⟩, hF⟩, st⟩ | ⟨q, st₀, t, T', L, E, ce, h0, X', hL, e1, e2, ⟨u, hp, hb, hF⟩, hce, hcv, hcl, st⟩
  · cases hv
    obtain ⟨k1, k2, k3⟩ := vx_keep h0 e1 hS hA hf hL hF
    obtain ⟨t2, a1, b1⟩ := kk r u t T'.heap (locs ++ L) e1.symm (by rw [← e2]; exact X'.warmed.alike) hp hb k1 k2 k3 T' rfl X'
    exact ⟨t2, st t2 a1, b1⟩
  · obtain ⟨k1, k2, k3⟩ := vx_keep h0 e1 hS hAX hf hL hF
    obtain ⟨t2, a1, b1⟩ := kx E ce q u t T'.heap (locs ++ L) e1.symm (by rw [← e2]; exact X'.warmed.alike) hp hb k1 k2 k3 (by rw [e1]; exact hce) hcv hcl T' rfl X'
    exact ⟨t2, st.trans a1, b1⟩
theorem vx_calld {S SX : Type} {post : UInt64 → S → Prop} {px : SX → Prop} {B : S → State → Prop} {BX : String → SX → State → Prop} {AX : Nat → Prop} (hr : vx_Run p l e R s m args below meth c H locs cells slots mc ms (F0 m pc ls st0) rest (va_Qd post B A1 a) (vx_X px BX AX) free) (hS : va_S A0 H0 H locs) (hA : ∀ q, q < H.size → A1 q → A0 q) (hf : ∀ q, free q → A0 q) (hAX : ∀ q, q < H.size → AX q → A0 q)
    (kx : ∀ (E : String) (ce : Cell) (q9 : Addr) (u : SX) (t : State) (H1 : Heap) (locs1 : List Loc), t.heap = H1 → s.vm.Alike t.vm → px u → BX E u t → H.size ≤ H1.size → (∀ q : Nat, q < H.size → ¬ AX q → H1[q]? = H[q]?) → va_S A0 H0 H1 locs1 → H1[q9]? = some ce → ce.vm = .none → s.vm.findClass E = some ce.cls → vx_W p l e R s m args below meth c H1 locs1 (cells + mc) (slots + ms) Q (F0 m pc ls rest) q9)
    (kk : ∀ (r : UInt64) (u : S) (t : State) (H1 : Heap) (locs1 : List Loc), t.heap = H1 → s.vm.Alike t.vm → post r u → B u t → H.size ≤ H1.size → (∀ q : Nat, q < H.size → ¬ A1 q → H1[q]? = H[q]?) → va_S A0 H0 H1 locs1 → W p l e R s m args below meth c H1 locs1 (cells + mc) (slots + ms) Q (F0 m (pc + 3) ls (.double r :: rest))) : W p l e R s m args below meth c H locs cells slots Q (F0 m pc ls st0) := by
  intro T hT X
  rcases hr T hT X with ⟨v, st₀, t, T', L, h0, X', hL, e1, e2, ⟨⟨r, u, hv, hp, hb⟩, hF⟩, st⟩ | ⟨q, st₀, t, T', L, E, ce, h0, X', hL, e1, e2, ⟨u, hp, hb, hF⟩, hce, hcv, hcl, st⟩
  · cases hv
    obtain ⟨k1, k2, k3⟩ := vx_keep h0 e1 hS hA hf hL hF
    obtain ⟨t2, a1, b1⟩ := kk r u t T'.heap (locs ++ L) e1.symm (by rw [← e2]; exact X'.warmed.alike) hp hb k1 k2 k3 T' rfl X'
    exact ⟨t2, st t2 a1, b1⟩
  · obtain ⟨k1, k2, k3⟩ := vx_keep h0 e1 hS hAX hf hL hF
    obtain ⟨t2, a1, b1⟩ := kx E ce q u t T'.heap (locs ++ L) e1.symm (by rw [← e2]; exact X'.warmed.alike) hp hb k1 k2 k3 (by rw [e1]; exact hce) hcv hcl T' rfl X'
    exact ⟨t2, st.trans a1, b1⟩
theorem vx_callv {S SX : Type} {post : S → Prop} {px : SX → Prop} {B : S → State → Prop} {BX : String → SX → State → Prop} {AX : Nat → Prop} (hr : vx_Run p l e R s m args below meth c H locs cells slots mc ms (F0 m pc ls st0) rest (va_Qv post B A1 a) (vx_X px BX AX) free) (hS : va_S A0 H0 H locs) (hA : ∀ q, q < H.size → A1 q → A0 q) (hf : ∀ q, free q → A0 q) (hAX : ∀ q, q < H.size → AX q → A0 q)
    (kx : ∀ (E : String) (ce : Cell) (q9 : Addr) (u : SX) (t : State) (H1 : Heap) (locs1 : List Loc), t.heap = H1 → s.vm.Alike t.vm → px u → BX E u t → H.size ≤ H1.size → (∀ q : Nat, q < H.size → ¬ AX q → H1[q]? = H[q]?) → va_S A0 H0 H1 locs1 → H1[q9]? = some ce → ce.vm = .none → s.vm.findClass E = some ce.cls → vx_W p l e R s m args below meth c H1 locs1 (cells + mc) (slots + ms) Q (F0 m pc ls rest) q9)
    (kk : ∀ (u : S) (t : State) (H1 : Heap) (locs1 : List Loc), t.heap = H1 → s.vm.Alike t.vm → post u → B u t → H.size ≤ H1.size → (∀ q : Nat, q < H.size → ¬ A1 q → H1[q]? = H[q]?) → va_S A0 H0 H1 locs1 → W p l e R s m args below meth c H1 locs1 (cells + mc) (slots + ms) Q (F0 m (pc + 3) ls (rest))) : W p l e R s m args below meth c H locs cells slots Q (F0 m pc ls st0) := by
  intro T hT X
  rcases hr T hT X with ⟨v, st₀, t, T', L, h0, X', hL, e1, e2, ⟨⟨u, hv, hp, hb⟩, hF⟩, st⟩ | ⟨q, st₀, t, T', L, E, ce, h0, X', hL, e1, e2, ⟨u, hp, hb, hF⟩, hce, hcv, hcl, st⟩
  · cases hv
    obtain ⟨k1, k2, k3⟩ := vx_keep h0 e1 hS hA hf hL hF
    obtain ⟨t2, a1, b1⟩ := kk u t T'.heap (locs ++ L) e1.symm (by rw [← e2]; exact X'.warmed.alike) hp hb k1 k2 k3 T' rfl X'
    exact ⟨t2, st t2 a1, b1⟩
  · obtain ⟨k1, k2, k3⟩ := vx_keep h0 e1 hS hAX hf hL hF
    obtain ⟨t2, a1, b1⟩ := kx E ce q u t T'.heap (locs ++ L) e1.symm (by rw [← e2]; exact X'.warmed.alike) hp hb k1 k2 k3 (by rw [e1]; exact hce) hcv hcl T' rfl X'
    exact ⟨t2, st.trans a1, b1⟩
/-- caught by the row x of this method's table; the rows ahead don't take it -/
theorem vx_catch {own name : String} {E : String} {ce : Cell} {q : Addr} (hown : s.vm.findClass own = some m.cls) (pre : List ExceptionTableEntry) (x : ExceptionTableEntry) (suf : List ExceptionTableEntry) (hsplit : c.exceptionTable.toList = pre ++ x :: suf)
    (hpass : ∀ z ∈ pre, covers z pc = false ∨ (z.catchType ≠ 0 ∧ ∃ nm : String, (Cond.classLink own z.catchType nm).before args s = true ∧ va_Nc E nm s)) (hx : covers x pc = true) (h0 : x.catchType ≠ 0)
    (hlink : (Cond.classLink own x.catchType name).before args s = true) (hcast : (Cond.castable E name).before args s = true) (hcell : H[q]? = some ce) (hv : ce.vm = .none) (hcl : s.vm.findClass E = some ce.cls)
    (kk : W p l e R s m args below meth c H locs cells slots Q (F0 m x.handlerPc ls [.ref q])) : vx_W p l e R s m args below meth c H locs cells slots Q (F0 m pc ls rest) q := by
  intro T hT X
  have hpl : e.platform.magicAccessors = ({} : Platform).magicAccessors := by rw [X.admits.platform]
  obtain ⟨c3, c4, hc3, hc4, hasg⟩ := Cond.castable_spec hcast
  cases Option.some.inj (hc3.symm.trans hcl)
  obtain ⟨c5, hc5, hcl5⟩ := Cond.classLink_spec hown hlink e.platform hpl
  cases Option.some.inj (hc4.symm.trans hc5)
  obtain ⟨vm', X', st⟩ := X.thenCaughtThrough q (g := F0 m pc ls rest) rfl (Steps.refl _) (by rw [hT]; exact hcell) (by rw [hv]; rfl) (by obtain ⟨k9, h9, -⟩ := Vm.findClass_spec hcl; exact ⟨k9, h9⟩) pre x suf hsplit
    (fun z hz => by
      rcases hpass z hz with h | ⟨hz0, nm, hl1, hn1⟩
      · exact Or.inl h
      · obtain ⟨c6, hc6, hcl6⟩ := Cond.classLink_spec hown hl1 e.platform hpl
        obtain ⟨a8, b8, h1, h2, h3⟩ := hn1
        cases Option.some.inj (h1.symm.trans hcl)
        cases Option.some.inj (h2.symm.trans hc6)
        exact Or.inr ⟨hz0, _, hcl6, h3⟩) hx (Or.inr ⟨h0, c4, hcl5, hasg⟩)
  obtain ⟨t, a1, b1⟩ := kk (T.setVm vm') hT X'
  exact ⟨t, st.trans a1, b1⟩
end Rows
section Ends
variable {p : Program} {l : Launch} {e : Env} {R : Room} {s : State} {m : MethodId} {args : Array Value} {below : List Frame} {meth : Method} {c : Code} {H : Heap} {locs : List Loc} {cells slots : Nat} {Q : State → Prop}
variable {mc ms : Nat} {free : Addr → Prop} {A0 A1 : Nat → Prop} {H0 : Heap} {a : Array Value} {ls : Array Slot} {st0 rest : List Value}
variable {Qc : Array Value → State → Outcome → State → Prop} {XC : String → State → State → Prop}
/-- what a body that may throw owes at its end -/
def vx_MQ (below : List Frame) (Qc : Array Value → State → Outcome → State → Prop) (XC : String → State → State → Prop) (a : Array Value) (s : State) (mc ms : Nat) (free : Addr → Prop) : State → Prop := fun t =>
  ∃ o, t.status = .running ∧ Ended t below o ∧ vx_Q Qc XC mc ms free a s o t
theorem vx_ret {g : JFrame} {mc ms : Nat} (k : W p l e R s m args below meth c H locs cells slots (MQ below Qc args s mc ms free) g) : W p l e R s m args below meth c H locs cells slots (vx_MQ below Qc XC args s mc ms free) g := by
  intro T hT X
  obtain ⟨t, a1, o, b1, b2, b3, b4⟩ := k T hT X
  exact ⟨t, a1, o, b1, b2, Or.inl ⟨b3, b4⟩⟩
/-- not caught here: it goes on to the caller -/
theorem vx_widen {g : JFrame} {q : Addr} {k n : Nat} (h1 : cells ≤ k) (h2 : slots ≤ n) (kk : vx_W p l e R s m args below meth c H locs k n Q g q) : vx_W p l e R s m args below meth c H locs cells slots Q g q := fun T hT X => kk T hT (stand_widen X h1 h2)
theorem vx_out {pc : Nat} {E : String} {ce : Cell} {q : Addr} {mc ms : Nat} (hout : ∀ x ∈ c.exceptionTable.toList, covers x pc = false) (hlocks : meth.locks = false) (hcell : H[q]? = some ce) (hv : ce.vm = .none) (hcl : s.vm.findClass E = some ce.cls)
    (hx : ∀ t : State, t.heap = H → s.vm.Alike t.vm → XC E s t) (hf : ∀ z ∈ locs, free z.base) (hc : cells ≤ mc) (hs : slots ≤ ms) :
    vx_W p l e R s m args below meth c H locs cells slots (vx_MQ below Qc XC args s mc ms free) (F0 m pc ls rest) q := by
  intro T hT X
  obtain ⟨st1, hrun, hend, hW, hsm⟩ := X.leaveThrown q (g := F0 m pc ls rest) rfl rfl rfl hout hlocks
  have hcell9 : (T.setFrames (.throwing q :: below)).heap[q]? = some ce := by
    show T.heap[q]? = some ce
    rw [hT]; exact hcell
  exact ⟨_, st1, .threw q, hrun, hend, Or.inr ⟨q, rfl, E, ce, locs, hx _ hT hW.alike, hcell9, hv, hcl, hW, hsm.mono hc hs, hf⟩⟩
theorem vx_frame {U : State} {k n : Nat} (h : s.sameButNew ({ U with vm := s.vm } : State) locs k n) : s.heap.size ≤ U.heap.size ∧ ∀ q : Nat, q < s.heap.size → (∀ z ∈ locs, z.base ≠ q) → U.heap[q]? = s.heap[q]? := by
  obtain ⟨-, h2, -, -, -, h6⟩ := h
  refine ⟨h2, fun q hq hz => ?_⟩
  obtain ⟨c9, e1, e2, e3, e4⟩ := h6 q _ (Array.getElem?_eq_getElem hq)
  have hs : c9.slots = (s.heap[q]).slots := Array.ext_getElem? fun i => e4 i fun hm => hz _ hm rfl
  have h9 : c9 = s.heap[q] := by
    rw [hs] at e2
    exact e2
  have e5 : U.heap[q]? = some c9 := e1
  rw [e5, h9, Array.getElem?_eq_getElem hq]
/-- the words of a throw but the four that speak of the heap -/
def vx_no (w : Cond) : Bool := decide (w ≠ .isRef (.static Bundle.tN "UNASSIGNED_STACK" Bundle.steD)) && decide (w ≠ .isRef (.static Bundle.tN "SUPPRESSED_SENTINEL" Bundle.listD)) && decide (w ≠ .laysStatic Bundle.tN "UNASSIGNED_STACK" Bundle.steD) && decide (w ≠ .laysStatic Bundle.tN "SUPPRESSED_SENTINEL" Bundle.listD)
def vx_at0 (own : String) (ic : Nat) (X : String) (names : List String) : List Cond := (Bundle.ownAtoms0 own ic X names).filter vx_no
def vx_atS (own : String) (ic : Nat) (X : String) (names : List String) : List Cond := (Bundle.ownAtoms own ic X names).filter vx_no
/-- a word that the tables alone decide, or a good one -/
def vx_ot (w : Cond) : Bool := w.onTables || goodWord w
theorem vx_ot_at {args a' : Array Value} {s U : State} {w : Cond} (hW : s.WarmedH U.vm) (hvm : s.vm = U.vm) (hg : vx_ot w = true) (h : w.before args s = true) : w.before a' U = true := by
  simp only [vx_ot, Bool.or_eq_true] at hg
  rcases hg with hg | hg
  · exact va_tabs hg hvm h
  · exact word_at hW (good_of_word hg) h
/-- a list's words: the good ones out of the method's own list, the others by premises of their own -/
theorem vx_hat {args : Array Value} {s : State} {L B : List Cond} (h1 : ∀ w ∈ L.filter goodWord, w.before args s = true) (h2 : ∀ w ∈ L.filter (fun w => !goodWord w), w ∈ B) (h3 : ∀ w ∈ B, w.before args s = true) : ∀ w ∈ L, w.before args s = true := by
  intro w hw
  by_cases g : goodWord w = true
  · exact h1 w (List.mem_filter.mpr ⟨hw, g⟩)
  · refine h3 w (h2 w (List.mem_filter.mpr ⟨hw, ?_⟩))
    show (!goodWord w) = true
    cases hgw : goodWord w
    · rfl
    · exact absurd hgw g
theorem vx_c {args : Array Value} {s : State} {w : Cond} {B : List Cond} (h : w.before args s = true) (t : ∀ w ∈ B, w.before args s = true) : ∀ w' ∈ w :: B, w'.before args s = true := fun w' h' => (List.mem_cons.mp h').elim (fun e => by rw [e]; exact h) (t w')
theorem vx_n {args : Array Value} {s : State} : ∀ w ∈ ([] : List Cond), w.before args s = true := fun _ h => nomatch h
theorem vx_own {args : Array Value} {s : State} {L : List Cond} (h1 : ∀ w ∈ L.filter vx_no, w.before args s = true)
    (hU : (Cond.isRef (.static Bundle.tN "UNASSIGNED_STACK" Bundle.steD)).before args s = true) (hN : (Cond.isRef (.static Bundle.tN "SUPPRESSED_SENTINEL" Bundle.listD)).before args s = true)
    (lU : (Cond.laysStatic Bundle.tN "UNASSIGNED_STACK" Bundle.steD).before args s = true) (lN : (Cond.laysStatic Bundle.tN "SUPPRESSED_SENTINEL" Bundle.listD).before args s = true) : ∀ w ∈ L, w.before args s = true := by
  intro w hw
  by_cases e1 : w = .isRef (.static Bundle.tN "UNASSIGNED_STACK" Bundle.steD)
  · rw [e1]; exact hU
  · by_cases e2 : w = .isRef (.static Bundle.tN "SUPPRESSED_SENTINEL" Bundle.listD)
    · rw [e2]; exact hN
    · by_cases e3 : w = .laysStatic Bundle.tN "UNASSIGNED_STACK" Bundle.steD
      · rw [e3]; exact lU
      · by_cases e4 : w = .laysStatic Bundle.tN "SUPPRESSED_SENTINEL" Bundle.listD
        · rw [e4]; exact lN
        · exact h1 w (List.mem_filter.mpr ⟨hw, by unfold vx_no; rw [decide_eq_true e1, decide_eq_true e2, decide_eq_true e3, decide_eq_true e4]; rfl⟩)
/-- where a static field lies, its class's statics cell in H -/
def vx_L (C n d : String) (A : Nat → Prop) (U : State) (H : Heap) : Prop := ∃ (c : ClassId) (k : Class) (i : Nat) (f : Field) (a : Nat) (cell : Cell), U.vm.findClass C = some c ∧ U.fieldFound? C n d = some (c, k, i, f) ∧ f.isStatic = true ∧ k.statics = some a ∧ H[a]? = some cell ∧ cell.vm.isStatics = true ∧ cell.cls = c ∧ f.slot < cell.slots.size ∧ k.staticTypes[f.slot]? = some f.type ∧ ¬ A a
theorem vx_L.moved {C n d : String} {A : Nat → Prop} {u U : State} {H : Heap} (hvm : u.vm.Alike U.vm) (h : vx_L C n d A u H) : vx_L C n d A U H := by
  obtain ⟨c, k, i, f, a, cell, h1, h2, h3, h4, h5, h6, h7, h8, h9, h10⟩ := h
  obtain ⟨k', hi', he⟩ := State.fieldFound?_setVm hvm h2
  exact ⟨c, k', i, f, a, cell, by rw [hvm.findClass]; exact h1, hi', h3, by rw [he]; exact h4, h5, h6, h7, h8, by rw [he]; exact h9, h10⟩
theorem vx_L.kept {C n d : String} {A : Nat → Prop} {U : State} {H H1 : Heap} (h : vx_L C n d A U H) (hq : ∀ a : Nat, a < H.size → ¬ A a → H1[a]? = H[a]?) : vx_L C n d A U H1 := by
  obtain ⟨c, k, i, f, a, cell, h1, h2, h3, h4, h5, h6, h7, h8, h9, h10⟩ := h
  exact ⟨c, k, i, f, a, cell, h1, h2, h3, h4, by rw [hq a (Array.getElem?_eq_some_iff.mp h5).1 h10]; exact h5, h6, h7, h8, h9, h10⟩
theorem vx_L.narrow {C n d : String} {A B : Nat → Prop} {U : State} {H : Heap} (h : vx_L C n d A U H) (hAB : ∀ q, B q → A q) : vx_L C n d B U H := by
  obtain ⟨c, k, i, f, a, cell, h1, h2, h3, h4, h5, h6, h7, h8, h9, h10⟩ := h
  exact ⟨c, k, i, f, a, cell, h1, h2, h3, h4, h5, h6, h7, h8, h9, fun z => h10 (hAB _ z)⟩
theorem vx_L.word {C n d : String} {A : Nat → Prop} {s : State} {args : Array Value} (h : vx_L C n d A s s.heap) : (Cond.laysStatic C n d).before args s = true := by
  obtain ⟨c, k, i, f, a, cell, h1, h2, h3, h4, h5, h6, h7, h8, h9, -⟩ := h
  show (Cond.laysStatic C n d).holds args s none s [] = true
  exact Cond.laysStatic_of h1 h2 h3 h4 h5 h6 h7 h8 h9
/-- .. and what it holds: null or some reference -/
def vx_Zq (C n d : String) (A : Nat → Prop) (U : State) (H : Heap) : Prop := va_Zq C n d A U H ∧ vx_L C n d A U H
theorem vx_Zq.moved {C n d : String} {A : Nat → Prop} {u U : State} {H : Heap} (hvm : u.vm.Alike U.vm) (h : vx_Zq C n d A u H) : vx_Zq C n d A U H := ⟨va_Zq.moved hvm h.1, vx_L.moved hvm h.2⟩
theorem vx_Zq.kept {C n d : String} {A : Nat → Prop} {U : State} {H H1 : Heap} (h : vx_Zq C n d A U H) (hq : ∀ a : Nat, a < H.size → ¬ A a → H1[a]? = H[a]?) : vx_Zq C n d A U H1 := ⟨va_Zq.kept h.1 hq, vx_L.kept h.2 hq⟩
theorem vx_Zq.narrow {C n d : String} {A B : Nat → Prop} {U : State} {H : Heap} (h : vx_Zq C n d A U H) (hAB : ∀ q, B q → A q) : vx_Zq C n d B U H := ⟨va_Zq.narrow h.1 hAB, vx_L.narrow h.2 hAB⟩
theorem vx_Zqof {args : Array Value} {s : State} {C n d : String} {A : Nat → Prop} (hl : (Cond.laysStatic C n d).before args s = true) (hini : (Cond.initialized C).before args s = true) (h : (Cond.isRef (.static C n d)).before args s = true) (hA : ∀ a : Nat, a < s.heap.size → ¬ A a) : vx_Zq C n d A s s.heap := by
  refine ⟨va_Zqof hl hini h hA, ?_⟩
  obtain ⟨c, k, i, f, a, cell, h1, h2, h3, h4, h5, h6, h7, h8, h9⟩ := Cond.laysStatic_spec hl
  exact ⟨c, k, i, f, a, cell, h1, h2, h3, h4, h5, h6, h7, h8, h9, hA a (Array.getElem?_eq_some_iff.mp h5).1⟩
theorem vx_isRef {C n d : String} {v : Value} {A : Nat → Prop} {s : State} {args : Array Value} (h : va_Z C n d v A s s.heap) (hv : v.isRef = true) : (Cond.isRef (.static C n d)).before args s = true := by
  obtain ⟨cf, kf, fi, f, a, cell, h1, h2, h3, h4, h5, h6, h7, -⟩ := h
  have he : (Term.static C n d).eval args s none [] s = some v := by
    simp [Term.eval, State.fieldNamed?, h1, h2, h4, h5, h6, h7]
  simp only [Cond.before, Cond.holds, Cond.value, he]
  cases v <;> simp_all [Value.isRef]
theorem vx_isRefq {C n d : String} {A : Nat → Prop} {s : State} {args : Array Value} (h : va_Zq C n d A s s.heap) : (Cond.isRef (.static C n d)).before args s = true := by
  rcases h with h | ⟨t, h⟩
  · exact vx_isRef h rfl
  · exact vx_isRef h rfl
/-- the same frame, seen from here: as if the method were called anew in this heap -/
theorem vx_rebase {T : State} (X : Stand p l e R s m args below meth c T locs cells slots) {R' : Room} (hf : R'.frames ≤ R.frames) (hl : R'.locals ≤ R.locals) (hc : cells + R'.cells ≤ R.cells) (hs : slots + R'.slots ≤ R.slots) :
    Stand p l e R' ((T.setVm s.vm).setFrames (.invoking m args :: below)) m args below meth c T [] 0 0 := by
  have htop : (T.setVm s.vm).topJava?.isSome := X.here.top
  have hF : ((T.setVm s.vm).setFrames (.invoking m args :: below)).frames = .invoking m args :: below := State.frames_setFrames _ (State.cur_lt_of_top htop)
  obtain ⟨g₀, hg0⟩ := Option.isSome_iff_exists.mp htop
  obtain ⟨r, hr⟩ := State.topJava?_eq_some.mp hg0
  have hl9 : e.platform.stackLimits (T.setVm s.vm).me = e.platform.stackLimits s.me := X.limits
  have hb9 : (T.setVm s.vm).me.stackBytes = s.me.stackBytes := X.bytes
  refine ⟨X.admits, X.cas, X.clock, hF, ?_, X.hears, X.method, X.code, X.here, X.tail, X.warmed, ?_, ?_, ?_⟩
  · have h := X.room
    have hU : ((T.setVm s.vm).setFrames (.invoking m args :: below)).localsInUse = s.localsInUse := by
      rw [State.localsInUse_invoking hF (meth := meth) (c := c) X.method X.code, State.localsInUse_invoking X.frames X.method X.code]
    simp only [State.hasRoom, Bool.and_eq_true, decide_eq_true_eq] at h ⊢
    obtain ⟨⟨⟨⟨h1, h2, h3, h4, h5, h6⟩, h7⟩, h8⟩, h9⟩ := h
    rw [X.frames, List.length_cons] at h2 h3
    have q1 := X.heapSize
    have q2 := X.used
    simp only [hF, hU, List.length_cons, State.stackLimits_setFrames, State.stackBytes_setFrames, hl9, hb9]
    refine ⟨⟨⟨⟨by omega, by omega, by omega, by omega, by omega, h6⟩, ?_⟩, ?_⟩, X.book⟩
    · show T.heap.size + R'.cells ≤ e.platform.maxCells
      omega
    · show T.slotsUsed + R'.slots ≤ e.platform.maxSlots
      omega
  · rw [State.stackLimits_setFrames]; rfl
  · rw [State.stackBytes_setFrames]; rfl
  · refine ⟨?_, Nat.le_refl _, Nat.le_refl _, ?_, ?_, fun a c9 h9 => ⟨c9, h9, rfl, rfl, fun _ _ => rfl⟩⟩
    · obtain ⟨t, ht, -⟩ := State.frames_cons hr
      show T.setVm s.vm = { ((T.setVm s.vm).setFrames (.invoking m args :: below)).setFrames (T.setVm s.vm).frames with heap := T.heap, slotsUsed := T.slotsUsed }
      rw [State.setFrames_setFrames, State.setFrames_self ht]
      rfl
    · show T.slotsUsed = T.slotsUsed + ((T.heap.toList.drop T.heap.size).map (·.slots.size)).sum
      rw [List.drop_eq_nil_of_le (Nat.le_of_eq Array.length_toList)]
      rfl
    · show ((T.heap.toList.drop T.heap.size).map (·.slots.size)).sum ≤ 0
      rw [List.drop_eq_nil_of_le (Nat.le_of_eq Array.length_toList)]
      exact Nat.le_refl _
/-- 'throw new E()': new; dup; invokespecial; athrow -/
theorem vx_throw0 {cc : ByteArray} {pc : Nat} (hexec : p.tables.exec = Jvm.exec) (hb : c.code = cc) (hl : l.stackTraces = false) {own cls : String} {names : List String} {ik ic mc ms : Nat} {A : Nat → Prop}
    (hown : s.vm.findClass own = some m.cls) (hcls : Bundle.fit cls = true) (hnames : ∀ n ∈ names, Bundle.fit n = true)
    (hk : (Cond.classLink own ik cls).before args s = true) (hini : (Cond.initialized cls).before args s = true) (hat : ∀ w ∈ vx_at0 own ic cls names, w.before args s = true)
    (hgood : ∀ w ∈ Cond.classLink own ik cls :: Cond.initialized cls :: vx_at0 own ic cls names, vx_ot w = true)
    (hU : vx_Zq Bundle.tN "UNASSIGNED_STACK" Bundle.steD A s s.heap) (hN : vx_Zq Bundle.tN "SUPPRESSED_SENTINEL" Bundle.listD A s s.heap) (hS : va_S A s.heap H locs) (hsize : ls.size = c.maxLocals)
    (d0 : decode cc pc = .ok (.new ik, 3)) (d3 : decode cc (pc + 3) = .ok (.dup, 1)) (d4 : decode cc (pc + 4) = .ok (.invokespecial ic, 3)) (d7 : decode cc (pc + 7) = .ok (.athrow, 1))
    (hout : ∀ x ∈ c.exceptionTable.toList, covers x (pc + 7) = false)
    (hRframes : names.length + 3 < R.frames) (hRlocals : (rest.map fun v => v.category).sum + (13 * (names.length + 1) + 42) ≤ R.locals) (hRcells : cells + 1 ≤ R.cells) (hRslots : slots + 6 ≤ R.slots) (hlocks : meth.locks = false)
    (hx : ∀ t : State, s.vm.Alike t.vm → H.size ≤ t.heap.size → (∀ q : Nat, q < H.size → t.heap[q]? = H[q]?) → XC cls s t)
    (hf : ∀ z ∈ locs, free z.base) (hc : cells + 1 ≤ mc) (hs : slots + 6 ≤ ms) :
    W p l e R s m args below meth c H locs cells slots (vx_MQ below Qc XC args s mc ms free) (F0 m pc ls rest) := by
  intro T hT X
  have htr : e.platform.stackTraces = false := (show e.platform.stackTraces = l.stackTraces by rw [X.admits.platform]).trans hl
  have Y := vx_rebase X (R' := { frames := R.frames, locals := R.locals, cells := 1, slots := 6 }) (Nat.le_refl _) (Nat.le_refl _) hRcells hRslots
  obtain ⟨s', hA⟩ : ∃ z, z = (T.setVm s.vm).setFrames (.invoking m args :: below) := ⟨_, rfl⟩
  rw [← hA] at Y
  have hvm : s'.vm = s.vm := by rw [hA]; rfl
  have hhp : s'.heap = H := by rw [hA]; exact hT
  have hW0 : s.WarmedH s'.vm := by rw [hvm]; exact State.WarmedH.refl s
  have hat' : ∀ w ∈ vx_at0 own ic cls names, w.before args s' = true := fun w hw => vx_ot_at hW0 hvm.symm (hgood w (List.mem_cons_of_mem _ (List.mem_cons_of_mem _ hw))) (hat w hw)
  have hk' : (Cond.classLink own ik cls).before args s' = true := vx_ot_at hW0 hvm.symm (hgood _ List.mem_cons_self) hk
  have hini' : (Cond.initialized cls).before args s' = true := vx_ot_at hW0 hvm.symm (hgood _ (List.mem_cons_of_mem _ List.mem_cons_self)) hini
  have hU' : vx_Zq Bundle.tN "UNASSIGNED_STACK" Bundle.steD A s' s'.heap := by rw [hhp]; exact vx_Zq.moved hW0.alike (hU.kept hS.2.1)
  have hN' : vx_Zq Bundle.tN "SUPPRESSED_SENTINEL" Bundle.listD A s' s'.heap := by rw [hhp]; exact vx_Zq.moved hW0.alike (hN.kept hS.2.1)
  have h : ∀ w ∈ Bundle.ownAtoms0 own ic cls names, w.before args s' = true := vx_own hat' (vx_isRefq hU'.1) (vx_isRefq hN'.1) hU'.2.word hN'.2.word
  have hown' : s'.vm.findClass own = some m.cls := by rw [hvm]; exact hown
  have hins : (Cond.instantiable cls 6).before args s' = true := h _ (by simp [Bundle.ownAtoms0])
  obtain ⟨vm₁, cX, kX, hfX, hkX, -, -, X₁, st1⟩ := Y.newCold hexec (own := own) (C := cls) (index := ik) (n := 6) hown' hk' hins hini'
    (g := F0 m pc ls rest) rfl (by rw [hb]; exact d0) (Nat.le_refl _) (Nat.le_refl _)
  generalize hT1 : (T.setVm vm₁).pushCell { cls := cX, slots := kX.instanceTypes.map defaultValue, vm := .none } = T1 at X₁ st1
  have hcat : (Value.ref T.heap.size).category = 1 := rfl
  have hcellA : T1.heap[T.heap.size]? = some (freshCell cX kX) := by rw [← hT1]; exact State.heap_pushCell_size _ _
  have d3' : decode c.code (pc + 3) = .ok (.dup, 1) := by rw [hb]; exact d3
  obtain ⟨U, hsteps, hrun, hend, hW, hsame, ce, hce, hO⟩ := X₁.ctorThrow0 hexec htr (own := own) (cls := cls) (names := names) (ic := ic) hown' hcls hnames h (fun x hx => nomatch hx) hfX hkX hcellA (by rw [hhp, hT]; exact Nat.le_refl _)
    (g := { method := m, pc := pc + 4, locals := ls, stack := .ref T.heap.size :: .ref T.heap.size :: rest, locked := none }) rfl hsize rfl rfl (rest := rest) rfl
    (by rw [hb]; exact d4) (by rw [hb]; exact d7) hout hRframes (by simp only [List.map_cons, List.sum_cons, hcat]; omega) hlocks
  obtain ⟨f1, f2⟩ := vx_frame hsame
  rw [hhp] at f1 f2
  have hWs : s.WarmedH U.vm := State.WarmedH.trans hW0 hW
  have hcl : s.vm.findClass cls = some ce.cls := by
    have h9 := hO.cls
    rw [hvm] at h9
    exact h9
  have hall : s.sameButNew ({ U with vm := s.vm } : State) locs mc ms := by
    subst hA
    obtain ⟨e1, e2⟩ := hsame
    rw [State.setFrames_setFrames] at e1
    have h2 : (T.setVm s.vm).sameButNew ({ U with vm := s.vm } : State) [] (0 + 1) (0 + 6) := ⟨e1, e2⟩
    have h3 := X.same.trans h2
    rw [List.append_nil] at h3
    exact h3.mono hc hs
  refine ⟨U, ?_, .threw T.heap.size, hrun, hend, Or.inr ⟨T.heap.size, rfl, cls, ce, locs, hx U hWs.alike f1 (fun q hq => f2 q hq (fun z hz => nomatch hz)), hce, hO.vm, hcl, hWs, hall, hf⟩⟩
  refine st1 _ ?_
  show Steps p.tables e below (T1.setTop { method := m, pc := pc + 3, locals := ls, stack := .ref T.heap.size :: rest, locked := none }) _
  jvm_step X₁.here [X₁.here.top, hexec, d3', Value.category]
  exact hsteps
/-- 'throw new E("text")': new; dup; ldc; invokespecial; athrow -/
theorem vx_throwS {cc : ByteArray} {pc : Nat} (hexec : p.tables.exec = Jvm.exec) (hb : c.code = cc) (hl : l.stackTraces = false) {own cls text : String} {names : List String} {ik is ic mc ms sa : Nat} {A : Nat → Prop}
    (hown : s.vm.findClass own = some m.cls) (hcls : Bundle.fit cls = true) (hnames : ∀ n ∈ names, Bundle.fit n = true)
    (hk : (Cond.classLink own ik cls).before args s = true) (hini : (Cond.initialized cls).before args s = true) (hstr : vk_R own is text sa s) (hat : ∀ w ∈ vx_atS own ic cls names, w.before args s = true)
    (hgood : ∀ w ∈ Cond.classLink own ik cls :: Cond.initialized cls :: vx_atS own ic cls names, vx_ot w = true)
    (hU : vx_Zq Bundle.tN "UNASSIGNED_STACK" Bundle.steD A s s.heap) (hN : vx_Zq Bundle.tN "SUPPRESSED_SENTINEL" Bundle.listD A s s.heap) (hS : va_S A s.heap H locs) (hsize : ls.size = c.maxLocals)
    (d0 : decode cc pc = .ok (.new ik, 3)) (d3 : decode cc (pc + 3) = .ok (.dup, 1)) (d4 : decode cc (pc + 4) = .ok (.ldc is, 2)) (d6 : decode cc (pc + 6) = .ok (.invokespecial ic, 3)) (d9 : decode cc (pc + 9) = .ok (.athrow, 1))
    (hout : ∀ x ∈ c.exceptionTable.toList, covers x (pc + 9) = false)
    (hRframes : names.length + 3 < R.frames) (hRlocals : (rest.map fun v => v.category).sum + (13 * (names.length + 1) + 43) ≤ R.locals) (hRcells : cells + 1 ≤ R.cells) (hRslots : slots + 6 ≤ R.slots) (hlocks : meth.locks = false)
    (hx : ∀ t : State, s.vm.Alike t.vm → H.size ≤ t.heap.size → (∀ q : Nat, q < H.size → t.heap[q]? = H[q]?) → XC cls s t)
    (hf : ∀ z ∈ locs, free z.base) (hc : cells + 1 ≤ mc) (hs : slots + 6 ≤ ms) :
    W p l e R s m args below meth c H locs cells slots (vx_MQ below Qc XC args s mc ms free) (F0 m pc ls rest) := by
  intro T hT X
  have htr : e.platform.stackTraces = false := (show e.platform.stackTraces = l.stackTraces by rw [X.admits.platform]).trans hl
  have Y := vx_rebase X (R' := { frames := R.frames, locals := R.locals, cells := 1, slots := 6 }) (Nat.le_refl _) (Nat.le_refl _) hRcells hRslots
  obtain ⟨s', hA⟩ : ∃ z, z = (T.setVm s.vm).setFrames (.invoking m args :: below) := ⟨_, rfl⟩
  rw [← hA] at Y
  have hvm : s'.vm = s.vm := by rw [hA]; rfl
  have hhp : s'.heap = H := by rw [hA]; exact hT
  have hW0 : s.WarmedH s'.vm := by rw [hvm]; exact State.WarmedH.refl s
  have hat' : ∀ w ∈ vx_atS own ic cls names, w.before args s' = true := fun w hw => vx_ot_at hW0 hvm.symm (hgood w (List.mem_cons_of_mem _ (List.mem_cons_of_mem _ hw))) (hat w hw)
  have hk' : (Cond.classLink own ik cls).before args s' = true := vx_ot_at hW0 hvm.symm (hgood _ List.mem_cons_self) hk
  have hini' : (Cond.initialized cls).before args s' = true := vx_ot_at hW0 hvm.symm (hgood _ (List.mem_cons_of_mem _ List.mem_cons_self)) hini
  have hU' : vx_Zq Bundle.tN "UNASSIGNED_STACK" Bundle.steD A s' s'.heap := by rw [hhp]; exact vx_Zq.moved hW0.alike (hU.kept hS.2.1)
  have hN' : vx_Zq Bundle.tN "SUPPRESSED_SENTINEL" Bundle.listD A s' s'.heap := by rw [hhp]; exact vx_Zq.moved hW0.alike (hN.kept hS.2.1)
  have h : ∀ w ∈ Bundle.ownAtoms own ic cls names, w.before args s' = true := vx_own hat' (vx_isRefq hU'.1) (vx_isRefq hN'.1) hU'.2.word hN'.2.word
  have hown' : s'.vm.findClass own = some m.cls := by rw [hvm]; exact hown
  have hins : (Cond.instantiable cls 6).before args s' = true := h _ (by simp [Bundle.ownAtoms])
  obtain ⟨vm₁, cX, kX, hfX, hkX, -, -, X₁, st1⟩ := Y.newCold hexec (own := own) (C := cls) (index := ik) (n := 6) hown' hk' hins hini'
    (g := F0 m pc ls rest) rfl (by rw [hb]; exact d0) (Nat.le_refl _) (Nat.le_refl _)
  generalize hT1 : (T.setVm vm₁).pushCell { cls := cX, slots := kX.instanceTypes.map defaultValue, vm := .none } = T1 at X₁ st1
  have hcat : (Value.ref T.heap.size).category = 1 := rfl
  have hcellA : T1.heap[T.heap.size]? = some (freshCell cX kX) := by rw [← hT1]; exact State.heap_pushCell_size _ _
  have d3' : decode c.code (pc + 3) = .ok (.dup, 1) := by rw [hb]; exact d3
  have d4' : decode c.code (pc + 4) = .ok (.ldc is, 2) := by rw [hb]; exact d4
  have hstr' : vk_R own is text sa s' := vk_R.warm hW0 hstr
  obtain ⟨U, hsteps, hrun, hend, hW, hsame, ce, hce, hO⟩ := X₁.ctorThrowS hexec htr (own := own) (cls := cls) (names := names) (ic := ic) hown' hcls hnames h (fun x hx => nomatch hx) hfX hkX hcellA (by rw [hhp, hT]; exact Nat.le_refl _) (msg := .ref sa) rfl
    (g := { method := m, pc := pc + 6, locals := ls, stack := .ref sa :: .ref T.heap.size :: .ref T.heap.size :: rest, locked := none }) rfl hsize rfl rfl (rest := rest) rfl
    (by rw [hb]; exact d6) (by rw [hb]; exact d9) hout hRframes (by simp only [List.map_cons, List.sum_cons, hcat]; omega) hlocks
  obtain ⟨f1, f2⟩ := vx_frame hsame
  rw [hhp] at f1 f2
  have hWs : s.WarmedH U.vm := State.WarmedH.trans hW0 hW
  have hcl : s.vm.findClass cls = some ce.cls := by
    have h9 := hO.cls
    rw [hvm] at h9
    exact h9
  have hall : s.sameButNew ({ U with vm := s.vm } : State) locs mc ms := by
    subst hA
    obtain ⟨e1, e2⟩ := hsame
    rw [State.setFrames_setFrames] at e1
    have h2 : (T.setVm s.vm).sameButNew ({ U with vm := s.vm } : State) [] (0 + 1) (0 + 6) := ⟨e1, e2⟩
    have h3 := X.same.trans h2
    rw [List.append_nil] at h3
    exact h3.mono hc hs
  refine ⟨U, ?_, .threw T.heap.size, hrun, hend, Or.inr ⟨T.heap.size, rfl, cls, ce, locs, hx U hWs.alike f1 (fun q hq => f2 q hq (fun z hz => nomatch hz)), hce, hO.vm, hcl, hWs, hall, hf⟩⟩
  refine st1 _ ?_
  show Steps p.tables e below (T1.setTop { method := m, pc := pc + 3, locals := ls, stack := .ref T.heap.size :: rest, locked := none }) _
  jvm_step X₁.here [X₁.here.top, hexec, d3', Value.category]
  exact X₁.ldcString hexec (own := own) (text := text) (index := is) (a := sa) hown' hstr'.1 hstr'.2
    (g := { method := m, pc := pc + 4, locals := ls, stack := .ref T.heap.size :: .ref T.heap.size :: rest, locked := none }) rfl d4' _ hsteps
/-- 'throw new E("text")', the text by a wide index -/
theorem vx_throwSW {cc : ByteArray} {pc : Nat} (hexec : p.tables.exec = Jvm.exec) (hb : c.code = cc) (hl : l.stackTraces = false) {own cls text : String} {names : List String} {ik is ic mc ms sa : Nat} {A : Nat → Prop}
    (hown : s.vm.findClass own = some m.cls) (hcls : Bundle.fit cls = true) (hnames : ∀ n ∈ names, Bundle.fit n = true)
    (hk : (Cond.classLink own ik cls).before args s = true) (hini : (Cond.initialized cls).before args s = true) (hstr : vk_R own is text sa s) (hat : ∀ w ∈ vx_atS own ic cls names, w.before args s = true)
    (hgood : ∀ w ∈ Cond.classLink own ik cls :: Cond.initialized cls :: vx_atS own ic cls names, vx_ot w = true)
    (hU : vx_Zq Bundle.tN "UNASSIGNED_STACK" Bundle.steD A s s.heap) (hN : vx_Zq Bundle.tN "SUPPRESSED_SENTINEL" Bundle.listD A s s.heap) (hS : va_S A s.heap H locs) (hsize : ls.size = c.maxLocals)
    (d0 : decode cc pc = .ok (.new ik, 3)) (d3 : decode cc (pc + 3) = .ok (.dup, 1)) (d4 : decode cc (pc + 4) = .ok (.ldc_w is, 3)) (d7 : decode cc (pc + 7) = .ok (.invokespecial ic, 3)) (d10 : decode cc (pc + 10) = .ok (.athrow, 1))
    (hout : ∀ x ∈ c.exceptionTable.toList, covers x (pc + 10) = false)
    (hRframes : names.length + 3 < R.frames) (hRlocals : (rest.map fun v => v.category).sum + (13 * (names.length + 1) + 43) ≤ R.locals) (hRcells : cells + 1 ≤ R.cells) (hRslots : slots + 6 ≤ R.slots) (hlocks : meth.locks = false)
    (hx : ∀ t : State, s.vm.Alike t.vm → H.size ≤ t.heap.size → (∀ q : Nat, q < H.size → t.heap[q]? = H[q]?) → XC cls s t)
    (hf : ∀ z ∈ locs, free z.base) (hc : cells + 1 ≤ mc) (hs : slots + 6 ≤ ms) :
    W p l e R s m args below meth c H locs cells slots (vx_MQ below Qc XC args s mc ms free) (F0 m pc ls rest) := by
  intro T hT X
  have htr : e.platform.stackTraces = false := (show e.platform.stackTraces = l.stackTraces by rw [X.admits.platform]).trans hl
  have Y := vx_rebase X (R' := { frames := R.frames, locals := R.locals, cells := 1, slots := 6 }) (Nat.le_refl _) (Nat.le_refl _) hRcells hRslots
  obtain ⟨s', hA⟩ : ∃ z, z = (T.setVm s.vm).setFrames (.invoking m args :: below) := ⟨_, rfl⟩
  rw [← hA] at Y
  have hvm : s'.vm = s.vm := by rw [hA]; rfl
  have hhp : s'.heap = H := by rw [hA]; exact hT
  have hW0 : s.WarmedH s'.vm := by rw [hvm]; exact State.WarmedH.refl s
  have hat' : ∀ w ∈ vx_atS own ic cls names, w.before args s' = true := fun w hw => vx_ot_at hW0 hvm.symm (hgood w (List.mem_cons_of_mem _ (List.mem_cons_of_mem _ hw))) (hat w hw)
  have hk' : (Cond.classLink own ik cls).before args s' = true := vx_ot_at hW0 hvm.symm (hgood _ List.mem_cons_self) hk
  have hini' : (Cond.initialized cls).before args s' = true := vx_ot_at hW0 hvm.symm (hgood _ (List.mem_cons_of_mem _ List.mem_cons_self)) hini
  have hU' : vx_Zq Bundle.tN "UNASSIGNED_STACK" Bundle.steD A s' s'.heap := by rw [hhp]; exact vx_Zq.moved hW0.alike (hU.kept hS.2.1)
  have hN' : vx_Zq Bundle.tN "SUPPRESSED_SENTINEL" Bundle.listD A s' s'.heap := by rw [hhp]; exact vx_Zq.moved hW0.alike (hN.kept hS.2.1)
  have h : ∀ w ∈ Bundle.ownAtoms own ic cls names, w.before args s' = true := vx_own hat' (vx_isRefq hU'.1) (vx_isRefq hN'.1) hU'.2.word hN'.2.word
  have hown' : s'.vm.findClass own = some m.cls := by rw [hvm]; exact hown
  have hins : (Cond.instantiable cls 6).before args s' = true := h _ (by simp [Bundle.ownAtoms])
  obtain ⟨vm₁, cX, kX, hfX, hkX, -, -, X₁, st1⟩ := Y.newCold hexec (own := own) (C := cls) (index := ik) (n := 6) hown' hk' hins hini'
    (g := F0 m pc ls rest) rfl (by rw [hb]; exact d0) (Nat.le_refl _) (Nat.le_refl _)
  generalize hT1 : (T.setVm vm₁).pushCell { cls := cX, slots := kX.instanceTypes.map defaultValue, vm := .none } = T1 at X₁ st1
  have hcat : (Value.ref T.heap.size).category = 1 := rfl
  have hcellA : T1.heap[T.heap.size]? = some (freshCell cX kX) := by rw [← hT1]; exact State.heap_pushCell_size _ _
  have d3' : decode c.code (pc + 3) = .ok (.dup, 1) := by rw [hb]; exact d3
  have d4' : decode c.code (pc + 4) = .ok (.ldc_w is, 3) := by rw [hb]; exact d4
  have hstr' : vk_R own is text sa s' := vk_R.warm hW0 hstr
  obtain ⟨U, hsteps, hrun, hend, hW, hsame, ce, hce, hO⟩ := X₁.ctorThrowS hexec htr (own := own) (cls := cls) (names := names) (ic := ic) hown' hcls hnames h (fun x hx => nomatch hx) hfX hkX hcellA (by rw [hhp, hT]; exact Nat.le_refl _) (msg := .ref sa) rfl
    (g := { method := m, pc := pc + 7, locals := ls, stack := .ref sa :: .ref T.heap.size :: .ref T.heap.size :: rest, locked := none }) rfl hsize rfl rfl (rest := rest) rfl
    (by rw [hb]; exact d7) (by rw [hb]; exact d10) hout hRframes (by simp only [List.map_cons, List.sum_cons, hcat]; omega) hlocks
  obtain ⟨f1, f2⟩ := vx_frame hsame
  rw [hhp] at f1 f2
  have hWs : s.WarmedH U.vm := State.WarmedH.trans hW0 hW
  have hcl : s.vm.findClass cls = some ce.cls := by
    have h9 := hO.cls
    rw [hvm] at h9
    exact h9
  have hall : s.sameButNew ({ U with vm := s.vm } : State) locs mc ms := by
    subst hA
    obtain ⟨e1, e2⟩ := hsame
    rw [State.setFrames_setFrames] at e1
    have h2 : (T.setVm s.vm).sameButNew ({ U with vm := s.vm } : State) [] (0 + 1) (0 + 6) := ⟨e1, e2⟩
    have h3 := X.same.trans h2
    rw [List.append_nil] at h3
    exact h3.mono hc hs
  refine ⟨U, ?_, .threw T.heap.size, hrun, hend, Or.inr ⟨T.heap.size, rfl, cls, ce, locs, hx U hWs.alike f1 (fun q hq => f2 q hq (fun z hz => nomatch hz)), hce, hO.vm, hcl, hWs, hall, hf⟩⟩
  refine st1 _ ?_
  show Steps p.tables e below (T1.setTop { method := m, pc := pc + 3, locals := ls, stack := .ref T.heap.size :: rest, locked := none }) _
  jvm_step X₁.here [X₁.here.top, hexec, d3', Value.category]
  exact X₁.ldcStringW hexec (own := own) (text := text) (index := is) (a := sa) hown' hstr'.1 hstr'.2
    (g := { method := m, pc := pc + 4, locals := ls, stack := .ref T.heap.size :: .ref T.heap.size :: rest, locked := none }) rfl d4' _ hsteps
end Ends
section Bodies
variable {l : Launch}
theorem vx_ofW {y : MethodName} {ws ws' : List Cond} {rm : Room} {Pc : Array Value → State → Prop} {Qc : Array Value → State → Outcome → State → Prop} {XC : String → State → State → Prop} {mc ms : Nat} {free : Addr → Prop} {cc : ByteArray} {maxL : Nat} {ret : Option FieldType}
    (hy : plainName y.cls = true) (hw : ws = Cond.code y cc maxL ret :: ws')
    (body : ∀ p e s m args below meth c s₁, BodyLoose p l y (headSpec ws rm) cc maxL ret e s m args below meth c s₁ → c.maxLocals = maxL → (∀ x ∈ c.exceptionTable.toList, False) → Pc args s →
      W p l e (headSpec ws rm).room s m args below meth c s.heap [] 0 0 (vx_MQ below Qc XC args s mc ms free) (entryFrame m args maxL)) : vx_Met l y ws rm Pc Qc XC mc ms free := by
  refine MetFree.of_bodyS (code := cc) (maxLocals := maxL) (ret := ret) hy ?_ ?_
  · intro args s m h hn
    obtain ⟨meth, c, h1, h2, h3, h4, h5, h6, -, -⟩ := Cond.code_spec hn (atoms_spec (ws := ws) h _ (by rw [hw]; exact List.mem_cons_self))
    exact ⟨meth, c, h1, h2, h3, h4, h5, h6⟩
  · intro p e s m args below meth c s₁ B hml hP _
    have hh0 : s₁.heap = s.heap := by rw [B.state]; rfl
    have ht : ∀ x ∈ c.exceptionTable.toList, False := by
      obtain ⟨meth9, c9, h1, h2, -, -, -, -, h7, -⟩ := Cond.code_spec B.named (atoms_spec (ws := ws) B.pre _ (by rw [hw]; exact List.mem_cons_self))
      cases Option.some.inj (h1.symm.trans B.method)
      cases Option.some.inj (h2.symm.trans (Stand.of_body B).code)
      intro x hx
      rw [Array.isEmpty_iff.mp h7] at hx
      cases hx
    obtain ⟨t, a1, o, b1, b2, b3⟩ := body p e s m args below meth c s₁ B hml ht hP s₁ hh0 (Stand.of_body B)
    exact ⟨t, o, a1, b1, b2, b3⟩
/-- the table of a body with handlers -/
theorem vx_table {p : Program} {x y : MethodName} {S : Spec} {cc bytes : ByteArray} {maxL maxL' : Nat} {ret ret' : Option FieldType} {e : Env} {s s₁ : State} {m : MethodId} {args : Array Value} {below : List Frame} {meth : Method} {c : Code} {hh : List (Nat × Nat × Nat × Nat)}
    (B : BodyLoose p l y S cc maxL ret e s m args below meth c s₁) (h : (Cond.codeWith y bytes maxL' ret' hh).before args s = true) : c.exceptionTable.toList = tableOf hh := by
  obtain ⟨m9, meth9, c9, hn9, h1, h2, -, -, h6, -⟩ := Cond.codeWith_spec h
  cases Option.some.inj (hn9.symm.trans B.named)
  cases Option.some.inj (h1.symm.trans B.method)
  cases Option.some.inj (h2.symm.trans (Stand.of_body B).code)
  rw [← h6, table_eq]
end Bodies
end VXA
/-! ===== END ===== -/
/-! ===== BEGIN a static call of a method with an exception table ===== -/
section VXS
variable {p : Program} {l : Launch} {e : Env} {R : Room} {s : State} {m : MethodId} {args : Array Value} {below : List Frame} {meth : Method} {c : Code} {T : State} {H : Heap} {locs : List Loc} {cells slots : Nat}
abbrev vx_CSW (R : Room) (s : State) (args : Array Value) (own : String) (index : Nat) (y : MethodName) (bytes : ByteArray) (maxL : Nat) (ret : Option FieldType) (hh : List (Nat × Nat × Nat × Nat)) (ws : List Cond) (rm : Room) (mc ms n : Nat) : Prop :=
  (rm.cells = mc ∧ rm.slots = ms ∧ rm.frames + 1 ≤ R.frames ∧ 8 + (maxL + 11) + rm.locals ≤ R.locals ∧ (∀ w ∈ ws, ∀ (a' : Array Value) (U : State), s.WarmedH U.vm → w.before a' U = true) ∧ Cond.codeWith y bytes maxL ret hh ∈ ws) ∧
  (Cond.codeWith y bytes maxL ret hh).before args s = true ∧ (Cond.initialized y.cls).before args s = true ∧ (y.cls ≠ "java/lang/invoke/MethodHandle" ∧ y.cls ≠ "java/lang/invoke/VarHandle") ∧
  (∀ sig, parseMethodDescriptor y.desc = some sig → n = sig.parameters.length) ∧ (Cond.methodLink own index y).before args s = true ∧ (Cond.static y).before args s = true
theorem vx_cwSW {own : String} {index maxL mc ms : Nat} {y : MethodName} {bytes : ByteArray} {ret : Option FieldType} {hh : List (Nat × Nat × Nat × Nat)} {Ts ws ws' : List Cond} {rm : Room} (n : Nat) (ht : ∀ w ∈ Ts, w.before args s = true) (hT : GoodIn Ts (va_wsS own index y ws)) (hw : ws = Cond.codeWith y bytes maxL ret hh :: ws') (hrc : rm.cells = mc) (hrs : rm.slots = ms)
    (hd : y.cls ≠ "java/lang/invoke/MethodHandle" ∧ y.cls ≠ "java/lang/invoke/VarHandle" ∧ (parseMethodDescriptor y.desc).map (fun d => d.parameters.length) = some n) (hR : rm.frames + 1 ≤ R.frames ∧ 8 + (maxL + 11) + rm.locals ≤ R.locals) :
    vx_CSW R s args own index y bytes maxL ret hh ws rm mc ms n := by
  have ok : ∀ w ∈ va_wsS own index y ws, w.before args s = true := fun w h => ht w (hT w h).1
  have hG : GoodIn Ts ws := fun w h => hT w (by unfold va_wsS; exact List.mem_append_right _ h)
  have hc : Cond.codeWith y bytes maxL ret hh ∈ ws := by rw [hw]; exact List.mem_cons_self
  refine ⟨⟨hrc, hrs, hR.1, hR.2, pay_in ht hG, hc⟩, ht _ (hG _ hc).1, ok _ (by simp [va_wsS]), ⟨hd.1, hd.2.1⟩, fun sig h => ?_, ok _ (by simp [va_wsS]), ok _ (by simp [va_wsS])⟩
  have h2 := hd.2.2
  rw [h] at h2
  exact (Option.some.inj h2).symm
theorem vx_callSW (X : Stand p l e R s m args below meth c T locs cells slots) (hexec : p.tables.exec = Jvm.exec) {own : String} {index : Nat} {y : MethodName} {bytes : ByteArray} {maxL : Nat} {ret : Option FieldType} {hh : List (Nat × Nat × Nat × Nat)}
    (hown : s.vm.findClass own = some m.cls) (hlink : (Cond.methodLink own index y).before args s = true) (hstat : (Cond.static y).before args s = true) (hinit : (Cond.initialized y.cls).before args s = true)
    (hcode : (Cond.codeWith y bytes maxL ret hh).before args s = true) (hy : y.cls ≠ "java/lang/invoke/MethodHandle" ∧ y.cls ≠ "java/lang/invoke/VarHandle")
    {W9 : Nat} {Pre : Pt → Array Value → Prop} {Post : Pt → Array Value → Option Value → Pt → Prop} (hK : Back l R p e below s args y 3 W9 Pre Post)
    {g : JFrame} (hg : g.method = m) (hsize : g.locals.size = c.maxLocals) {argsL rest : List Value} (hlen : ∀ sig, parseMethodDescriptor y.desc = some sig → argsL.length = sig.parameters.length)
    (hstack : g.stack = argsL.reverse ++ rest) (hW : 2 * g.monitorRoom + (rest.map fun v => v.category).sum ≤ W9) (hdg : decode c.code g.pc = .ok (.invokestatic index, 3))
    (hpre : ∀ vm₁, s.WarmedH vm₁ → Pre ⟨T.setVm vm₁, locs, cells, slots⟩ argsL.toArray) :
    ∃ (v : Option Value) (vm₁ : Vm) (B : Pt), s.WarmedH vm₁ ∧ Stand p l e R s m args below meth c B.U B.locs B.cells B.slots ∧ Post ⟨T.setVm vm₁, locs, cells, slots⟩ argsL.toArray v B ∧
      ∀ target, Steps p.tables e below (B.U.setTop { g with pc := g.pc + 3, stack := v.toList ++ rest }) target → Steps p.tables e below (T.setTop g) target := by
  obtain ⟨mk, methM, cM, hnamed, hmethM, -, -, -, -, -, -, hsigM⟩ := Cond.codeWith_spec hcode
  have hstatic : methM.isStatic = true := Cond.static_spec hnamed hmethM hstat
  obtain ⟨kP, hkP, -⟩ := className_of_methodNamed hnamed
  have hinitP : kP.init = .initialized := Cond.initialized_spec (findClass_of_methodNamed hnamed) hkP hinit
  obtain ⟨vm₁, X₁, hstep₁⟩ := X.invokestatic hexec hown hlink hnamed hmethM hstatic hkP hinitP hy (g := g) hg (argsL := argsL) (rest := rest) (hlen _ hsigM) hstack hdg
  obtain ⟨v, B, X', hpost, hsteps⟩ := hK m meth c ⟨T.setVm vm₁, locs, cells, slots⟩ { g with stack := rest } (.invokestatic index) mk argsL.toArray X₁ hg hsize hdg hW (X₁.named hnamed) (hpre vm₁ X₁.warmed)
  exact ⟨v, vm₁, B, X₁.warmed, X', hpost, fun target h => hstep₁ _ fun acts => by rw [doInvoke_state]; exact hsteps.trans h⟩
theorem vx_runSW {y : MethodName} {bytes cc : ByteArray} {maxL nL mc ms n index : Nat} {ret : Option FieldType} {hh : List (Nat × Nat × Nat × Nat)} {ws : List Cond} {rm : Room} {Pc : Array Value → State → Prop} {Qc : Array Value → State → Outcome → State → Prop} {free : Addr → Prop} {Ts : List Cond} {own : String} {As rest : List Value} {g : JFrame}
    (S : CallFix p m c cc nL s args Ts own) (hM : Met l y ws rm Pc Qc mc ms free) (cw : vx_CSW R s args own index y bytes maxL ret hh ws rm mc ms n) (hp : PreS s H Pc As)
    (hg : g.method = m) (hn : As.length = n) (hsize : g.locals.size = nL) (hstack : g.stack = As.reverse ++ rest) (hW : 2 * g.monitorRoom + (rest.map fun v => v.category).sum ≤ 8) (hdg : decode cc g.pc = .ok (.invokestatic index, 3)) (hf : cells + mc ≤ R.cells ∧ slots + ms ≤ R.slots) :
    va_Run p l e R s m args below meth c H locs cells slots mc ms g rest (Qc As.toArray) (free) := by
  obtain ⟨⟨hrc, hrs, hfr, hlo, hws, hcw⟩, hcode, hini, hy, hlen, hl, hstt⟩ := cw
  have hK : Back l R p e below s args y 3 8 (PreOf R mc ms Pc) (PostOf Qc mc ms free) := va_backW (hh := hh) (bytes := bytes) (maxL := maxL) (ret := ret) hM hp.1 hrc hrs hfr hlo hws hcw (fun a' U hW => word_at hW (Or.inl (by first | rfl | simp [Cond.onTables, Cond.keeps, Cond.steady])) hini)
  obtain ⟨hx, hb, hml, ho, -⟩ := S
  intro T hT X
  obtain ⟨v, vm₁, ⟨U', l2, c2, s2⟩, hW₁, X', ⟨g', mk, t, L, e1, e2, hq, h1, hL, h2, h3⟩, st⟩ := vx_callSW X hx (hh := hh) (bytes := bytes) (maxL := maxL) (ret := ret) ho hl hstt hini hcode hy hK hg (hsize.trans hml.symm) (argsL := As) (rest := rest) (fun sig h => hn.trans (hlen sig h)) hstack hW (by rw [hb]; exact hdg)
    (fun vm₁ hW₁ => ⟨hf.1, hf.2, hp.2 (T.setVm vm₁) hT hW₁⟩)
  dsimp only [Pt.U, Pt.locs, Pt.cells, Pt.slots] at X' e1 e2 h1 h2 h3 st
  subst h1; subst h2; subst h3
  exact ⟨v, (T.setVm vm₁).calling g' mk As.toArray, t, U', L, hT, X', hL, e1, e2, hq, st⟩
/-- a thing of a world lies in the heap -/
theorem vx_lt {D : va_G} {cl : List vw_C} {ws : va_W} {H1 : Heap} (h : va_P D cl ws H1) {k : Nat} {q : Nat × va_E} (hk : ws[k]? = some q) : q.1 < H1.size := (h k q hk).lt
end VXS
/-! ===== END ===== -/
/-! ===== BEGIN methods with a table of their own: called by a name, returning or throwing ===== -/
section VXH
section
variable {l : Launch} {R : Room} {p : Program} {e : Env} {below : List Frame} {s : State} {sargs : Array Value} {y : MethodName} {len W9 : Nat}
theorem vx_backW {ws : List Cond} {rm : Room} {Pc : Array Value → State → Prop} {Qc : Array Value → State → Outcome → State → Prop} {XC : String → State → State → Prop} {mc ms : Nat} {free : Addr → Prop} {bytes : ByteArray} {maxL : Nat} {ret : Option FieldType} {hh : List (Nat × Nat × Nat × Nat)}
    (hM : vx_Met l y ws rm Pc Qc XC mc ms free) (hblind : FrameBlind Pc) (hrc : rm.cells = mc) (hrs : rm.slots = ms)
    (hframes : rm.frames + 1 ≤ R.frames) (hlocals : W9 + (maxL + 11) + rm.locals ≤ R.locals)
    (hws : ∀ w ∈ ws, ∀ a' U, s.WarmedH U.vm → w.before a' U = true) (hcode : Cond.codeWith y bytes maxL ret hh ∈ ws) (hinit : ∀ a' U, s.WarmedH U.vm → (Cond.initialized y.cls).before a' U = true) :
    vx_Back l R p e below s sargs y len W9 (PreOf R mc ms Pc) (PostOf Qc mc ms free) (vx_Post XC mc ms free) := by
  intro m meth c A g ig mk a X hg hsize hdg hW hn hp
  have h1 : (headSpec ws rm).pre.before a A.U = true := atoms_intro fun w hw => hws w hw _ _ X.warmed
  have h2 : (Cond.codeWith y bytes maxL ret hh).before a A.U = true := hws _ hcode _ _ X.warmed
  have h3 : (Cond.initialized y.cls).before a A.U = true := hinit _ _ X.warmed
  have h4 : A.cells + (headSpec ws rm).room.cells ≤ R.cells := by rw [show (headSpec ws rm).room.cells = mc from hrc]; exact hp.1
  have h5 : A.slots + (headSpec ws rm).room.slots ≤ R.slots := by rw [show (headSpec ws rm).room.slots = ms from hrs]; exact hp.2.1
  have hPc : Pc a (A.U.calling g mk a) := hblind _ _ _ _ hp.2.2
  obtain ⟨U, Ls, c0, s0⟩ := A
  dsimp only [Pt.U, Pt.locs, Pt.cells, Pt.slots] at h1 h2 h3 h4 h5 X hn hPc ⊢
  obtain ⟨m9, methY, cY, hn9, hmY, hcY, -, hlY, -⟩ := Cond.codeWith_spec h2
  cases Option.some.inj (hn9.symm.trans hn)
  obtain ⟨kY, hkY, -⟩ := className_of_methodNamed hn
  have hinitY : kY.init = .initialized := Cond.initialized_spec (findClass_of_methodNamed hn) hkY h3
  have h : At U g.method c below := by rw [hg]; exact X.here
  have hlocals9 : W9 + (maxL + 11) + (headSpec ws rm).room.locals ≤ R.locals := hlocals
  have happ : (headSpec ws rm).appliesLoose y e.platform (U.calling g mk a) = true :=
    Spec.appliesLoose_calling (g := g) h hdg hn hkY hinitY
      (X.room_calling (g := g) (R' := (headSpec ws rm).room) hsize hmY hcY hframes (by rw [hlY]; omega) h4 h5) h1
  obtain ⟨mid, hmid⟩ := h.above
  have hfr : (U.setTop g).frames = (.java g :: mid) ++ below := by rw [State.frames_setTop' g h.top, hmid]; rfl
  obtain ⟨o, s₂, hsteps, -, hend, hq⟩ := Steps.callFree hM p X.admits X.cas X.clock (acts := []) hfr happ hPc trivial
  have hq' : vx_Q Qc XC mc ms free a (U.calling g mk a) o s₂ := hq
  rw [State.frames_setTop' g h.top] at hend
  obtain ⟨g₀, hg0⟩ := Option.isSome_iff_exists.mp h.top
  obtain ⟨r, hr⟩ := State.topJava?_eq_some.mp hg0
  have hr' : (({ U with heap := s₂.heap, slotsUsed := s₂.slotsUsed } : State).setVm s₂.vm).frames = .java g₀ :: r := hr
  rcases hq' with ⟨hqc, L, hfe, hL⟩ | ⟨q, rfl, E, ce, L, hx, hce, hcv, hcl, hW₂, hsm, hL⟩
  · obtain ⟨⟨v, rfl⟩, hW₂, e2, q2, q3, q4, q5, q6⟩ := id hfe
    have e3 : s₂ = ({ (U.calling g mk a).setFrames s₂.frames with heap := s₂.heap, slotsUsed := s₂.slotsUsed } : State).setVm s₂.vm := by
      have : s₂ = ({ s₂ with vm := (U.calling g mk a).vm } : State).setVm s₂.vm := rfl
      rw [e2] at this
      exact this
    obtain ⟨c₂, i₂, len₂, hc₂, hd₂, hf₂⟩ := hend
    have hW' : U.WarmedH s₂.vm := hW₂
    have hcc : c₂ = c := by
      have h1 : s₂.code? g.method = U.code? g.method := by
        rw [State.code?_eq, State.code?_eq, hW'.alike.method?]
      exact Option.some.inj (hc₂.symm.trans (h1.trans h.code))
    subst hcc
    have hlen : len₂ = len := by rw [hdg] at hd₂; cases hd₂; rfl
    subst hlen
    have hs₂ : s₂ = (({ U with heap := s₂.heap, slotsUsed := s₂.slotsUsed } : State).setVm s₂.vm).setTop { g with pc := g.pc + len₂, stack := v.toList ++ g.stack } := by
      refine e3.trans ?_
      rw [hf₂, State.calling_eq h.top, State.setFrames_setFrames, State.setTop_of_frames _ hr', hr]
      rfl
    have hsame : U.sameButNew ({ U with heap := s₂.heap, slotsUsed := s₂.slotsUsed } : State) L mc ms := by
      refine ⟨?_, q2, q3, q4, q5, q6⟩
      obtain ⟨t, ht, -⟩ := State.frames_cons hr
      show ({ U with heap := s₂.heap, slotsUsed := s₂.slotsUsed } : State) = { U.setFrames U.frames with heap := s₂.heap, slotsUsed := s₂.slotsUsed }
      rw [State.setFrames_self ht]
    subst hg
    refine Or.inl ⟨v, ⟨(({ U with heap := s₂.heap, slotsUsed := s₂.slotsUsed } : State).setVm s₂.vm), Ls ++ L, c0 + mc, s0 + ms⟩,
      ⟨X.admits, X.cas, X.clock, X.frames, X.room, X.hears, X.method, X.code, (X.here.setHeapUsed s₂.heap s₂.slotsUsed).setVm hW'.alike, X.tail, State.WarmedH.trans X.warmed hW', X.limits, X.bytes, X.same.trans (hsame.setVm s.vm)⟩,
      ⟨g, mk, s₂, L, rfl, rfl, hqc, rfl, hL, rfl, rfl⟩, ?_⟩
    show Steps p.tables e below _ ((({ U with heap := s₂.heap, slotsUsed := s₂.slotsUsed } : State).setVm s₂.vm).setTop { g with pc := g.pc + len₂, stack := v.toList ++ g.stack })
    rw [← hs₂]
    exact hsteps
  · obtain ⟨e2, q2, q3, q4, q5, q6⟩ := id hsm
    have e3 : s₂ = ({ (U.calling g mk a).setFrames s₂.frames with heap := s₂.heap, slotsUsed := s₂.slotsUsed } : State).setVm s₂.vm := by
      have : s₂ = ({ s₂ with vm := (U.calling g mk a).vm } : State).setVm s₂.vm := rfl
      rw [e2] at this
      exact this
    have hf₂ : s₂.frames = .throwing q :: .java g :: U.frames.tail := hend
    have hW' : U.WarmedH s₂.vm := hW₂
    have hs₂ : s₂ = ((({ U with heap := s₂.heap, slotsUsed := s₂.slotsUsed } : State).setVm s₂.vm).setTop g).pushFrame (.throwing q) := by
      refine e3.trans ?_
      rw [hf₂, State.calling_eq h.top, State.setFrames_setFrames, State.pushFrame, State.frames_setTop _ hr', State.setTop_of_frames _ hr', State.setFrames_setFrames, hr]
      rfl
    have hsame : U.sameButNew ({ U with heap := s₂.heap, slotsUsed := s₂.slotsUsed } : State) L mc ms := by
      refine ⟨?_, q2, q3, q4, q5, q6⟩
      obtain ⟨t, ht, -⟩ := State.frames_cons hr
      show ({ U with heap := s₂.heap, slotsUsed := s₂.slotsUsed } : State) = { U.setFrames U.frames with heap := s₂.heap, slotsUsed := s₂.slotsUsed }
      rw [State.setFrames_self ht]
    subst hg
    refine Or.inr ⟨q, ⟨(({ U with heap := s₂.heap, slotsUsed := s₂.slotsUsed } : State).setVm s₂.vm), Ls ++ L, c0 + mc, s0 + ms⟩,
      ⟨X.admits, X.cas, X.clock, X.frames, X.room, X.hears, X.method, X.code, (X.here.setHeapUsed s₂.heap s₂.slotsUsed).setVm hW'.alike, X.tail, State.WarmedH.trans X.warmed hW', X.limits, X.bytes, X.same.trans (hsame.setVm s.vm)⟩,
      ⟨g, mk, s₂, L, E, ce, rfl, rfl, hx, hce, hcv, hcl, rfl, hL, rfl, rfl⟩, ?_⟩
    show Steps p.tables e below _ (((({ U with heap := s₂.heap, slotsUsed := s₂.slotsUsed } : State).setVm s₂.vm).setTop g).pushFrame (.throwing q))
    rw [← hs₂]
    exact hsteps
end
variable {p : Program} {l : Launch} {e : Env} {R : Room} {s : State} {m : MethodId} {args : Array Value} {below : List Frame} {meth : Method} {c : Code} {T : State} {H : Heap} {locs : List Loc} {cells slots : Nat}
theorem vx_callVX (X : Stand p l e R s m args below meth c T locs cells slots) (hexec : p.tables.exec = Jvm.exec) {own C : String} {index : Nat} {y : MethodName} {bytes : ByteArray} {maxL : Nat} {ret : Option FieldType} {hh : List (Nat × Nat × Nat × Nat)}
    (hown : s.vm.findClass own = some m.cls) (hlink : (Cond.methodLink own index y).before args s = true) (hinst : (Cond.instanceMethod y).before args s = true) (hsel : (Cond.selects C y y).before args s = true)
    (hcode : (Cond.codeWith y bytes maxL ret hh).before args s = true) (hy : y.cls ≠ "java/lang/invoke/MethodHandle" ∧ y.cls ≠ "java/lang/invoke/VarHandle")
    {W9 : Nat} {Pre : Pt → Array Value → Prop} {Post : Pt → Array Value → Option Value → Pt → Prop} {PostX : Pt → Array Value → Addr → Pt → Prop} (hK : vx_Back l R p e below s args y 3 W9 Pre Post PostX)
    {b : Addr} {cellB : Cell} (hcell : T.heap[b]? = some cellB) (hobj : cellB.vm.isStatics = false) (hcls : s.vm.findClass C = some cellB.cls)
    {g : JFrame} (hg : g.method = m) (hsize : g.locals.size = c.maxLocals) {argsL rest : List Value} (hlen : ∀ sig, parseMethodDescriptor y.desc = some sig → argsL.length = sig.parameters.length)
    (hstack : g.stack = argsL.reverse ++ .ref b :: rest) (hW : 2 * g.monitorRoom + (rest.map fun v => v.category).sum ≤ W9) (hdg : decode c.code g.pc = .ok (.invokevirtual index, 3))
    (hpre : ∀ vm₁, s.WarmedH vm₁ → Pre ⟨T.setVm vm₁, locs, cells, slots⟩ (Value.ref b :: argsL).toArray) :
    (∃ (v : Option Value) (vm₁ : Vm) (B : Pt), s.WarmedH vm₁ ∧ Stand p l e R s m args below meth c B.U B.locs B.cells B.slots ∧ Post ⟨T.setVm vm₁, locs, cells, slots⟩ (Value.ref b :: argsL).toArray v B ∧
      ∀ target, Steps p.tables e below (B.U.setTop { g with pc := g.pc + 3, stack := v.toList ++ rest }) target → Steps p.tables e below (T.setTop g) target) ∨
    (∃ (q : Addr) (vm₁ : Vm) (B : Pt), s.WarmedH vm₁ ∧ Stand p l e R s m args below meth c B.U B.locs B.cells B.slots ∧ PostX ⟨T.setVm vm₁, locs, cells, slots⟩ (Value.ref b :: argsL).toArray q B ∧
      Steps p.tables e below (T.setTop g) ((B.U.setTop { g with stack := rest }).pushFrame (.throwing q))) := by
  obtain ⟨mk, methM, hnamed, hmethM, hstM, habM⟩ := Cond.instanceMethod_spec hinst
  obtain ⟨m8, methM', cM, hn8, hmethM', -, -, -, -, -, -, hsigM⟩ := Cond.codeWith_spec hcode
  cases Option.some.inj (hn8.symm.trans hnamed)
  cases hmethM.symm.trans hmethM'
  obtain ⟨c2, r2, m2, q1, q2, q3, q4, kP, hkP, hkPi⟩ := Cond.selects_spec hsel
  cases hcls.symm.trans q1
  cases (State.methodFound?_of_named hnamed hy).symm.trans q2
  cases hnamed.symm.trans q3
  have hselP : selectMethod e.platform s.vm cellB.cls mk = .method mk := by rw [Launch.admits_selectMethod X.admits]; exact q4
  obtain ⟨vm₁, X₁, hstep₁⟩ := X.invokevirtual hexec hown hlink hnamed hmethM hstM hkP hkPi hy (a := b) (cell := cellB) hcell
    (fun z h => by rw [h] at hobj; cases hobj) hselP hmethM habM hkP hkPi (g := g) hg (argsL := argsL) (rest := rest) (hlen _ hsigM) hstack hdg
  rcases hK m meth c ⟨T.setVm vm₁, locs, cells, slots⟩ { g with stack := rest } (.invokevirtual index) mk (Value.ref b :: argsL).toArray X₁ hg hsize hdg hW (X₁.named hnamed) (hpre vm₁ X₁.warmed) with ⟨v, B, X', hpost, hsteps⟩ | ⟨q, B, X', hpost, hsteps⟩
  · exact Or.inl ⟨v, vm₁, B, X₁.warmed, X', hpost, fun target h => hstep₁ _ fun acts => by rw [doInvoke_state]; exact hsteps.trans h⟩
  · exact Or.inr ⟨q, vm₁, B, X₁.warmed, X', hpost, hstep₁ _ fun acts => by rw [doInvoke_state]; exact hsteps⟩
theorem vx_callSX (X : Stand p l e R s m args below meth c T locs cells slots) (hexec : p.tables.exec = Jvm.exec) {own : String} {index : Nat} {y : MethodName} {bytes : ByteArray} {maxL : Nat} {ret : Option FieldType} {hh : List (Nat × Nat × Nat × Nat)}
    (hown : s.vm.findClass own = some m.cls) (hlink : (Cond.methodLink own index y).before args s = true) (hstat : (Cond.static y).before args s = true) (hinit : (Cond.initialized y.cls).before args s = true)
    (hcode : (Cond.codeWith y bytes maxL ret hh).before args s = true) (hy : y.cls ≠ "java/lang/invoke/MethodHandle" ∧ y.cls ≠ "java/lang/invoke/VarHandle")
    {W9 : Nat} {Pre : Pt → Array Value → Prop} {Post : Pt → Array Value → Option Value → Pt → Prop} {PostX : Pt → Array Value → Addr → Pt → Prop} (hK : vx_Back l R p e below s args y 3 W9 Pre Post PostX)
    {g : JFrame} (hg : g.method = m) (hsize : g.locals.size = c.maxLocals) {argsL rest : List Value} (hlen : ∀ sig, parseMethodDescriptor y.desc = some sig → argsL.length = sig.parameters.length)
    (hstack : g.stack = argsL.reverse ++ rest) (hW : 2 * g.monitorRoom + (rest.map fun v => v.category).sum ≤ W9) (hdg : decode c.code g.pc = .ok (.invokestatic index, 3))
    (hpre : ∀ vm₁, s.WarmedH vm₁ → Pre ⟨T.setVm vm₁, locs, cells, slots⟩ argsL.toArray) :
    (∃ (v : Option Value) (vm₁ : Vm) (B : Pt), s.WarmedH vm₁ ∧ Stand p l e R s m args below meth c B.U B.locs B.cells B.slots ∧ Post ⟨T.setVm vm₁, locs, cells, slots⟩ argsL.toArray v B ∧
      ∀ target, Steps p.tables e below (B.U.setTop { g with pc := g.pc + 3, stack := v.toList ++ rest }) target → Steps p.tables e below (T.setTop g) target) ∨
    (∃ (q : Addr) (vm₁ : Vm) (B : Pt), s.WarmedH vm₁ ∧ Stand p l e R s m args below meth c B.U B.locs B.cells B.slots ∧ PostX ⟨T.setVm vm₁, locs, cells, slots⟩ argsL.toArray q B ∧
      Steps p.tables e below (T.setTop g) ((B.U.setTop { g with stack := rest }).pushFrame (.throwing q))) := by
  obtain ⟨mk, methM, cM, hnamed, hmethM, -, -, -, -, -, -, hsigM⟩ := Cond.codeWith_spec hcode
  have hstatic : methM.isStatic = true := Cond.static_spec hnamed hmethM hstat
  obtain ⟨kP, hkP, -⟩ := className_of_methodNamed hnamed
  have hinitP : kP.init = .initialized := Cond.initialized_spec (findClass_of_methodNamed hnamed) hkP hinit
  obtain ⟨vm₁, X₁, hstep₁⟩ := X.invokestatic hexec hown hlink hnamed hmethM hstatic hkP hinitP hy (g := g) hg (argsL := argsL) (rest := rest) (hlen _ hsigM) hstack hdg
  rcases hK m meth c ⟨T.setVm vm₁, locs, cells, slots⟩ { g with stack := rest } (.invokestatic index) mk argsL.toArray X₁ hg hsize hdg hW (X₁.named hnamed) (hpre vm₁ X₁.warmed) with ⟨v, B, X', hpost, hsteps⟩ | ⟨q, B, X', hpost, hsteps⟩
  · exact Or.inl ⟨v, vm₁, B, X₁.warmed, X', hpost, fun target h => hstep₁ _ fun acts => by rw [doInvoke_state]; exact hsteps.trans h⟩
  · exact Or.inr ⟨q, vm₁, B, X₁.warmed, X', hpost, hstep₁ _ fun acts => by rw [doInvoke_state]; exact hsteps⟩
theorem vx_callVW (X : Stand p l e R s m args below meth c T locs cells slots) (hexec : p.tables.exec = Jvm.exec) {own C : String} {index : Nat} {y : MethodName} {bytes : ByteArray} {maxL : Nat} {ret : Option FieldType} {hh : List (Nat × Nat × Nat × Nat)}
    (hown : s.vm.findClass own = some m.cls) (hlink : (Cond.methodLink own index y).before args s = true) (hinst : (Cond.instanceMethod y).before args s = true) (hsel : (Cond.selects C y y).before args s = true)
    (hcode : (Cond.codeWith y bytes maxL ret hh).before args s = true) (hy : y.cls ≠ "java/lang/invoke/MethodHandle" ∧ y.cls ≠ "java/lang/invoke/VarHandle")
    {W9 : Nat} {Pre : Pt → Array Value → Prop} {Post : Pt → Array Value → Option Value → Pt → Prop} (hK : Back l R p e below s args y 3 W9 Pre Post)
    {b : Addr} {cellB : Cell} (hcell : T.heap[b]? = some cellB) (hobj : cellB.vm.isStatics = false) (hcls : s.vm.findClass C = some cellB.cls)
    {g : JFrame} (hg : g.method = m) (hsize : g.locals.size = c.maxLocals) {argsL rest : List Value} (hlen : ∀ sig, parseMethodDescriptor y.desc = some sig → argsL.length = sig.parameters.length)
    (hstack : g.stack = argsL.reverse ++ .ref b :: rest) (hW : 2 * g.monitorRoom + (rest.map fun v => v.category).sum ≤ W9) (hdg : decode c.code g.pc = .ok (.invokevirtual index, 3))
    (hpre : ∀ vm₁, s.WarmedH vm₁ → Pre ⟨T.setVm vm₁, locs, cells, slots⟩ (Value.ref b :: argsL).toArray) :
    ∃ (v : Option Value) (vm₁ : Vm) (B : Pt), s.WarmedH vm₁ ∧ Stand p l e R s m args below meth c B.U B.locs B.cells B.slots ∧ Post ⟨T.setVm vm₁, locs, cells, slots⟩ (Value.ref b :: argsL).toArray v B ∧
      ∀ target, Steps p.tables e below (B.U.setTop { g with pc := g.pc + 3, stack := v.toList ++ rest }) target → Steps p.tables e below (T.setTop g) target := by
  obtain ⟨mk, methM, hnamed, hmethM, hstM, habM⟩ := Cond.instanceMethod_spec hinst
  obtain ⟨m8, methM', cM, hn8, hmethM', -, -, -, -, -, -, hsigM⟩ := Cond.codeWith_spec hcode
  cases Option.some.inj (hn8.symm.trans hnamed)
  cases hmethM.symm.trans hmethM'
  obtain ⟨c2, r2, m2, q1, q2, q3, q4, kP, hkP, hkPi⟩ := Cond.selects_spec hsel
  cases hcls.symm.trans q1
  cases (State.methodFound?_of_named hnamed hy).symm.trans q2
  cases hnamed.symm.trans q3
  have hselP : selectMethod e.platform s.vm cellB.cls mk = .method mk := by rw [Launch.admits_selectMethod X.admits]; exact q4
  obtain ⟨vm₁, X₁, hstep₁⟩ := X.invokevirtual hexec hown hlink hnamed hmethM hstM hkP hkPi hy (a := b) (cell := cellB) hcell
    (fun z h => by rw [h] at hobj; cases hobj) hselP hmethM habM hkP hkPi (g := g) hg (argsL := argsL) (rest := rest) (hlen _ hsigM) hstack hdg
  obtain ⟨v, B, X', hpost, hsteps⟩ := hK m meth c ⟨T.setVm vm₁, locs, cells, slots⟩ { g with stack := rest } (.invokevirtual index) mk (Value.ref b :: argsL).toArray X₁ hg hsize hdg hW (X₁.named hnamed) (hpre vm₁ X₁.warmed)
  exact ⟨v, vm₁, B, X₁.warmed, X', hpost, fun target h => hstep₁ _ fun acts => by rw [doInvoke_state]; exact hsteps.trans h⟩
abbrev vx_CVW (R : Room) (s : State) (args : Array Value) (own C : String) (index : Nat) (y : MethodName) (bytes : ByteArray) (maxL : Nat) (ret : Option FieldType) (hh : List (Nat × Nat × Nat × Nat)) (ws : List Cond) (rm : Room) (mc ms n : Nat) : Prop :=
  (rm.cells = mc ∧ rm.slots = ms ∧ rm.frames + 1 ≤ R.frames ∧ 8 + (maxL + 11) + rm.locals ≤ R.locals ∧ (∀ w ∈ ws, ∀ (a' : Array Value) (U : State), s.WarmedH U.vm → w.before a' U = true) ∧ Cond.codeWith y bytes maxL ret hh ∈ ws) ∧
  (Cond.codeWith y bytes maxL ret hh).before args s = true ∧ (Cond.initialized y.cls).before args s = true ∧ (y.cls ≠ "java/lang/invoke/MethodHandle" ∧ y.cls ≠ "java/lang/invoke/VarHandle") ∧
  (∀ sig, parseMethodDescriptor y.desc = some sig → n = sig.parameters.length) ∧ (Cond.methodLink own index y).before args s = true ∧ (Cond.instanceMethod y).before args s = true ∧ (Cond.selects C y y).before args s = true
theorem vx_cwVW {own C : String} {index maxL mc ms : Nat} {y : MethodName} {bytes : ByteArray} {ret : Option FieldType} {hh : List (Nat × Nat × Nat × Nat)} {Ts ws ws' : List Cond} {rm : Room} (n : Nat) (ht : ∀ w ∈ Ts, w.before args s = true) (hT : GoodIn Ts (wsV own index C y ws)) (hw : ws = Cond.codeWith y bytes maxL ret hh :: ws') (hrc : rm.cells = mc) (hrs : rm.slots = ms)
    (hd : y.cls = C ∧ y.cls ≠ "java/lang/invoke/MethodHandle" ∧ y.cls ≠ "java/lang/invoke/VarHandle" ∧ (parseMethodDescriptor y.desc).map (fun d => d.parameters.length) = some n) (hR : rm.frames + 1 ≤ R.frames ∧ 8 + (maxL + 11) + rm.locals ≤ R.locals) :
    vx_CVW R s args own C index y bytes maxL ret hh ws rm mc ms n := by
  obtain ⟨hC, hd⟩ := hd
  subst hC
  have ok : ∀ w ∈ wsV own index y.cls y ws, w.before args s = true := fun w h => ht w (hT w h).1
  have hG : GoodIn Ts ws := fun w h => hT w (by unfold wsV; exact List.mem_append_right _ h)
  have hc : Cond.codeWith y bytes maxL ret hh ∈ ws := by rw [hw]; exact List.mem_cons_self
  refine ⟨⟨hrc, hrs, hR.1, hR.2, pay_in ht hG, hc⟩, ht _ (hG _ hc).1, ok _ (by simp [wsV]), ⟨hd.1, hd.2.1⟩, fun sig h => ?_, ok _ (by simp [wsV]), ok _ (by simp [wsV]), ok _ (by simp [wsV])⟩
  have h2 := hd.2.2
  rw [h] at h2
  exact (Option.some.inj h2).symm
theorem vx_runVW {y : MethodName} {bytes cc : ByteArray} {maxL nL mc ms n index : Nat} {ret : Option FieldType} {hh : List (Nat × Nat × Nat × Nat)} {ws : List Cond} {rm : Room} {Pc : Array Value → State → Prop} {Qc : Array Value → State → Outcome → State → Prop} {free : Addr → Prop} {Ts : List Cond} {own C : String} {b : Addr} {As rest : List Value} {g : JFrame}
    (S : CallFix p m c cc nL s args Ts own) (hM : Met l y ws rm Pc Qc mc ms free) (cw : vx_CVW R s args own C index y bytes maxL ret hh ws rm mc ms n) (hp : PreV s H C b Pc As)
    (hg : g.method = m) (hn : As.length = n) (hsize : g.locals.size = nL) (hstack : g.stack = As.reverse ++ .ref b :: rest) (hW : 2 * g.monitorRoom + (rest.map fun v => v.category).sum ≤ 8) (hdg : decode cc g.pc = .ok (.invokevirtual index, 3)) (hf : cells + mc ≤ R.cells ∧ slots + ms ≤ R.slots) :
    va_Run p l e R s m args below meth c H locs cells slots mc ms g rest (Qc (Value.ref b :: As).toArray) free := by
  obtain ⟨⟨hrc, hrs, hfr, hlo, hws, hcw⟩, hcode, hini, hy, hlen, hl, hin, hse⟩ := cw
  have hK : Back l R p e below s args y 3 8 (PreOf R mc ms Pc) (PostOf Qc mc ms free) := va_backW (hh := hh) (bytes := bytes) (maxL := maxL) (ret := ret) hM hp.1 hrc hrs hfr hlo hws hcw (fun a' U hW => word_at hW (Or.inl (by first | rfl | simp [Cond.onTables, Cond.keeps, Cond.steady])) hini)
  obtain ⟨hx, hb, hml, ho, -⟩ := S
  obtain ⟨-, ⟨cellB, hcB, hoB, hclB⟩, hPc⟩ := hp
  intro T hT X
  obtain ⟨v, vm₁, ⟨U', l2, c2, s2⟩, hW₁, X', ⟨g', mk, t, L, e1, e2, hq, h1, hL, h2, h3⟩, st⟩ := vx_callVW X hx (C := C) (hh := hh) (bytes := bytes) (maxL := maxL) (ret := ret) ho hl hin hse hcode hy hK (by rw [hT]; exact hcB) hoB hclB hg (hsize.trans hml.symm) (argsL := As) (rest := rest) (fun sig h => hn.trans (hlen sig h)) hstack hW (by rw [hb]; exact hdg)
    (fun vm₁ hW₁ => ⟨hf.1, hf.2, hPc (T.setVm vm₁) hT hW₁⟩)
  dsimp only [Pt.U, Pt.locs, Pt.cells, Pt.slots] at X' e1 e2 h1 h2 h3 st
  subst h1; subst h2; subst h3
  exact ⟨v, (T.setVm vm₁).calling g' mk (Value.ref b :: As).toArray, t, U', L, hT, X', hL, e1, e2, hq, st⟩
section
variable {y : MethodName} {bytes cc : ByteArray} {maxL nL mc ms n index : Nat} {ret : Option FieldType} {ws : List Cond} {rm : Room} {Pc : Array Value → State → Prop} {Qc : Array Value → State → Outcome → State → Prop} {XC : String → State → State → Prop} {free : Addr → Prop} {Ts : List Cond} {own C : String} {b : Addr} {As rest : List Value} {g : JFrame}
theorem vx_runVX {hh : List (Nat × Nat × Nat × Nat)} (S : CallFix p m c cc nL s args Ts own) (hM : vx_Met l y ws rm Pc Qc XC mc ms free) (cw : vx_CVW R s args own C index y bytes maxL ret hh ws rm mc ms n) (hp : PreV s H C b Pc As)
    (hg : g.method = m) (hn : As.length = n) (hsize : g.locals.size = nL) (hstack : g.stack = As.reverse ++ .ref b :: rest) (hW : 2 * g.monitorRoom + (rest.map fun v => v.category).sum ≤ 8) (hdg : decode cc g.pc = .ok (.invokevirtual index, 3)) (hf : cells + mc ≤ R.cells ∧ slots + ms ≤ R.slots) :
    vx_Run p l e R s m args below meth c H locs cells slots mc ms g rest (Qc (Value.ref b :: As).toArray) XC free := by
  obtain ⟨⟨hrc, hrs, hfr, hlo, hws, hcw⟩, hcode, hini, hy, hlen, hl, hin, hse⟩ := cw
  have hK : vx_Back l R p e below s args y 3 8 (PreOf R mc ms Pc) (PostOf Qc mc ms free) (vx_Post XC mc ms free) := vx_backW (hh := hh) (bytes := bytes) (maxL := maxL) (ret := ret) hM hp.1 hrc hrs hfr hlo hws hcw (fun a' U hW => word_at hW (Or.inl (by first | rfl | simp [Cond.onTables, Cond.keeps, Cond.steady])) hini)
  obtain ⟨hx, hb, hml, ho, -⟩ := S
  obtain ⟨-, ⟨cellB, hcB, hoB, hclB⟩, hPc⟩ := hp
  intro T hT X
  rcases vx_callVX X hx (C := C) (hh := hh) (bytes := bytes) (maxL := maxL) (ret := ret) ho hl hin hse hcode hy hK (by rw [hT]; exact hcB) hoB hclB hg (hsize.trans hml.symm) (argsL := As) (rest := rest) (fun sig h => hn.trans (hlen sig h)) hstack hW (by rw [hb]; exact hdg)
    (fun vm₁ hW₁ => ⟨hf.1, hf.2, hPc (T.setVm vm₁) hT hW₁⟩) with ⟨v, vm₁, ⟨U', l2, c2, s2⟩, hW₁, X', ⟨g', mk, t, L, e1, e2, hq, h1, hL, h2, h3⟩, st⟩ | ⟨q, vm₁, ⟨U', l2, c2, s2⟩, hW₁, X', ⟨g', mk, t, L, E, ce, e1, e2, hq, hce, hcv, hcl, h1, hL, h2, h3⟩, st⟩
  · dsimp only [Pt.U, Pt.locs, Pt.cells, Pt.slots] at X' e1 e2 h1 h2 h3 st
    subst h1; subst h2; subst h3
    exact Or.inl ⟨v, (T.setVm vm₁).calling g' mk (Value.ref b :: As).toArray, t, U', L, hT, X', hL, e1, e2, hq, st⟩
  · dsimp only [Pt.U, Pt.locs, Pt.cells, Pt.slots] at X' e1 e2 h1 h2 h3 st hcl
    subst h1; subst h2; subst h3
    exact Or.inr ⟨q, (T.setVm vm₁).calling g' mk (Value.ref b :: As).toArray, t, U', L, E, ce, hT, X', hL, e1, e2, hq, hce, hcv, vx_cls hW₁ hcl, st⟩
theorem vx_runSX {hh : List (Nat × Nat × Nat × Nat)} (S : CallFix p m c cc nL s args Ts own) (hM : vx_Met l y ws rm Pc Qc XC mc ms free) (cw : vx_CSW R s args own index y bytes maxL ret hh ws rm mc ms n) (hp : PreS s H Pc As)
    (hg : g.method = m) (hn : As.length = n) (hsize : g.locals.size = nL) (hstack : g.stack = As.reverse ++ rest) (hW : 2 * g.monitorRoom + (rest.map fun v => v.category).sum ≤ 8) (hdg : decode cc g.pc = .ok (.invokestatic index, 3)) (hf : cells + mc ≤ R.cells ∧ slots + ms ≤ R.slots) :
    vx_Run p l e R s m args below meth c H locs cells slots mc ms g rest (Qc As.toArray) XC free := by
  obtain ⟨⟨hrc, hrs, hfr, hlo, hws, hcw⟩, hcode, hini, hy, hlen, hl, hstt⟩ := cw
  have hK : vx_Back l R p e below s args y 3 8 (PreOf R mc ms Pc) (PostOf Qc mc ms free) (vx_Post XC mc ms free) := vx_backW (hh := hh) (bytes := bytes) (maxL := maxL) (ret := ret) hM hp.1 hrc hrs hfr hlo hws hcw (fun a' U hW => word_at hW (Or.inl (by first | rfl | simp [Cond.onTables, Cond.keeps, Cond.steady])) hini)
  obtain ⟨hx, hb, hml, ho, -⟩ := S
  intro T hT X
  rcases vx_callSX X hx (hh := hh) (bytes := bytes) (maxL := maxL) (ret := ret) ho hl hstt hini hcode hy hK hg (hsize.trans hml.symm) (argsL := As) (rest := rest) (fun sig h => hn.trans (hlen sig h)) hstack hW (by rw [hb]; exact hdg)
    (fun vm₁ hW₁ => ⟨hf.1, hf.2, hp.2 (T.setVm vm₁) hT hW₁⟩) with ⟨v, vm₁, ⟨U', l2, c2, s2⟩, hW₁, X', ⟨g', mk, t, L, e1, e2, hq, h1, hL, h2, h3⟩, st⟩ | ⟨q, vm₁, ⟨U', l2, c2, s2⟩, hW₁, X', ⟨g', mk, t, L, E, ce, e1, e2, hq, hce, hcv, hcl, h1, hL, h2, h3⟩, st⟩
  · dsimp only [Pt.U, Pt.locs, Pt.cells, Pt.slots] at X' e1 e2 h1 h2 h3 st
    subst h1; subst h2; subst h3
    exact Or.inl ⟨v, (T.setVm vm₁).calling g' mk As.toArray, t, U', L, hT, X', hL, e1, e2, hq, st⟩
  · dsimp only [Pt.U, Pt.locs, Pt.cells, Pt.slots] at X' e1 e2 h1 h2 h3 st hcl
    subst h1; subst h2; subst h3
    exact Or.inr ⟨q, (T.setVm vm₁).calling g' mk As.toArray, t, U', L, E, ce, hT, X', hL, e1, e2, hq, hce, hcv, vx_cls hW₁ hcl, st⟩
end
end VXH
theorem vx_ofWH {l : Launch} {y : MethodName} {ws ws' : List Cond} {rm : Room} {Pc : Array Value → State → Prop} {Qc : Array Value → State → Outcome → State → Prop} {XC : String → State → State → Prop} {mc ms : Nat} {free : Addr → Prop} {cc : ByteArray} {maxL : Nat} {ret : Option FieldType} {hh : List (Nat × Nat × Nat × Nat)}
    (hy : plainName y.cls = true) (hw : ws = Cond.codeWith y cc maxL ret hh :: ws')
    (body : ∀ p e s m args below meth c s₁, BodyLoose p l y (headSpec ws rm) cc maxL ret e s m args below meth c s₁ → c.maxLocals = maxL → Pc args s →
      W p l e (headSpec ws rm).room s m args below meth c s.heap [] 0 0 (vx_MQ below Qc XC args s mc ms free) (entryFrame m args maxL)) : vx_Met l y ws rm Pc Qc XC mc ms free := by
  refine MetFree.of_bodyS (code := cc) (maxLocals := maxL) (ret := ret) hy ?_ ?_
  · intro args s m h hn
    obtain ⟨m9, meth, c, hn9, h1, h2, h3, h4, -, h5, h6, -⟩ := Cond.codeWith_spec (atoms_spec (ws := ws) h _ (by rw [hw]; exact List.mem_cons_self))
    cases hn.symm.trans hn9
    exact ⟨meth, c, h1, h2, h3, h4, h5, h6⟩
  · intro p e s m args below meth c s₁ B hml hP _
    have hh0 : s₁.heap = s.heap := by rw [B.state]; rfl
    obtain ⟨t, a1, o, b1, b2, b3⟩ := body p e s m args below meth c s₁ B hml hP s₁ hh0 (Stand.of_body B)
    exact ⟨t, o, a1, b1, b2, b3⟩
/-! ===== END ===== -/
end
section
def RX0 : String := "MendingRoads$Gate"
def TX0 : u_T := fun k => match k with
  | _ => ("MendingRoads$Gate", "group", "[I", true)
def tyX0 : Nat → FieldType := fun k => match k with
  | _ => .array .int
theorem nmX0 : ∀ a, a < 1 → ∀ b, b < 1 → a ≠ b → (TX0 a).2.1 ≠ (TX0 b).2.1 := by decide +kernel
theorem tyX0_ok : ∀ k, k < 1 → parseFieldDescriptor (TX0 k).2.2.1 = some (tyX0 k) := by decide +kernel
abbrev cX0_init : ByteArray := prog_2_method_1_code
def yX0_init : MethodName := ⟨RX0, "<init>", "()V"⟩
abbrev cX0_shutWorst : ByteArray := prog_2_method_2_code
def yX0_shutWorst : MethodName := ⟨RX0, "shutWorst", "(LMendingRoads$Land;LMendingRoads$State;)I"⟩
abbrev cX0_shutRested : ByteArray := prog_2_method_3_code
def yX0_shutRested : MethodName := ⟨RX0, "shutRested", "(LMendingRoads$Land;LMendingRoads$State;)I"⟩
abbrev cX0_allGetThrough : ByteArray := prog_2_method_4_code
def yX0_allGetThrough : MethodName := ⟨RX0, "allGetThrough", "(LMendingRoads$Land;LMendingRoads$State;I)Z"⟩
abbrev cX0_groupPlaces : ByteArray := prog_2_method_5_code
def yX0_groupPlaces : MethodName := ⟨RX0, "groupPlaces", "(LMendingRoads$Land;LMendingRoads$State;I)V"⟩
abbrev cX0_join : ByteArray := prog_2_method_6_code
def yX0_join : MethodName := ⟨RX0, "join", "(III)V"⟩
def RX1 : String := "MendingRoads$Land"
def TX1 : u_T := fun k => match k with
  | 0 => ("MendingRoads$Land", "places", "I", false)
  | 1 => ("MendingRoads$Land", "roads", "I", false)
  | 2 => ("MendingRoads$Land", "news", "I", false)
  | 3 => ("MendingRoads$Land", "goings", "I", false)
  | 4 => ("MendingRoads$Land", "wets", "I", false)
  | 5 => ("MendingRoads$Land", "rest", "I", false)
  | 6 => ("MendingRoads$Land", "roadFacts", "[[I", true)
  | 7 => ("MendingRoads$Land", "goingFacts", "[[I", true)
  | _ => ("MendingRoads$Land", "wetDays", "[I", true)
def tyX1 : Nat → FieldType := fun k => match k with
  | 0 => .int
  | 1 => .int
  | 2 => .int
  | 3 => .int
  | 4 => .int
  | 5 => .int
  | 6 => .array (.array .int)
  | 7 => .array (.array .int)
  | _ => .array .int
theorem nmX1 : ∀ a, a < 9 → ∀ b, b < 9 → a ≠ b → (TX1 a).2.1 ≠ (TX1 b).2.1 := by decide +kernel
theorem tyX1_ok : ∀ k, k < 9 → parseFieldDescriptor (TX1 k).2.2.1 = some (tyX1 k) := by decide +kernel
abbrev cX1_init : ByteArray := prog_3_method_1_code
def yX1_init : MethodName := ⟨RX1, "<init>", "()V"⟩
abbrev cX1_makeEmpty : ByteArray := prog_3_method_2_code
def yX1_makeEmpty : MethodName := ⟨RX1, "makeEmpty", "()V"⟩
abbrev cX1_isWet : ByteArray := prog_3_method_3_code
def yX1_isWet : MethodName := ⟨RX1, "isWet", "(I)Z"⟩
abbrev cX1_goesOn : ByteArray := prog_3_method_4_code
def yX1_goesOn : MethodName := ⟨RX1, "goesOn", "(II)Z"⟩
abbrev cX1_factsWith : ByteArray := prog_3_method_5_code
def yX1_factsWith : MethodName := ⟨RX1, "factsWith", "(II)[I"⟩
abbrev cX1_roadsWith : ByteArray := prog_3_method_6_code
def yX1_roadsWith : MethodName := ⟨RX1, "roadsWith", "(I)I"⟩
def RX2 : String := "MendingRoads$Plan"
def TX2 : u_T := fun k => match k with
  | 0 => ("MendingRoads$Plan", "toll", "I", false)
  | 1 => ("MendingRoads$Plan", "marked", "I", false)
  | 2 => ("MendingRoads$Plan", "heedless", "Z", false)
  | 3 => ("MendingRoads$Plan", "absent", "Z", false)
  | 4 => ("MendingRoads$Plan", "later", "I", false)
  | 5 => ("MendingRoads$Plan", "extra", "I", false)
  | 6 => ("MendingRoads$Plan", "rest", "I", false)
  | 7 => ("MendingRoads$Plan", "dry", "Z", false)
  | 8 => ("MendingRoads$Plan", "lots", "Z", false)
  | _ => ("MendingRoads$Plan", "lot", "I", false)
def tyX2 : Nat → FieldType := fun k => match k with
  | 0 => .int
  | 1 => .int
  | 2 => .boolean
  | 3 => .boolean
  | 4 => .int
  | 5 => .int
  | 6 => .int
  | 7 => .boolean
  | 8 => .boolean
  | _ => .int
theorem nmX2 : ∀ a, a < 10 → ∀ b, b < 10 → a ≠ b → (TX2 a).2.1 ≠ (TX2 b).2.1 := by decide +kernel
theorem tyX2_ok : ∀ k, k < 10 → parseFieldDescriptor (TX2 k).2.2.1 = some (tyX2 k) := by decide +kernel
abbrev cX2_init : ByteArray := prog_4_method_1_code
def yX2_init : MethodName := ⟨RX2, "<init>", "()V"⟩
abbrev cX2_makePlain : ByteArray := prog_4_method_2_code
def yX2_makePlain : MethodName := ⟨RX2, "makePlain", "(LMendingRoads$Land;)V"⟩
abbrev cX2_isHeedless : ByteArray := prog_4_method_3_code
def yX2_isHeedless : MethodName := ⟨RX2, "isHeedless", "(I)Z"⟩
abbrev cX2_isAbsent : ByteArray := prog_4_method_4_code
def yX2_isAbsent : MethodName := ⟨RX2, "isAbsent", "(I)Z"⟩
abbrev cX2_delayOf : ByteArray := prog_4_method_5_code
def yX2_delayOf : MethodName := ⟨RX2, "delayOf", "(I)I"⟩
abbrev cX2_nextLot : ByteArray := prog_4_method_6_code
def yX2_nextLot : MethodName := ⟨RX2, "nextLot", "()I"⟩
def RX3 : String := "MendingRoads$Reader"
def TX3 : u_T := fun k => match k with
  | 0 => ("MendingRoads$Reader", "tapeLength", "I", false)
  | 1 => ("MendingRoads$Reader", "faultKind", "I", false)
  | 2 => ("MendingRoads$Reader", "faultPlace", "I", false)
  | 3 => ("MendingRoads$Reader", "into", "LMendingRoads$Land;", false)
  | 4 => ("MendingRoads$Reader", "tape", "[I", true)
  | 5 => ("MendingRoads$Reader", "numbers", "[I", true)
  | 6 => ("MendingRoads$Reader", "length", "I", false)
  | 7 => ("MendingRoads$Reader", "at", "I", false)
  | _ => ("MendingRoads$Reader", "clauses", "I", false)
def tyX3 : Nat → FieldType := fun k => match k with
  | 0 => .int
  | 1 => .int
  | 2 => .int
  | 3 => .object "MendingRoads$Land"
  | 4 => .array .int
  | 5 => .array .int
  | 6 => .int
  | 7 => .int
  | _ => .int
theorem nmX3 : ∀ a, a < 9 → ∀ b, b < 9 → a ≠ b → (TX3 a).2.1 ≠ (TX3 b).2.1 := by decide +kernel
theorem tyX3_ok : ∀ k, k < 9 → parseFieldDescriptor (TX3 k).2.2.1 = some (tyX3 k) := by decide +kernel
abbrev cX3_init : ByteArray := prog_5_method_1_code
def yX3_init : MethodName := ⟨RX3, "<init>", "()V"⟩
abbrev cX3_putNumber : ByteArray := prog_5_method_2_code
def yX3_putNumber : MethodName := ⟨RX3, "putNumber", "(I)V"⟩
abbrev cX3_read : ByteArray := prog_5_method_3_code
def yX3_read : MethodName := ⟨RX3, "read", "(I)V"⟩
abbrev cX3_fail : ByteArray := prog_5_method_4_code
def yX3_fail : MethodName := ⟨RX3, "fail", "(II)V"⟩
abbrev cX3_skipBlanks : ByteArray := prog_5_method_5_code
def yX3_skipBlanks : MethodName := ⟨RX3, "skipBlanks", "()V"⟩
abbrev cX3_readClause : ByteArray := prog_5_method_6_code
def yX3_readClause : MethodName := ⟨RX3, "readClause", "()V"⟩
abbrev cX3_kindOf : ByteArray := prog_5_method_7_code
def yX3_kindOf : MethodName := ⟨RX3, "kindOf", "(I)I"⟩
abbrev cX3_isWord : ByteArray := prog_5_method_8_code
def yX3_isWord : MethodName := ⟨RX3, "isWord", "(ILjava/lang/String;)Z"⟩
abbrev cX3_faultOfWord : ByteArray := prog_5_method_9_code
def yX3_faultOfWord : MethodName := ⟨RX3, "faultOfWord", "(I)I"⟩
abbrev cX3_isOneTooMany : ByteArray := prog_5_method_10_code
def yX3_isOneTooMany : MethodName := ⟨RX3, "isOneTooMany", "(I)Z"⟩
abbrev cX3_readNumber : ByteArray := prog_5_method_11_code
def yX3_readNumber : MethodName := ⟨RX3, "readNumber", "(II)V"⟩
abbrev cX3_readEnd : ByteArray := prog_5_method_12_code
def yX3_readEnd : MethodName := ⟨RX3, "readEnd", "()V"⟩
abbrev cX3_isSameEnd : ByteArray := prog_5_method_13_code
def yX3_isSameEnd : MethodName := ⟨RX3, "isSameEnd", "(III)Z"⟩
abbrev cX3_leastOf : ByteArray := prog_5_method_14_code
def yX3_leastOf : MethodName := ⟨RX3, "leastOf", "(II)I"⟩
abbrev cX3_mostOf : ByteArray := prog_5_method_15_code
def yX3_mostOf : MethodName := ⟨RX3, "mostOf", "(II)I"⟩
abbrev cX3_tell : ByteArray := prog_5_method_16_code
def yX3_tell : MethodName := ⟨RX3, "tell", "(I)V"⟩
abbrev cX3_tellRoad : ByteArray := prog_5_method_17_code
def yX3_tellRoad : MethodName := ⟨RX3, "tellRoad", "(I)V"⟩
abbrev cX3_tellGoing : ByteArray := prog_5_method_18_code
def yX3_tellGoing : MethodName := ⟨RX3, "tellGoing", "(I)V"⟩
abbrev cX3_tellWet : ByteArray := prog_5_method_19_code
def yX3_tellWet : MethodName := ⟨RX3, "tellWet", "(I)V"⟩
def RX4 : String := "MendingRoads$Rounds"
def TX4 : u_T := fun k => match k with
  | 0 => ("MendingRoads$Rounds", "begins", "I", false)
  | 1 => ("MendingRoads$Rounds", "length", "I", false)
  | 2 => ("MendingRoads$Rounds", "firstBad", "I", false)
  | 3 => ("MendingRoads$Rounds", "lowMarks", "[J", true)
  | _ => ("MendingRoads$Rounds", "highMarks", "[J", true)
def tyX4 : Nat → FieldType := fun k => match k with
  | 0 => .int
  | 1 => .int
  | 2 => .int
  | 3 => .array .long
  | _ => .array .long
theorem nmX4 : ∀ a, a < 5 → ∀ b, b < 5 → a ≠ b → (TX4 a).2.1 ≠ (TX4 b).2.1 := by decide +kernel
theorem tyX4_ok : ∀ k, k < 5 → parseFieldDescriptor (TX4 k).2.2.1 = some (tyX4 k) := by decide +kernel
abbrev cX4_init : ByteArray := prog_6_method_1_code
def yX4_init : MethodName := ⟨RX4, "<init>", "()V"⟩
abbrev cX4_follow : ByteArray := prog_6_method_2_code
def yX4_follow : MethodName := ⟨RX4, "follow", "(LMendingRoads$Walk;)V"⟩
abbrev cX4_lastsWell : ByteArray := prog_6_method_3_code
def yX4_lastsWell : MethodName := ⟨RX4, "lastsWell", "()Z"⟩
abbrev cX4_mark : ByteArray := prog_6_method_4_code
def yX4_mark : MethodName := ⟨RX4, "mark", "(ILMendingRoads$State;)V"⟩
abbrev cX4_packed : ByteArray := prog_6_method_5_code
def yX4_packed : MethodName := ⟨RX4, "packed", "(LMendingRoads$State;I)J"⟩
abbrev cX4_lookBack : ByteArray := prog_6_method_6_code
def yX4_lookBack : MethodName := ⟨RX4, "lookBack", "(II)V"⟩
def RX5 : String := "MendingRoads$Search"
def TX5 : u_T := fun k => match k with
  | 0 => ("MendingRoads$Search", "least", "J", false)
  | 1 => ("MendingRoads$Search", "firstShut", "I", false)
  | 2 => ("MendingRoads$Search", "levels", "[LMendingRoads$State;", true)
  | _ => ("MendingRoads$Search", "days", "I", false)
def tyX5 : Nat → FieldType := fun k => match k with
  | 0 => .long
  | 1 => .int
  | 2 => .array (.object "MendingRoads$State")
  | _ => .int
theorem nmX5 : ∀ a, a < 4 → ∀ b, b < 4 → a ≠ b → (TX5 a).2.1 ≠ (TX5 b).2.1 := by decide +kernel
theorem tyX5_ok : ∀ k, k < 4 → parseFieldDescriptor (TX5 k).2.2.1 = some (tyX5 k) := by decide +kernel
abbrev cX5_init : ByteArray := prog_7_method_1_code
def yX5_init : MethodName := ⟨RX5, "<init>", "()V"⟩
abbrev cX5_seek : ByteArray := prog_7_method_2_code
def yX5_seek : MethodName := ⟨RX5, "seek", "(LMendingRoads$Walk;LMendingRoads$Land;LMendingRoads$State;I)V"⟩
abbrev cX5_tryDays : ByteArray := prog_7_method_3_code
def yX5_tryDays : MethodName := ⟨RX5, "tryDays", "(LMendingRoads$Walk;LMendingRoads$Land;IJI)V"⟩
def RX6 : String := "MendingRoads$State"
def TX6 : u_T := fun k => match k with
  | 0 => ("MendingRoads$State", "day", "I", false)
  | 1 => ("MendingRoads$State", "wear", "[I", true)
  | 2 => ("MendingRoads$State", "rested", "[I", true)
  | 3 => ("MendingRoads$State", "row", "[I", true)
  | _ => ("MendingRoads$State", "rowLength", "I", false)
def tyX6 : Nat → FieldType := fun k => match k with
  | 0 => .int
  | 1 => .array .int
  | 2 => .array .int
  | 3 => .array .int
  | _ => .int
theorem nmX6 : ∀ a, a < 5 → ∀ b, b < 5 → a ≠ b → (TX6 a).2.1 ≠ (TX6 b).2.1 := by decide +kernel
theorem tyX6_ok : ∀ k, k < 5 → parseFieldDescriptor (TX6 k).2.2.1 = some (tyX6 k) := by decide +kernel
abbrev cX6_init : ByteArray := prog_8_method_1_code
def yX6_init : MethodName := ⟨RX6, "<init>", "()V"⟩
abbrev cX6_makeNew : ByteArray := prog_8_method_2_code
def yX6_makeNew : MethodName := ⟨RX6, "makeNew", "(I)V"⟩
abbrev cX6_makeWhole : ByteArray := prog_8_method_3_code
def yX6_makeWhole : MethodName := ⟨RX6, "makeWhole", "(II)V"⟩
abbrev cX6_take : ByteArray := prog_8_method_4_code
def yX6_take : MethodName := ⟨RX6, "take", "(LMendingRoads$State;)V"⟩
abbrev cX6_isPastUse : ByteArray := prog_8_method_5_code
def yX6_isPastUse : MethodName := ⟨RX6, "isPastUse", "(LMendingRoads$Land;I)Z"⟩
abbrev cX6_firstPastUse : ByteArray := prog_8_method_6_code
def yX6_firstPastUse : MethodName := ⟨RX6, "firstPastUse", "(LMendingRoads$Land;)I"⟩
abbrev cX6_pastUseCount : ByteArray := prog_8_method_7_code
def yX6_pastUseCount : MethodName := ⟨RX6, "pastUseCount", "(LMendingRoads$Land;)I"⟩
abbrev cX6_mostWear : ByteArray := prog_8_method_8_code
def yX6_mostWear : MethodName := ⟨RX6, "mostWear", "(LMendingRoads$Land;)I"⟩
abbrev cX6_endDay : ByteArray := prog_8_method_9_code
def yX6_endDay : MethodName := ⟨RX6, "endDay", "(III)V"⟩
def RX7 : String := "MendingRoads$Tally"
def TX7 : u_T := fun k => match k with
  | 0 => ("MendingRoads$Tally", "cost", "J", false)
  | 1 => ("MendingRoads$Tally", "markedCost", "J", false)
  | 2 => ("MendingRoads$Tally", "paid", "J", false)
  | 3 => ("MendingRoads$Tally", "stays", "I", false)
  | 4 => ("MendingRoads$Tally", "went", "I", false)
  | 5 => ("MendingRoads$Tally", "firstStays", "I", false)
  | _ => ("MendingRoads$Tally", "longest", "I", false)
def tyX7 : Nat → FieldType := fun k => match k with
  | 0 => .long
  | 1 => .long
  | 2 => .long
  | 3 => .int
  | 4 => .int
  | 5 => .int
  | _ => .int
theorem nmX7 : ∀ a, a < 7 → ∀ b, b < 7 → a ≠ b → (TX7 a).2.1 ≠ (TX7 b).2.1 := by decide +kernel
theorem tyX7_ok : ∀ k, k < 7 → parseFieldDescriptor (TX7 k).2.2.1 = some (tyX7 k) := by decide +kernel
abbrev cX7_init : ByteArray := prog_9_method_1_code
def yX7_init : MethodName := ⟨RX7, "<init>", "()V"⟩
abbrev cX7_makeEmpty : ByteArray := prog_9_method_2_code
def yX7_makeEmpty : MethodName := ⟨RX7, "makeEmpty", "()V"⟩
abbrev cX7_beginDay : ByteArray := prog_9_method_3_code
def yX7_beginDay : MethodName := ⟨RX7, "beginDay", "()V"⟩
abbrev cX7_noteStay : ByteArray := prog_9_method_4_code
def yX7_noteStay : MethodName := ⟨RX7, "noteStay", "(I)V"⟩
abbrev cX7_noteWay : ByteArray := prog_9_method_5_code
def yX7_noteWay : MethodName := ⟨RX7, "noteWay", "(LMendingRoads$Ways;)V"⟩
def RX8 : String := "MendingRoads$Walk"
def TX8 : u_T := fun k => match k with
  | 0 => ("MendingRoads$Walk", "ways", "LMendingRoads$Ways;", true)
  | 1 => ("MendingRoads$Walk", "plan", "LMendingRoads$Plan;", true)
  | 2 => ("MendingRoads$Walk", "tally", "LMendingRoads$Tally;", true)
  | 3 => ("MendingRoads$Walk", "gate", "LMendingRoads$Gate;", true)
  | 4 => ("MendingRoads$Walk", "weights", "[I", true)
  | 5 => ("MendingRoads$Walk", "state", "LMendingRoads$State;", true)
  | 6 => ("MendingRoads$Walk", "land", "LMendingRoads$Land;", false)
  | _ => ("MendingRoads$Walk", "daysGone", "I", false)
def tyX8 : Nat → FieldType := fun k => match k with
  | 0 => .object "MendingRoads$Ways"
  | 1 => .object "MendingRoads$Plan"
  | 2 => .object "MendingRoads$Tally"
  | 3 => .object "MendingRoads$Gate"
  | 4 => .array .int
  | 5 => .object "MendingRoads$State"
  | 6 => .object "MendingRoads$Land"
  | _ => .int
theorem nmX8 : ∀ a, a < 8 → ∀ b, b < 8 → a ≠ b → (TX8 a).2.1 ≠ (TX8 b).2.1 := by decide +kernel
theorem tyX8_ok : ∀ k, k < 8 → parseFieldDescriptor (TX8 k).2.2.1 = some (tyX8 k) := by decide +kernel
abbrev cX8_init : ByteArray := prog_10_method_1_code
def yX8_init : MethodName := ⟨RX8, "<init>", "()V"⟩
abbrev cX8_begin : ByteArray := prog_10_method_2_code
def yX8_begin : MethodName := ⟨RX8, "begin", "(LMendingRoads$Land;LMendingRoads$State;)V"⟩
abbrev cX8_goOn : ByteArray := prog_10_method_3_code
def yX8_goOn : MethodName := ⟨RX8, "goOn", "(II)J"⟩
abbrev cX8_shutBy : ByteArray := prog_10_method_4_code
def yX8_shutBy : MethodName := ⟨RX8, "shutBy", "(I)I"⟩
abbrev cX8_lookRound : ByteArray := prog_10_method_5_code
def yX8_lookRound : MethodName := ⟨RX8, "lookRound", "(I)V"⟩
abbrev cX8_passDay : ByteArray := prog_10_method_6_code
def yX8_passDay : MethodName := ⟨RX8, "passDay", "(I)V"⟩
abbrev cX8_setsOut : ByteArray := prog_10_method_7_code
def yX8_setsOut : MethodName := ⟨RX8, "setsOut", "(I)Z"⟩
abbrev cX8_send : ByteArray := prog_10_method_8_code
def yX8_send : MethodName := ⟨RX8, "send", "(II)V"⟩
abbrev cX8_loadWay : ByteArray := prog_10_method_9_code
def yX8_loadWay : MethodName := ⟨RX8, "loadWay", "(I)V"⟩
abbrev cX8_endDay : ByteArray := prog_10_method_10_code
def yX8_endDay : MethodName := ⟨RX8, "endDay", "()V"⟩
def RX9 : String := "MendingRoads$Ways"
def TX9 : u_T := fun k => match k with
  | 0 => ("MendingRoads$Ways", "pathLength", "I", false)
  | 1 => ("MendingRoads$Ways", "pathMinutes", "I", false)
  | 2 => ("MendingRoads$Ways", "pathPaid", "I", false)
  | 3 => ("MendingRoads$Ways", "path", "[I", true)
  | 4 => ("MendingRoads$Ways", "number", "[I", true)
  | 5 => ("MendingRoads$Ways", "oneEnd", "[I", true)
  | 6 => ("MendingRoads$Ways", "otherEnd", "[I", true)
  | 7 => ("MendingRoads$Ways", "minutesOf", "[I", true)
  | 8 => ("MendingRoads$Ways", "tollOf", "[I", true)
  | 9 => ("MendingRoads$Ways", "distance", "[I", true)
  | 10 => ("MendingRoads$Ways", "usable", "I", false)
  | 11 => ("MendingRoads$Ways", "places", "I", false)
  | _ => ("MendingRoads$Ways", "measured", "I", false)
def tyX9 : Nat → FieldType := fun k => match k with
  | 0 => .int
  | 1 => .int
  | 2 => .int
  | 3 => .array .int
  | 4 => .array .int
  | 5 => .array .int
  | 6 => .array .int
  | 7 => .array .int
  | 8 => .array .int
  | 9 => .array .int
  | 10 => .int
  | 11 => .int
  | _ => .int
theorem nmX9 : ∀ a, a < 13 → ∀ b, b < 13 → a ≠ b → (TX9 a).2.1 ≠ (TX9 b).2.1 := by decide +kernel
theorem tyX9_ok : ∀ k, k < 13 → parseFieldDescriptor (TX9 k).2.2.1 = some (tyX9 k) := by decide +kernel
abbrev cX9_init : ByteArray := prog_11_method_1_code
def yX9_init : MethodName := ⟨RX9, "<init>", "()V"⟩
abbrev cX9_lookRound : ByteArray := prog_11_method_2_code
def yX9_lookRound : MethodName := ⟨RX9, "lookRound", "(LMendingRoads$Land;LMendingRoads$State;LMendingRoads$Plan;I)V"⟩
abbrev cX9_find : ByteArray := prog_11_method_3_code
def yX9_find : MethodName := ⟨RX9, "find", "(II)Z"⟩
abbrev cX9_stepOn : ByteArray := prog_11_method_4_code
def yX9_stepOn : MethodName := ⟨RX9, "stepOn", "(II)I"⟩
abbrev cX9_acrossFrom : ByteArray := prog_11_method_5_code
def yX9_acrossFrom : MethodName := ⟨RX9, "acrossFrom", "(II)I"⟩
abbrev cX9_measure : ByteArray := prog_11_method_6_code
def yX9_measure : MethodName := ⟨RX9, "measure", "(I)V"⟩
def RX10 : String := "MendingRoads"
def TX10 : u_T := fun k => match k with
  | 0 => ("MendingRoads", "reader", "LMendingRoads$Reader;", true)
  | 1 => ("MendingRoads", "land", "LMendingRoads$Land;", false)
  | 2 => ("MendingRoads", "now", "LMendingRoads$State;", true)
  | 3 => ("MendingRoads", "images", "[LMendingRoads$State;", true)
  | 4 => ("MendingRoads", "imageCount", "I", false)
  | 5 => ("MendingRoads", "walk", "LMendingRoads$Walk;", true)
  | 6 => ("MendingRoads", "search", "LMendingRoads$Search;", true)
  | 7 => ("MendingRoads", "rounds", "LMendingRoads$Rounds;", true)
  | _ => ("MendingRoads", "verdict", "[I", true)
def tyX10 : Nat → FieldType := fun k => match k with
  | 0 => .object "MendingRoads$Reader"
  | 1 => .object "MendingRoads$Land"
  | 2 => .object "MendingRoads$State"
  | 3 => .array (.object "MendingRoads$State")
  | 4 => .int
  | 5 => .object "MendingRoads$Walk"
  | 6 => .object "MendingRoads$Search"
  | 7 => .object "MendingRoads$Rounds"
  | _ => .array .int
theorem nmX10 : ∀ a, a < 9 → ∀ b, b < 9 → a ≠ b → (TX10 a).2.1 ≠ (TX10 b).2.1 := by decide +kernel
theorem tyX10_ok : ∀ k, k < 9 → parseFieldDescriptor (TX10 k).2.2.1 = some (tyX10 k) := by decide +kernel
abbrev cX10_init : ByteArray := prog_1_method_1_code
def yX10_init : MethodName := ⟨RX10, "<init>", "()V"⟩
abbrev cX10_feed : ByteArray := prog_1_method_2_code
def yX10_feed : MethodName := ⟨RX10, "feed", "(IIIII)I"⟩
abbrev cX10_land : ByteArray := prog_1_method_3_code
def yX10_land : MethodName := ⟨RX10, "land", "(I)I"⟩
abbrev cX10_fault : ByteArray := prog_1_method_4_code
def yX10_fault : MethodName := ⟨RX10, "fault", "()I"⟩
abbrev cX10_told : ByteArray := prog_1_method_5_code
def yX10_told : MethodName := ⟨RX10, "told", "(I)I"⟩
abbrev cX10_road : ByteArray := prog_1_method_6_code
def yX10_road : MethodName := ⟨RX10, "road", "(II)I"⟩
abbrev cX10_going : ByteArray := prog_1_method_7_code
def yX10_going : MethodName := ⟨RX10, "going", "(II)I"⟩
abbrev cX10_way : ByteArray := prog_1_method_8_code
def yX10_way : MethodName := ⟨RX10, "way", "(II)I"⟩
abbrev cX10_by : ByteArray := prog_1_method_9_code
def yX10_by : MethodName := ⟨RX10, "by", "(III)I"⟩
abbrev cX10_seekWay : ByteArray := prog_1_method_10_code
def yX10_seekWay : MethodName := ⟨RX10, "seekWay", "(II)Z"⟩
abbrev cX10_shuts : ByteArray := prog_1_method_11_code
def yX10_shuts : MethodName := ⟨RX10, "shuts", "(I)I"⟩
abbrev cX10_day : ByteArray := prog_1_method_12_code
def yX10_day : MethodName := ⟨RX10, "day", "(I)I"⟩
abbrev cX10_run : ByteArray := prog_1_method_13_code
def yX10_run : MethodName := ⟨RX10, "run", "(II)J"⟩
abbrev cX10_would : ByteArray := prog_1_method_14_code
def yX10_would : MethodName := ⟨RX10, "would", "(III)J"⟩
abbrev cX10_row : ByteArray := prog_1_method_15_code
def yX10_row : MethodName := ⟨RX10, "row", "(I)I"⟩
abbrev cX10_clear : ByteArray := prog_1_method_16_code
def yX10_clear : MethodName := ⟨RX10, "clear", "()I"⟩
abbrev cX10_judge : ByteArray := prog_1_method_17_code
def yX10_judge : MethodName := ⟨RX10, "judge", "(I)I"⟩
abbrev cX10_judgeRow : ByteArray := prog_1_method_18_code
def yX10_judgeRow : MethodName := ⟨RX10, "judgeRow", "()V"⟩
abbrev cX10_noteVerdict : ByteArray := prog_1_method_19_code
def yX10_noteVerdict : MethodName := ⟨RX10, "noteVerdict", "(III)V"⟩
abbrev cX10_minutes : ByteArray := prog_1_method_20_code
def yX10_minutes : MethodName := ⟨RX10, "minutes", "()J"⟩
abbrev cX10_ever : ByteArray := prog_1_method_21_code
def yX10_ever : MethodName := ⟨RX10, "ever", "(I)I"⟩
abbrev cX10_fewest : ByteArray := prog_1_method_22_code
def yX10_fewest : MethodName := ⟨RX10, "fewest", "(III)I"⟩
abbrev cX10_lasts : ByteArray := prog_1_method_23_code
def yX10_lasts : MethodName := ⟨RX10, "lasts", "(III)I"⟩
abbrev cX10_best : ByteArray := prog_1_method_24_code
def yX10_best : MethodName := ⟨RX10, "best", "(II)I"⟩
abbrev cX10_gap : ByteArray := prog_1_method_25_code
def yX10_gap : MethodName := ⟨RX10, "gap", "(I)I"⟩
abbrev cX10_openCost : ByteArray := prog_1_method_26_code
def yX10_openCost : MethodName := ⟨RX10, "openCost", "(I)J"⟩
abbrev cX10_toll : ByteArray := prog_1_method_27_code
def yX10_toll : MethodName := ⟨RX10, "toll", "(III)J"⟩
abbrev cX10_tollCost : ByteArray := prog_1_method_28_code
def yX10_tollCost : MethodName := ⟨RX10, "tollCost", "(II)J"⟩
abbrev cX10_keep : ByteArray := prog_1_method_29_code
def yX10_keep : MethodName := ⟨RX10, "keep", "(I)I"⟩
abbrev cX10_careless : ByteArray := prog_1_method_30_code
def yX10_careless : MethodName := ⟨RX10, "careless", "(II)J"⟩
abbrev cX10_othersCost : ByteArray := prog_1_method_31_code
def yX10_othersCost : MethodName := ⟨RX10, "othersCost", "(IIIZ)J"⟩
abbrev cX10_each : ByteArray := prog_1_method_32_code
def yX10_each : MethodName := ⟨RX10, "each", "(II)J"⟩
abbrev cX10_hold : ByteArray := prog_1_method_33_code
def yX10_hold : MethodName := ⟨RX10, "hold", "(III)J"⟩
abbrev cX10_heldCost : ByteArray := prog_1_method_34_code
def yX10_heldCost : MethodName := ⟨RX10, "heldCost", "(III)J"⟩
abbrev cX10_who : ByteArray := prog_1_method_35_code
def yX10_who : MethodName := ⟨RX10, "who", "(I)I"⟩
abbrev cX10_more : ByteArray := prog_1_method_36_code
def yX10_more : MethodName := ⟨RX10, "more", "(II)J"⟩
abbrev cX10_newCost : ByteArray := prog_1_method_37_code
def yX10_newCost : MethodName := ⟨RX10, "newCost", "(II)J"⟩
abbrev cX10_which : ByteArray := prog_1_method_38_code
def yX10_which : MethodName := ⟨RX10, "which", "(I)I"⟩
abbrev cX10_men : ByteArray := prog_1_method_39_code
def yX10_men : MethodName := ⟨RX10, "men", "(II)J"⟩
abbrev cX10_mendedCost : ByteArray := prog_1_method_40_code
def yX10_mendedCost : MethodName := ⟨RX10, "mendedCost", "(II)J"⟩
abbrev cX10_beside : ByteArray := prog_1_method_41_code
def yX10_beside : MethodName := ⟨RX10, "beside", "(I)I"⟩
abbrev cX10_law : ByteArray := prog_1_method_42_code
def yX10_law : MethodName := ⟨RX10, "law", "(II)J"⟩
abbrev cX10_lawCost : ByteArray := prog_1_method_43_code
def yX10_lawCost : MethodName := ⟨RX10, "lawCost", "(II)J"⟩
abbrev cX10_other : ByteArray := prog_1_method_44_code
def yX10_other : MethodName := ⟨RX10, "other", "(I)I"⟩
abbrev cX10_fits : ByteArray := prog_1_method_45_code
def yX10_fits : MethodName := ⟨RX10, "fits", "(JI)I"⟩
abbrev cX10_afterKnown : ByteArray := prog_1_method_46_code
def yX10_afterKnown : MethodName := ⟨RX10, "afterKnown", "(III)I"⟩
abbrev cX10_seed : ByteArray := prog_1_method_47_code
def yX10_seed : MethodName := ⟨RX10, "seed", "(IIII)J"⟩
abbrev cX10_image : ByteArray := prog_1_method_48_code
def yX10_image : MethodName := ⟨RX10, "image", "()I"⟩
abbrev cX10_on : ByteArray := prog_1_method_49_code
def yX10_on : MethodName := ⟨RX10, "on", "()I"⟩
abbrev cX10_count : ByteArray := prog_1_method_50_code
def yX10_count : MethodName := ⟨RX10, "count", "(I)I"⟩
abbrev cX10_demand : ByteArray := prog_1_method_51_code
def yX10_demand : MethodName := ⟨RX10, "demand", "(Z)V"⟩
abbrev cX10_demandDays : ByteArray := prog_1_method_52_code
def yX10_demandDays : MethodName := ⟨RX10, "demandDays", "(I)V"⟩
abbrev cX10_demandRule : ByteArray := prog_1_method_53_code
def yX10_demandRule : MethodName := ⟨RX10, "demandRule", "(I)V"⟩
abbrev cX10_demandShut : ByteArray := prog_1_method_54_code
def yX10_demandShut : MethodName := ⟨RX10, "demandShut", "(I)V"⟩
abbrev cX10_demandRoad : ByteArray := prog_1_method_55_code
def yX10_demandRoad : MethodName := ⟨RX10, "demandRoad", "(I)V"⟩
abbrev cX10_demandGoing : ByteArray := prog_1_method_56_code
def yX10_demandGoing : MethodName := ⟨RX10, "demandGoing", "(I)V"⟩
abbrev cX10_demandRowFor : ByteArray := prog_1_method_57_code
def yX10_demandRowFor : MethodName := ⟨RX10, "demandRowFor", "(I)V"⟩
abbrev cX10_demandRow : ByteArray := prog_1_method_58_code
def yX10_demandRow : MethodName := ⟨RX10, "demandRow", "()V"⟩
def RX11 : String := "MendingRoadsModel"
def TX11 : u_T := fun k => match k with
  | 0 => ("MendingRoadsModel", "thrown", "I", false)
  | 1 => ("MendingRoadsModel", "tape", "I", false)
  | 2 => ("MendingRoadsModel", "size", "I", false)
  | 3 => ("MendingRoadsModel", "place", "I", false)
  | 4 => ("MendingRoadsModel", "at", "I", false)
  | 5 => ("MendingRoadsModel", "fault", "I", false)
  | 6 => ("MendingRoadsModel", "faultAt", "I", false)
  | 7 => ("MendingRoadsModel", "clauses", "I", false)
  | 8 => ("MendingRoadsModel", "fed", "[I", true)
  | 9 => ("MendingRoadsModel", "readTold", "[I", true)
  | 10 => ("MendingRoadsModel", "told", "[I", true)
  | 11 => ("MendingRoadsModel", "readWet", "[I", true)
  | 12 => ("MendingRoadsModel", "wet", "[I", true)
  | 13 => ("MendingRoadsModel", "readRoad", "[[I", true)
  | 14 => ("MendingRoadsModel", "road", "[[I", true)
  | 15 => ("MendingRoadsModel", "readMore", "[[I", true)
  | 16 => ("MendingRoadsModel", "more", "[[I", true)
  | 17 => ("MendingRoadsModel", "readGoing", "[[I", true)
  | 18 => ("MendingRoadsModel", "going", "[[I", true)
  | 19 => ("MendingRoadsModel", "today", "I", false)
  | 20 => ("MendingRoadsModel", "rows", "I", false)
  | 21 => ("MendingRoadsModel", "images", "I", false)
  | 22 => ("MendingRoadsModel", "spot", "I", false)
  | 23 => ("MendingRoadsModel", "wear", "[I", true)
  | 24 => ("MendingRoadsModel", "rested", "[I", true)
  | 25 => ("MendingRoadsModel", "row", "[I", true)
  | 26 => ("MendingRoadsModel", "kept", "[[I", true)
  | 27 => ("MendingRoadsModel", "w", "[I", true)
  | 28 => ("MendingRoadsModel", "\x72", "[I", true)
  | 29 => ("MendingRoadsModel", "load", "[I", true)
  | 30 => ("MendingRoadsModel", "roads", "I", false)
  | 31 => ("MendingRoadsModel", "restLaw", "I", false)
  | 32 => ("MendingRoadsModel", "dayNow", "I", false)
  | 33 => ("MendingRoadsModel", "dayFirst", "I", false)
  | 34 => ("MendingRoadsModel", "place7", "I", false)
  | 35 => ("MendingRoadsModel", "careless", "I", false)
  | 36 => ("MendingRoadsModel", "absent", "I", false)
  | 37 => ("MendingRoadsModel", "held", "I", false)
  | 38 => ("MendingRoadsModel", "heldBy", "I", false)
  | 39 => ("MendingRoadsModel", "toll", "I", false)
  | 40 => ("MendingRoadsModel", "lots", "I", false)
  | 41 => ("MendingRoadsModel", "seedNow", "I", false)
  | 42 => ("MendingRoadsModel", "dry", "Z", false)
  | 43 => ("MendingRoadsModel", "cost", "J", false)
  | 44 => ("MendingRoadsModel", "paid", "J", false)
  | 45 => ("MendingRoadsModel", "stays", "I", false)
  | 46 => ("MendingRoadsModel", "went", "I", false)
  | 47 => ("MendingRoadsModel", "firstStay", "I", false)
  | 48 => ("MendingRoadsModel", "least", "[I", true)
  | 49 => ("MendingRoadsModel", "path", "[I", true)
  | 50 => ("MendingRoadsModel", "pathLong", "I", false)
  | 51 => ("MendingRoadsModel", "pathMinutes", "I", false)
  | 52 => ("MendingRoadsModel", "aside", "I", false)
  | 53 => ("MendingRoadsModel", "stateW", "[J", true)
  | 54 => ("MendingRoadsModel", "stateR", "[J", true)
  | 55 => ("MendingRoadsModel", "roundFrom", "I", false)
  | 56 => ("MendingRoadsModel", "roundLong", "I", false)
  | 57 => ("MendingRoadsModel", "trouble", "I", false)
  | 58 => ("MendingRoadsModel", "bestCost", "J", false)
  | 59 => ("MendingRoadsModel", "bestFirst", "I", false)
  | 60 => ("MendingRoadsModel", "wearAt", "[[I", true)
  | _ => ("MendingRoadsModel", "restedAt", "[[I", true)
def tyX11 : Nat → FieldType := fun k => match k with
  | 0 => .int
  | 1 => .int
  | 2 => .int
  | 3 => .int
  | 4 => .int
  | 5 => .int
  | 6 => .int
  | 7 => .int
  | 8 => .array .int
  | 9 => .array .int
  | 10 => .array .int
  | 11 => .array .int
  | 12 => .array .int
  | 13 => .array (.array .int)
  | 14 => .array (.array .int)
  | 15 => .array (.array .int)
  | 16 => .array (.array .int)
  | 17 => .array (.array .int)
  | 18 => .array (.array .int)
  | 19 => .int
  | 20 => .int
  | 21 => .int
  | 22 => .int
  | 23 => .array .int
  | 24 => .array .int
  | 25 => .array .int
  | 26 => .array (.array .int)
  | 27 => .array .int
  | 28 => .array .int
  | 29 => .array .int
  | 30 => .int
  | 31 => .int
  | 32 => .int
  | 33 => .int
  | 34 => .int
  | 35 => .int
  | 36 => .int
  | 37 => .int
  | 38 => .int
  | 39 => .int
  | 40 => .int
  | 41 => .int
  | 42 => .boolean
  | 43 => .long
  | 44 => .long
  | 45 => .int
  | 46 => .int
  | 47 => .int
  | 48 => .array .int
  | 49 => .array .int
  | 50 => .int
  | 51 => .int
  | 52 => .int
  | 53 => .array .long
  | 54 => .array .long
  | 55 => .int
  | 56 => .int
  | 57 => .int
  | 58 => .long
  | 59 => .int
  | 60 => .array (.array .int)
  | _ => .array (.array .int)
theorem nmX11 : ∀ a, a < 62 → ∀ b, b < 62 → a ≠ b → (TX11 a).2.1 ≠ (TX11 b).2.1 := by decide +kernel
theorem tyX11_ok : ∀ k, k < 62 → parseFieldDescriptor (TX11 k).2.2.1 = some (tyX11 k) := by decide +kernel
abbrev cX11_init : ByteArray := prog_13_method_1_code
def yX11_init : MethodName := ⟨RX11, "<init>", "()V"⟩
abbrev cX11_thrown : ByteArray := prog_13_method_2_code
def yX11_thrown : MethodName := ⟨RX11, "thrown", "()I"⟩
abbrev cX11_bad : ByteArray := prog_13_method_3_code
def yX11_bad : MethodName := ⟨RX11, "bad", "(ZI)Z"⟩
abbrev cX11_in : ByteArray := prog_13_method_4_code
def yX11_in : MethodName := ⟨RX11, "in", "(III)Z"⟩
abbrev cX11_feed : ByteArray := prog_13_method_5_code
def yX11_feed : MethodName := ⟨RX11, "feed", "(IIIII)I"⟩
abbrev cX11_byteAt : ByteArray := prog_13_method_6_code
def yX11_byteAt : MethodName := ⟨RX11, "byteAt", "(I)I"⟩
abbrev cX11_blanks : ByteArray := prog_13_method_7_code
def yX11_blanks : MethodName := ⟨RX11, "blanks", "()V"⟩
abbrev cX11_wrong : ByteArray := prog_13_method_8_code
def yX11_wrong : MethodName := ⟨RX11, "wrong", "(II)V"⟩
abbrev cX11_isDigit : ByteArray := prog_13_method_9_code
def yX11_isDigit : MethodName := ⟨RX11, "isDigit", "(I)Z"⟩
abbrev cX11_number : ByteArray := prog_13_method_10_code
def yX11_number : MethodName := ⟨RX11, "number", "(III)I"⟩
abbrev cX11_wordHere : ByteArray := prog_13_method_11_code
def yX11_wordHere : MethodName := ⟨RX11, "wordHere", "()I"⟩
abbrev cX11_six : ByteArray := prog_13_method_12_code
def yX11_six : MethodName := ⟨RX11, "six", "(IIIIII)I"⟩
abbrev cX11_isWord : ByteArray := prog_13_method_13_code
def yX11_isWord : MethodName := ⟨RX11, "isWord", "(IIIIII)Z"⟩
abbrev cX11_sign : ByteArray := prog_13_method_14_code
def yX11_sign : MethodName := ⟨RX11, "sign", "(I)V"⟩
abbrev cX11_kindHere : ByteArray := prog_13_method_15_code
def yX11_kindHere : MethodName := ⟨RX11, "kindHere", "()I"⟩
abbrev cX11_mostOf : ByteArray := prog_13_method_16_code
def yX11_mostOf : MethodName := ⟨RX11, "mostOf", "(I)I"⟩
abbrev cX11_clause : ByteArray := prog_13_method_17_code
def yX11_clause : MethodName := ⟨RX11, "clause", "()V"⟩
abbrev cX11_readsRoad : ByteArray := prog_13_method_18_code
def yX11_readsRoad : MethodName := ⟨RX11, "readsRoad", "([I)V"⟩
abbrev cX11_readsGoing : ByteArray := prog_13_method_19_code
def yX11_readsGoing : MethodName := ⟨RX11, "readsGoing", "([I)V"⟩
abbrev cX11_readsWet : ByteArray := prog_13_method_20_code
def yX11_readsWet : MethodName := ⟨RX11, "readsWet", "()V"⟩
abbrev cX11_land : ByteArray := prog_13_method_21_code
def yX11_land : MethodName := ⟨RX11, "land", "(I)I"⟩
abbrev cX11_fault : ByteArray := prog_13_method_22_code
def yX11_fault : MethodName := ⟨RX11, "fault", "()I"⟩
abbrev cX11_told : ByteArray := prog_13_method_23_code
def yX11_told : MethodName := ⟨RX11, "told", "(I)I"⟩
abbrev cX11_isRoad : ByteArray := prog_13_method_24_code
def yX11_isRoad : MethodName := ⟨RX11, "isRoad", "(I)Z"⟩
abbrev cX11_road : ByteArray := prog_13_method_25_code
def yX11_road : MethodName := ⟨RX11, "road", "(II)I"⟩
abbrev cX11_isGoing : ByteArray := prog_13_method_26_code
def yX11_isGoing : MethodName := ⟨RX11, "isGoing", "(I)Z"⟩
abbrev cX11_going : ByteArray := prog_13_method_27_code
def yX11_going : MethodName := ⟨RX11, "going", "(II)I"⟩
abbrev cX11_minutesOf : ByteArray := prog_13_method_28_code
def yX11_minutesOf : MethodName := ⟨RX11, "minutesOf", "(I)I"⟩
abbrev cX11_isOpen : ByteArray := prog_13_method_29_code
def yX11_isOpen : MethodName := ⟨RX11, "isOpen", "(II)Z"⟩
abbrev cX11_farEnd : ByteArray := prog_13_method_30_code
def yX11_farEnd : MethodName := ⟨RX11, "farEnd", "(II)I"⟩
abbrev cX11_findWay : ByteArray := prog_13_method_31_code
def yX11_findWay : MethodName := ⟨RX11, "findWay", "(III)Z"⟩
abbrev cX11_lays : ByteArray := prog_13_method_32_code
def yX11_lays : MethodName := ⟨RX11, "lays", "()V"⟩
abbrev cX11_areRoads : ByteArray := prog_13_method_33_code
def yX11_areRoads : MethodName := ⟨RX11, "areRoads", "(I)Z"⟩
abbrev cX11_way : ByteArray := prog_13_method_34_code
def yX11_way : MethodName := ⟨RX11, "way", "(II)I"⟩
abbrev cX11_by : ByteArray := prog_13_method_35_code
def yX11_by : MethodName := ⟨RX11, "by", "(III)I"⟩
abbrev cX11_isOn : ByteArray := prog_13_method_36_code
def yX11_isOn : MethodName := ⟨RX11, "isOn", "(I)Z"⟩
abbrev cX11_allHave : ByteArray := prog_13_method_37_code
def yX11_allHave : MethodName := ⟨RX11, "allHave", "(I)Z"⟩
abbrev cX11_shutBy : ByteArray := prog_13_method_38_code
def yX11_shutBy : MethodName := ⟨RX11, "shutBy", "(I)I"⟩
abbrev cX11_goesByLot : ByteArray := prog_13_method_39_code
def yX11_goesByLot : MethodName := ⟨RX11, "goesByLot", "(I)Z"⟩
abbrev cX11_isWet : ByteArray := prog_13_method_40_code
def yX11_isWet : MethodName := ⟨RX11, "isWet", "()Z"⟩
abbrev cX11_goesBy : ByteArray := prog_13_method_41_code
def yX11_goesBy : MethodName := ⟨RX11, "goesBy", "(I)V"⟩
abbrev cX11_pastUse : ByteArray := prog_13_method_42_code
def yX11_pastUse : MethodName := ⟨RX11, "pastUse", "()I"⟩
abbrev cX11_goes : ByteArray := prog_13_method_43_code
def yX11_goes : MethodName := ⟨RX11, "goes", "(II)V"⟩
abbrev cX11_stands : ByteArray := prog_13_method_44_code
def yX11_stands : MethodName := ⟨RX11, "stands", "()V"⟩
abbrev cX11_shuts : ByteArray := prog_13_method_45_code
def yX11_shuts : MethodName := ⟨RX11, "shuts", "(I)I"⟩
abbrev cX11_day : ByteArray := prog_13_method_46_code
def yX11_day : MethodName := ⟨RX11, "day", "(I)I"⟩
abbrev cX11_areDays : ByteArray := prog_13_method_47_code
def yX11_areDays : MethodName := ⟨RX11, "areDays", "(I)Z"⟩
abbrev cX11_isRule : ByteArray := prog_13_method_48_code
def yX11_isRule : MethodName := ⟨RX11, "isRule", "(II)Z"⟩
abbrev cX11_run : ByteArray := prog_13_method_49_code
def yX11_run : MethodName := ⟨RX11, "run", "(II)J"⟩
abbrev cX11_would : ByteArray := prog_13_method_50_code
def yX11_would : MethodName := ⟨RX11, "would", "(III)J"⟩
abbrev cX11_row : ByteArray := prog_13_method_51_code
def yX11_row : MethodName := ⟨RX11, "row", "(I)I"⟩
abbrev cX11_clear : ByteArray := prog_13_method_52_code
def yX11_clear : MethodName := ⟨RX11, "clear", "()I"⟩
abbrev cX11_judge : ByteArray := prog_13_method_53_code
def yX11_judge : MethodName := ⟨RX11, "judge", "(I)I"⟩
abbrev cX11_minutes : ByteArray := prog_13_method_54_code
def yX11_minutes : MethodName := ⟨RX11, "minutes", "()J"⟩
abbrev cX11_keeps : ByteArray := prog_13_method_55_code
def yX11_keeps : MethodName := ⟨RX11, "keeps", "(I)V"⟩
abbrev cX11_findRound : ByteArray := prog_13_method_56_code
def yX11_findRound : MethodName := ⟨RX11, "findRound", "()V"⟩
abbrev cX11_ever : ByteArray := prog_13_method_57_code
def yX11_ever : MethodName := ⟨RX11, "ever", "(I)I"⟩
abbrev cX11_fewest : ByteArray := prog_13_method_58_code
def yX11_fewest : MethodName := ⟨RX11, "fewest", "(III)I"⟩
abbrev cX11_lasts : ByteArray := prog_13_method_59_code
def yX11_lasts : MethodName := ⟨RX11, "lasts", "(III)I"⟩
abbrev cX11_tries : ByteArray := prog_13_method_60_code
def yX11_tries : MethodName := ⟨RX11, "tries", "(II)V"⟩
abbrev cX11_findBest : ByteArray := prog_13_method_61_code
def yX11_findBest : MethodName := ⟨RX11, "findBest", "(I)V"⟩
abbrev cX11_best : ByteArray := prog_13_method_62_code
def yX11_best : MethodName := ⟨RX11, "best", "(II)I"⟩
abbrev cX11_gap : ByteArray := prog_13_method_63_code
def yX11_gap : MethodName := ⟨RX11, "gap", "(I)I"⟩
abbrev cX11_openCost : ByteArray := prog_13_method_64_code
def yX11_openCost : MethodName := ⟨RX11, "openCost", "(I)J"⟩
abbrev cX11_tollCost : ByteArray := prog_13_method_65_code
def yX11_tollCost : MethodName := ⟨RX11, "tollCost", "(II)J"⟩
abbrev cX11_toll : ByteArray := prog_13_method_66_code
def yX11_toll : MethodName := ⟨RX11, "toll", "(III)J"⟩
abbrev cX11_keep : ByteArray := prog_13_method_67_code
def yX11_keep : MethodName := ⟨RX11, "keep", "(I)I"⟩
abbrev cX11_othersCost : ByteArray := prog_13_method_68_code
def yX11_othersCost : MethodName := ⟨RX11, "othersCost", "(III)J"⟩
abbrev cX11_careless : ByteArray := prog_13_method_69_code
def yX11_careless : MethodName := ⟨RX11, "careless", "(II)J"⟩
abbrev cX11_each : ByteArray := prog_13_method_70_code
def yX11_each : MethodName := ⟨RX11, "each", "(II)J"⟩
abbrev cX11_heldCost : ByteArray := prog_13_method_71_code
def yX11_heldCost : MethodName := ⟨RX11, "heldCost", "(III)J"⟩
abbrev cX11_hold : ByteArray := prog_13_method_72_code
def yX11_hold : MethodName := ⟨RX11, "hold", "(III)J"⟩
abbrev cX11_who : ByteArray := prog_13_method_73_code
def yX11_who : MethodName := ⟨RX11, "who", "(I)I"⟩
abbrev cX11_moreCost : ByteArray := prog_13_method_74_code
def yX11_moreCost : MethodName := ⟨RX11, "moreCost", "(II)J"⟩
abbrev cX11_more : ByteArray := prog_13_method_75_code
def yX11_more : MethodName := ⟨RX11, "more", "(II)J"⟩
abbrev cX11_which : ByteArray := prog_13_method_76_code
def yX11_which : MethodName := ⟨RX11, "which", "(I)I"⟩
abbrev cX11_menCost : ByteArray := prog_13_method_77_code
def yX11_menCost : MethodName := ⟨RX11, "menCost", "(II)J"⟩
abbrev cX11_men : ByteArray := prog_13_method_78_code
def yX11_men : MethodName := ⟨RX11, "men", "(II)J"⟩
abbrev cX11_beside : ByteArray := prog_13_method_79_code
def yX11_beside : MethodName := ⟨RX11, "beside", "(I)I"⟩
abbrev cX11_lawCost : ByteArray := prog_13_method_80_code
def yX11_lawCost : MethodName := ⟨RX11, "lawCost", "(II)J"⟩
abbrev cX11_law : ByteArray := prog_13_method_81_code
def yX11_law : MethodName := ⟨RX11, "law", "(II)J"⟩
abbrev cX11_other : ByteArray := prog_13_method_82_code
def yX11_other : MethodName := ⟨RX11, "other", "(I)I"⟩
abbrev cX11_fits : ByteArray := prog_13_method_83_code
def yX11_fits : MethodName := ⟨RX11, "fits", "(JI)I"⟩
abbrev cX11_seed : ByteArray := prog_13_method_84_code
def yX11_seed : MethodName := ⟨RX11, "seed", "(IIII)J"⟩
abbrev cX11_moves : ByteArray := prog_13_method_85_code
def yX11_moves : MethodName := ⟨RX11, "moves", "([IIZ)I"⟩
abbrev cX11_movesAll : ByteArray := prog_13_method_86_code
def yX11_movesAll : MethodName := ⟨RX11, "movesAll", "([IZ)V"⟩
abbrev cX11_image : ByteArray := prog_13_method_87_code
def yX11_image : MethodName := ⟨RX11, "image", "()I"⟩
abbrev cX11_on : ByteArray := prog_13_method_88_code
def yX11_on : MethodName := ⟨RX11, "on", "()I"⟩
abbrev cX11_count : ByteArray := prog_13_method_89_code
def yX11_count : MethodName := ⟨RX11, "count", "(I)I"⟩
def RJx145de : String := "java/io/Serializable"
def TJx145de : u_T := fun k => match k with
  | _ => ("", "", "", false)
def tyJx145de : Nat → FieldType := fun k => match k with
  | _ => .int
def RJx9f9b0 : String := "java/lang/CharSequence"
def TJx9f9b0 : u_T := fun k => match k with
  | _ => ("", "", "", false)
def tyJx9f9b0 : Nat → FieldType := fun k => match k with
  | _ => .int
def RJxb160c : String := "java/lang/Comparable"
def TJxb160c : u_T := fun k => match k with
  | _ => ("", "", "", false)
def tyJxb160c : Nat → FieldType := fun k => match k with
  | _ => .int
def RJ9 : String := "java/lang/Math"
def TJ9 : u_T := fun k => match k with
  | _ => ("", "", "", false)
def tyJ9 : Nat → FieldType := fun k => match k with
  | _ => .int
abbrev cJ9_max_7cf53 : ByteArray := prog_21_method_65_code
def yJ9_max_7cf53 : MethodName := ⟨RJ9, "max", "(II)I"⟩
abbrev cJ9_min_7cf53 : ByteArray := prog_21_method_69_code
def yJ9_min_7cf53 : MethodName := ⟨RJ9, "min", "(II)I"⟩
def RJ0 : String := "java/lang/String"
def TJ0 : u_T := fun k => match k with
  | _ => ("", "", "", false)
def tyJ0 : Nat → FieldType := fun k => match k with
  | _ => .int
abbrev cJ0_length_8abf5 : ByteArray := prog_23_method_54_code
def yJ0_length_8abf5 : MethodName := ⟨RJ0, "length", "()I"⟩
abbrev cJ0_charAt_5068e : ByteArray := prog_23_method_56_code
def yJ0_charAt_5068e : MethodName := ⟨RJ0, "charAt", "(I)C"⟩
abbrev cJ0_coder_7d493 : ByteArray := prog_23_method_152_code
def yJ0_coder_7d493 : MethodName := ⟨RJ0, "coder", "()B"⟩
abbrev cJ0_isLatin1_aae02 : ByteArray := prog_23_method_154_code
def yJ0_isLatin1_aae02 : MethodName := ⟨RJ0, "isLatin1", "()Z"⟩
abbrev cJ0_checkIndex_df160 : ByteArray := prog_23_method_155_code
def yJ0_checkIndex_df160 : MethodName := ⟨RJ0, "checkIndex", "(II)V"⟩
def RJ1 : String := "java/lang/StringLatin1"
def TJ1 : u_T := fun k => match k with
  | _ => ("", "", "", false)
def tyJ1 : Nat → FieldType := fun k => match k with
  | _ => .int
abbrev cJ1_charAt_3b067 : ByteArray := prog_24_method_2_code
def yJ1_charAt_3b067 : MethodName := ⟨RJ1, "charAt", "([BI)C"⟩
def RJ2 : String := "java/lang/StringUTF16"
def TJ2 : u_T := fun k => match k with
  | _ => ("", "", "", false)
def tyJ2 : Nat → FieldType := fun k => match k with
  | _ => .int
abbrev cJ2_getChar_3b067 : ByteArray := prog_25_method_5_code
def yJ2_getChar_3b067 : MethodName := ⟨RJ2, "getChar", "([BI)C"⟩
abbrev cJ2_length_9d52b : ByteArray := prog_25_method_6_code
def yJ2_length_9d52b : MethodName := ⟨RJ2, "length", "([B)I"⟩
abbrev cJ2_charAt_3b067 : ByteArray := prog_25_method_83_code
def yJ2_charAt_3b067 : MethodName := ⟨RJ2, "charAt", "([BI)C"⟩
abbrev cJ2_checkIndex_2214a : ByteArray := prog_25_method_91_code
def yJ2_checkIndex_2214a : MethodName := ⟨RJ2, "checkIndex", "(I[B)V"⟩
def RJ10 : String := "java/lang/System"
def TJ10 : u_T := fun k => match k with
  | _ => ("", "", "", false)
def tyJ10 : Nat → FieldType := fun k => match k with
  | _ => .int
def RJxfd54e : String := "java/lang/constant/Constable"
def TJxfd54e : u_T := fun k => match k with
  | _ => ("", "", "", false)
def tyJxfd54e : Nat → FieldType := fun k => match k with
  | _ => .int
def RJx3cf43 : String := "java/lang/constant/ConstantDesc"
def TJx3cf43 : u_T := fun k => match k with
  | _ => ("", "", "", false)
def tyJx3cf43 : Nat → FieldType := fun k => match k with
  | _ => .int
def RJ3 : String := "jdk/internal/util/Preconditions"
def TJ3 : u_T := fun k => match k with
  | _ => ("", "", "", false)
def tyJ3 : Nat → FieldType := fun k => match k with
  | _ => .int
abbrev cJ3_checkIndex_8e157 : ByteArray := prog_31_method_11_code
def yJ3_checkIndex_8e157 : MethodName := ⟨RJ3, "checkIndex", "(IILjava/util/function/BiFunction;)I"⟩
def RL : String := "MendingRoadsLaw"
abbrev cL_land : ByteArray := method_3_code
def yL_land : MethodName := ⟨RL, "land", "(LMendingRoads;I[J)I"⟩
abbrev cL_told : ByteArray := method_4_code
def yL_told : MethodName := ⟨RL, "told", "(LMendingRoads;I[J)I"⟩
abbrev cL_road : ByteArray := method_5_code
def yL_road : MethodName := ⟨RL, "road", "(LMendingRoads;II[J)I"⟩
abbrev cL_going : ByteArray := method_6_code
def yL_going : MethodName := ⟨RL, "going", "(LMendingRoads;II[J)I"⟩
abbrev cL_way : ByteArray := method_7_code
def yL_way : MethodName := ⟨RL, "way", "(LMendingRoads;II[J)I"⟩
abbrev cL_by : ByteArray := method_8_code
def yL_by : MethodName := ⟨RL, "by", "(LMendingRoads;III[J)I"⟩
abbrev cL_shuts : ByteArray := method_9_code
def yL_shuts : MethodName := ⟨RL, "shuts", "(LMendingRoads;I[J)I"⟩
abbrev cL_day : ByteArray := method_10_code
def yL_day : MethodName := ⟨RL, "day", "(LMendingRoads;I[J)I"⟩
abbrev cL_run : ByteArray := method_11_code
def yL_run : MethodName := ⟨RL, "run", "(LMendingRoads;II[J)I"⟩
abbrev cL_would : ByteArray := method_12_code
def yL_would : MethodName := ⟨RL, "would", "(LMendingRoads;III[J)I"⟩
abbrev cL_row : ByteArray := method_13_code
def yL_row : MethodName := ⟨RL, "row", "(LMendingRoads;I[J)I"⟩
abbrev cL_judge : ByteArray := method_14_code
def yL_judge : MethodName := ⟨RL, "judge", "(LMendingRoads;I[J)I"⟩
abbrev cL_ever : ByteArray := method_15_code
def yL_ever : MethodName := ⟨RL, "ever", "(LMendingRoads;I[J)I"⟩
abbrev cL_fewest : ByteArray := method_16_code
def yL_fewest : MethodName := ⟨RL, "fewest", "(LMendingRoads;III[J)I"⟩
abbrev cL_lasts : ByteArray := method_17_code
def yL_lasts : MethodName := ⟨RL, "lasts", "(LMendingRoads;III[J)I"⟩
abbrev cL_best : ByteArray := method_18_code
def yL_best : MethodName := ⟨RL, "best", "(LMendingRoads;II[J)I"⟩
abbrev cL_gap : ByteArray := method_19_code
def yL_gap : MethodName := ⟨RL, "gap", "(LMendingRoads;I[J)I"⟩
abbrev cL_toll : ByteArray := method_20_code
def yL_toll : MethodName := ⟨RL, "toll", "(LMendingRoads;III[J)I"⟩
abbrev cL_keep : ByteArray := method_21_code
def yL_keep : MethodName := ⟨RL, "keep", "(LMendingRoads;I[J)I"⟩
abbrev cL_careless : ByteArray := method_22_code
def yL_careless : MethodName := ⟨RL, "careless", "(LMendingRoads;II[J)I"⟩
abbrev cL_each : ByteArray := method_23_code
def yL_each : MethodName := ⟨RL, "each", "(LMendingRoads;II[J)I"⟩
abbrev cL_hold : ByteArray := method_24_code
def yL_hold : MethodName := ⟨RL, "hold", "(LMendingRoads;III[J)I"⟩
abbrev cL_who : ByteArray := method_25_code
def yL_who : MethodName := ⟨RL, "who", "(LMendingRoads;I[J)I"⟩
abbrev cL_more : ByteArray := method_26_code
def yL_more : MethodName := ⟨RL, "more", "(LMendingRoads;II[J)I"⟩
abbrev cL_which : ByteArray := method_27_code
def yL_which : MethodName := ⟨RL, "which", "(LMendingRoads;I[J)I"⟩
abbrev cL_men : ByteArray := method_28_code
def yL_men : MethodName := ⟨RL, "men", "(LMendingRoads;II[J)I"⟩
abbrev cL_beside : ByteArray := method_29_code
def yL_beside : MethodName := ⟨RL, "beside", "(LMendingRoads;I[J)I"⟩
abbrev cL_law : ByteArray := method_30_code
def yL_law : MethodName := ⟨RL, "law", "(LMendingRoads;II[J)I"⟩
abbrev cL_other : ByteArray := method_31_code
def yL_other : MethodName := ⟨RL, "other", "(LMendingRoads;I[J)I"⟩
abbrev cL_fits : ByteArray := method_32_code
def yL_fits : MethodName := ⟨RL, "fits", "(LMendingRoads;JI[J)I"⟩
abbrev cL_seed : ByteArray := method_33_code
def yL_seed : MethodName := ⟨RL, "seed", "(LMendingRoads;IIII[J)I"⟩
abbrev cL_law_ : ByteArray := code
def yL_law_ : MethodName := ⟨RL, "law", "([I)Z"⟩
abbrev vwCl : List vw_C := [(RX0, TX0, 1), (RX1, TX1, 9), (RX2, TX2, 10), (RX3, TX3, 9), (RX4, TX4, 5), (RX5, TX5, 4), (RX6, TX6, 5), (RX7, TX7, 7), (RX8, TX8, 8), (RX9, TX9, 13), (RX10, TX10, 9), (RX11, TX11, 62)]
def zRn : Nat → String := fun c => match c with
  | 0 => RX0
  | 1 => RX1
  | 2 => RX2
  | 3 => RX3
  | 4 => RX4
  | 5 => RX5
  | 6 => RX6
  | 7 => RX7
  | 8 => RX8
  | 9 => RX9
  | 10 => RX10
  | _ => RX11
def zTb : Nat → u_T := fun c => match c with
  | 0 => TX0
  | 1 => TX1
  | 2 => TX2
  | 3 => TX3
  | 4 => TX4
  | 5 => TX5
  | 6 => TX6
  | 7 => TX7
  | 8 => TX8
  | 9 => TX9
  | 10 => TX10
  | _ => TX11
def zTy : Nat → (Nat → FieldType) := fun c => match c with
  | 0 => tyX0
  | 1 => tyX1
  | 2 => tyX2
  | 3 => tyX3
  | 4 => tyX4
  | 5 => tyX5
  | 6 => tyX6
  | 7 => tyX7
  | 8 => tyX8
  | 9 => tyX9
  | 10 => tyX10
  | _ => tyX11
def zNf : Nat → Nat := fun c => match c with
  | 0 => 1
  | 1 => 9
  | 2 => 10
  | 3 => 9
  | 4 => 5
  | 5 => 4
  | 6 => 5
  | 7 => 7
  | 8 => 8
  | 9 => 13
  | 10 => 9
  | _ => 62
def zNc : Nat := 12
end
section
/-- the words that every method's list holds: those of the tables that stay good -/
def zW : List Cond := lw_tbl.filter goodWord
theorem zW_tbl : ∀ w ∈ zW, w ∈ lw_tbl := fun w h => (List.mem_filter.mp h).1
theorem zW_good : ∀ w ∈ zW, goodWord w = true := fun w h => (List.mem_filter.mp h).2
theorem zW_of {w : Cond} (h : (decide (w ∈ lw_tbl) && goodWord w) = true) : w ∈ zW := by
  rw [Bool.and_eq_true] at h
  exact List.mem_filter.mpr ⟨of_decide_eq_true h.1, h.2⟩
theorem zW_all {l : List Cond} (h : l.all (fun w => decide (w ∈ lw_tbl) && goodWord w) = true) : ∀ w ∈ l, w ∈ zW := fun w hw => zW_of (List.all_eq_true.mp h w hw)
theorem zU0 : ∀ w ∈ u_ws RX0 TX0 1, w ∈ zW := zW_all (by decide +kernel)
theorem zU1 : ∀ w ∈ u_ws RX1 TX1 9, w ∈ zW := zW_all (by decide +kernel)
theorem zU2 : ∀ w ∈ u_ws RX2 TX2 10, w ∈ zW := zW_all (by decide +kernel)
theorem zU3 : ∀ w ∈ u_ws RX3 TX3 9, w ∈ zW := zW_all (by decide +kernel)
theorem zU4 : ∀ w ∈ u_ws RX4 TX4 5, w ∈ zW := zW_all (by decide +kernel)
theorem zU5 : ∀ w ∈ u_ws RX5 TX5 4, w ∈ zW := zW_all (by decide +kernel)
theorem zU6 : ∀ w ∈ u_ws RX6 TX6 5, w ∈ zW := zW_all (by decide +kernel)
theorem zU7 : ∀ w ∈ u_ws RX7 TX7 7, w ∈ zW := zW_all (by decide +kernel)
theorem zU8 : ∀ w ∈ u_ws RX8 TX8 8, w ∈ zW := zW_all (by decide +kernel)
theorem zU9 : ∀ w ∈ u_ws RX9 TX9 13, w ∈ zW := zW_all (by decide +kernel)
theorem zU10 : ∀ w ∈ u_ws RX10 TX10 9, w ∈ zW := zW_all (by decide +kernel)
theorem zU11 : ∀ w ∈ u_ws RX11 TX11 62, w ∈ zW := zW_all (by decide +kernel)
theorem zCl_at : ∀ (c : Nat), c < zNc → vwCl[c]? = some (zRn c, zTb c, zNf c)
  | 0, _ => rfl
  | 1, _ => rfl
  | 2, _ => rfl
  | 3, _ => rfl
  | 4, _ => rfl
  | 5, _ => rfl
  | 6, _ => rfl
  | 7, _ => rfl
  | 8, _ => rfl
  | 9, _ => rfl
  | 10, _ => rfl
  | 11, _ => rfl
  | c + 12, h => absurd h (by unfold zNc; omega)
theorem zCl_ws : ∀ (c : Nat), c < zNc → ∀ w ∈ u_ws (zRn c) (zTb c) (zNf c), w ∈ zW
  | 0, _ => zU0
  | 1, _ => zU1
  | 2, _ => zU2
  | 3, _ => zU3
  | 4, _ => zU4
  | 5, _ => zU5
  | 6, _ => zU6
  | 7, _ => zU7
  | 8, _ => zU8
  | 9, _ => zU9
  | 10, _ => zU10
  | 11, _ => zU11
  | c + 12, h => absurd h (by unfold zNc; omega)
theorem zCl_nm : ∀ (c : Nat), c < zNc → ∀ a, a < zNf c → ∀ b, b < zNf c → a ≠ b → (zTb c a).2.1 ≠ (zTb c b).2.1
  | 0, _ => nmX0
  | 1, _ => nmX1
  | 2, _ => nmX2
  | 3, _ => nmX3
  | 4, _ => nmX4
  | 5, _ => nmX5
  | 6, _ => nmX6
  | 7, _ => nmX7
  | 8, _ => nmX8
  | 9, _ => nmX9
  | 10, _ => nmX10
  | 11, _ => nmX11
  | c + 12, h => absurd h (by unfold zNc; omega)
theorem zCl_ty : ∀ (c : Nat), c < zNc → ∀ k, k < zNf c → parseFieldDescriptor (zTb c k).2.2.1 = some (zTy c k)
  | 0, _ => tyX0_ok
  | 1, _ => tyX1_ok
  | 2, _ => tyX2_ok
  | 3, _ => tyX3_ok
  | 4, _ => tyX4_ok
  | 5, _ => tyX5_ok
  | 6, _ => tyX6_ok
  | 7, _ => tyX7_ok
  | 8, _ => tyX8_ok
  | 9, _ => tyX9_ok
  | 10, _ => tyX10_ok
  | 11, _ => tyX11_ok
  | c + 12, h => absurd h (by unfold zNc; omega)
end
section
/-! ===== the abstract machine: ids for addresses (base b), contents as functions; zT: what cells there are and how they hang together, zH: the numbers ===== -/
abbrev zE : Type := va_G × ClassId × ClassId × ClassId × ClassId × State
abbrev zT : Type := (Nat × Bool) × (Nat → Nat × Nat) × (Nat → Nat → Option Nat)
abbrev zH : Type := (Nat → Nat → Int32) × (Nat → Nat → Int64)
def zK (t : zT) (i : Nat) : Nat × Nat := t.2.1 i
def zR (t : zT) (i k : Nat) : Option Nat := t.2.2 i k
def zI (h : zH) (i k : Nat) : Int32 := h.1 i k
def zL (h : zH) (i k : Nat) : Int64 := h.2 i k
/-- one number set -/
def zsI (h : zH) (i k : Nat) (v : Int32) : zH := (fun j q => if j = i ∧ q = k then v else h.1 j q, h.2)
def zsL (h : zH) (i k : Nat) (v : Int64) : zH := (h.1, fun j q => if j = i ∧ q = k then v else h.2 j q)
/-- a whole row set -/
def zrI (h : zH) (i : Nat) (f : Nat → Int32) : zH := (fun j => if j = i then f else h.1 j, h.2)
def zrL (h : zH) (i : Nat) (f : Nat → Int64) : zH := (h.1, fun j => if j = i then f else h.2 j)
def zsR (t : zT) (i k : Nat) (v : Option Nat) : zT := (t.1, t.2.1, fun j q => if j = i ∧ q = k then v else t.2.2 j q)
def zRv (b : Nat) (r : Option Nat) : Option Nat := r.map (fun j => b + j)
def zFv (b : Nat) (t : zT) (h : zH) (i k : Nat) (ty : FieldType) : Value := match ty with
  | .long => .long (zL h i k)
  | .object _ => va_rf (zRv b (zR t i k))
  | .array _ => va_rf (zRv b (zR t i k))
  | _ => .int (zI h i k)
def zFs (b : Nat) (t : zT) (h : zH) (i c : Nat) : List Value := (List.range (zNf c)).map (fun k => zFv b t h i k (zTy c k))
def zTys (E : zE) : List (ClassId × FieldType) := [(E.2.1, .int), (E.2.2.1, .long), (E.2.2.2.1, .object "MendingRoads$State"), (E.2.2.2.2.1, .array .int)]
def zEnt (E : zE) (b : Nat) (t : zT) (h : zH) (i : Nat) : va_E :=
  if (zK t i).1 = 12 then .inl (E.2.1, (zK t i).2, .inl (fun k => zI h i k))
  else if (zK t i).1 = 13 then .inl (E.2.2.1, (zK t i).2, .inr (.inl (fun k => zL h i k)))
  else if (zK t i).1 = 14 then .inl (E.2.2.2.1, (zK t i).2, .inr (.inr (.inr (.inr (fun k => zRv b (zR t i k))))))
  else if (zK t i).1 = 15 then .inl (E.2.2.2.2.1, (zK t i).2, .inr (.inr (.inr (.inr (fun k => zRv b (zR t i k))))))
  else .inr ((zK t i).1, zFs b t h i (zK t i).1)
def zEf (E : zE) (b : Nat) (t : zT) (h : zH) (a : Nat) : va_E := if a < b then .inr (0, []) else zEnt E b t h (a - b)
def zAd (b : Nat) (t : zT) : List Nat := ((List.range t.1.1).filter (fun i => decide ((zK t i).1 < 16))).map (fun i => b + i)
def zWd (E : zE) (b : Nat) (t : zT) (h : zH) : va_W := va_pl (zAd b t) (zEf E b t h)
def zHp (E : zE) (b : Nat) (t : zT) (h : zH) (H : Heap) : Prop := (b + t.1.1 ≤ H.size ∧ (t.1.2 = true → H.size = b + t.1.1)) ∧ (∀ i, (zK t i).1 < 16 → i < t.1.1) ∧ va_P E.1 vwCl (zWd E b t h) H
theorem zEf_at (E : zE) (b : Nat) (t : zT) (h : zH) (i : Nat) : zEf E b t h (b + i) = zEnt E b t h i := by
  unfold zEf
  rw [if_neg (by omega), Nat.add_sub_cancel_left]
theorem zAd_mem {b : Nat} {t : zT} {i : Nat} (hn : i < t.1.1) (hk : (zK t i).1 < 16) : b + i ∈ zAd b t :=
  List.mem_map.mpr ⟨i, List.mem_filter.mpr ⟨List.mem_range.mpr hn, decide_eq_true hk⟩, rfl⟩
theorem zWd_get {E : zE} {b : Nat} {t : zT} {h : zH} {i : Nat} (hn : i < t.1.1) (hk : (zK t i).1 < 16) : ∃ k : Nat, (zWd E b t h)[k]? = some (b + i, zEnt E b t h i) := by
  obtain ⟨k, q⟩ := va_pl_get (X := []) (f := zEf E b t h) (zAd_mem (b := b) hn hk)
  rw [zEf_at] at q
  exact ⟨k, q⟩
theorem zAd_nd (b : Nat) (t : zT) : (zAd b t).Nodup := by
  unfold zAd
  refine List.Pairwise.map _ (fun a c hac q => hac ?_) (List.Pairwise.filter _ List.nodup_range)
  omega
theorem zAd_ge {b : Nat} {t : zT} {a : Nat} (h : a ∈ zAd b t) : b ≤ a := by
  obtain ⟨i, -, rfl⟩ := List.mem_map.mp h
  omega
theorem zPl_D {L : List Nat} {f : Nat → va_E} {A : Nat → Prop} (hn : L.Nodup) (hA : ∀ a ∈ L, A a) : va_D A (va_pl L f) := by
  refine ⟨fun i j x y hi hj hxy => ?_, fun k q hk => ?_⟩
  · simp only [va_pl, List.getElem?_map, Option.map_eq_some_iff] at hi hj
    obtain ⟨u, hu, rfl⟩ := hi
    obtain ⟨v, hv, rfl⟩ := hj
    have huv : u = v := hxy
    subst huv
    obtain ⟨hi1, hi2⟩ := List.getElem?_eq_some_iff.mp hu
    obtain ⟨hj1, hj2⟩ := List.getElem?_eq_some_iff.mp hv
    exact (List.getElem_inj hn).mp (hi2.trans hj2.symm)
  · simp only [va_pl, List.getElem?_map, Option.map_eq_some_iff] at hk
    obtain ⟨u, hu, rfl⟩ := hk
    exact hA u (List.mem_of_getElem? hu)
theorem zWd_D (E : zE) (b : Nat) (t : zT) (h : zH) : va_D (fun q => b ≤ q) (zWd E b t h) := zPl_D (zAd_nd b t) (fun _ q => zAd_ge q)
/-- one cell's contents changed -/
theorem zWd_set {E : zE} {b : Nat} {t t' : zT} {h h' : zH} {i k : Nat} {e : va_E} (hn : i < t.1.1) (hk : (zK t i).1 < 16) (hg : (zWd E b t h)[k]? = some (b + i, zEnt E b t h i)) (ht : t'.1 = t.1) (htk : t'.2.1 = t.2.1) (he : zEnt E b t' h' i = e) (ho : ∀ j, j ≠ i → zEnt E b t' h' j = zEnt E b t h j) : (zWd E b t h).set k (b + i, e) = zWd E b t' h' := by
  have hD : va_D (fun q => b ≤ q) ([] ++ va_pl (zAd b t) (zEf E b t h)) := zWd_D E b t h
  have hg' : ([] ++ va_pl (zAd b t) (zEf E b t h))[k]? = some (b + i, zEf E b t h (b + i)) := by rw [zEf_at]; exact hg
  have h1 := va_pl_set (e := e) hD (zAd_mem (b := b) hn hk) hg'
  have h2 : zAd b t' = zAd b t := by unfold zAd zK; rw [ht, htk]
  show ([] ++ va_pl (zAd b t) (zEf E b t h)).set k (b + i, e) = va_pl (zAd b t') (zEf E b t' h')
  rw [h1, h2]
  show va_pl _ _ = va_pl _ _
  refine va_pl_congr (fun a => ?_)
  unfold va_up
  by_cases hc : a = b + i
  · rw [if_pos hc, hc, zEf_at, he]
  · rw [if_neg hc]
    unfold zEf
    by_cases hab : a < b
    · rw [if_pos hab, if_pos hab]
    · rw [if_neg hab, if_neg hab, ho _ (by omega)]
theorem zFs_at {b : Nat} {t : zT} {h : zH} {i c k : Nat} (hk : k < zNf c) : (zFs b t h i c)[k]? = some (zFv b t h i k (zTy c k)) := by
  unfold zFs
  rw [List.getElem?_map, List.getElem?_range hk]
  rfl
theorem zFs_len (b : Nat) (t : zT) (h : zH) (i c : Nat) : (zFs b t h i c).length = zNf c := by
  unfold zFs
  rw [List.length_map, List.length_range]
theorem zFs_set {b : Nat} {t t' : zT} {h h' : zH} {i c k : Nat} {v : Value} (hv : zFv b t' h' i k (zTy c k) = v) (ho : ∀ j, j ≠ k → zFv b t' h' i j (zTy c j) = zFv b t h i j (zTy c j)) : (zFs b t h i c).set k v = zFs b t' h' i c := by
  apply List.ext_getElem?
  intro j
  by_cases hj : j < zNf c
  · rw [zFs_at hj, List.getElem?_set]
    by_cases hkj : k = j
    · subst hkj
      rw [if_pos rfl, if_pos (by rw [zFs_len]; exact hj), hv]
    · rw [if_neg hkj, zFs_at hj, ho j (fun q => hkj q.symm)]
  · rw [List.getElem?_eq_none (by rw [List.length_set, zFs_len]; omega), List.getElem?_eq_none (by rw [zFs_len]; omega)]
theorem zEnt_obj {E : zE} {b : Nat} {t : zT} {h : zH} {i c n : Nat} (hK : zK t i = (c, n)) (hc : c < zNc) : zEnt E b t h i = .inr (c, zFs b t h i c) := by
  unfold zNc at hc
  unfold zEnt
  rw [hK]
  dsimp only
  rw [if_neg (by omega), if_neg (by omega), if_neg (by omega), if_neg (by omega)]
theorem zEnt_I {E : zE} {b : Nat} {t : zT} {h : zH} {i n : Nat} (hK : zK t i = (12, n)) : zEnt E b t h i = .inl (E.2.1, n, .inl (fun k => zI h i k)) := by
  unfold zEnt
  rw [hK]
  dsimp only
  rw [if_pos rfl]
theorem zEnt_L {E : zE} {b : Nat} {t : zT} {h : zH} {i n : Nat} (hK : zK t i = (13, n)) : zEnt E b t h i = .inl (E.2.2.1, n, .inr (.inl (fun k => zL h i k))) := by
  unfold zEnt
  rw [hK]
  dsimp only
  rw [if_neg (by omega), if_pos rfl]
theorem zEnt_S {E : zE} {b : Nat} {t : zT} {h : zH} {i n : Nat} (hK : zK t i = (14, n)) : zEnt E b t h i = .inl (E.2.2.2.1, n, .inr (.inr (.inr (.inr (fun k => zRv b (zR t i k)))))) := by
  unfold zEnt
  rw [hK]
  dsimp only
  rw [if_neg (by omega), if_neg (by omega), if_pos rfl]
theorem zEnt_A {E : zE} {b : Nat} {t : zT} {h : zH} {i n : Nat} (hK : zK t i = (15, n)) : zEnt E b t h i = .inl (E.2.2.2.2.1, n, .inr (.inr (.inr (.inr (fun k => zRv b (zR t i k)))))) := by
  unfold zEnt
  rw [hK]
  dsimp only
  rw [if_neg (by omega), if_neg (by omega), if_neg (by omega), if_pos rfl]
/-- entities elsewhere don't see a store -/
theorem zEnt_sI {E : zE} {b : Nat} {t : zT} {h : zH} {i k j : Nat} {v : Int32} (hj : j ≠ i) : zEnt E b t (zsI h i k v) j = zEnt E b t h j := by
  have hI : ∀ q, zI (zsI h i k v) j q = zI h j q := fun q => by
    show (if j = i ∧ q = k then v else h.1 j q) = h.1 j q
    rw [if_neg (fun x => hj x.1)]
  have hF : ∀ q ty, zFv b t (zsI h i k v) j q ty = zFv b t h j q ty := fun q ty => by
    unfold zFv
    split <;> first | rfl | rw [hI]
  unfold zEnt zFs
  simp only [hI, hF]
  rfl
theorem zEnt_sL {E : zE} {b : Nat} {t : zT} {h : zH} {i k j : Nat} {v : Int64} (hj : j ≠ i) : zEnt E b t (zsL h i k v) j = zEnt E b t h j := by
  have hI : ∀ q, zL (zsL h i k v) j q = zL h j q := fun q => by
    show (if j = i ∧ q = k then v else h.2 j q) = h.2 j q
    rw [if_neg (fun x => hj x.1)]
  have hF : ∀ q ty, zFv b t (zsL h i k v) j q ty = zFv b t h j q ty := fun q ty => by
    unfold zFv
    split <;> first | rfl | rw [hI]
  unfold zEnt zFs
  simp only [hI, hF]
  rfl
theorem zEnt_sR {E : zE} {b : Nat} {t : zT} {h : zH} {i k j : Nat} {v : Option Nat} (hj : j ≠ i) : zEnt E b (zsR t i k v) h j = zEnt E b t h j := by
  have hI : ∀ q, zR (zsR t i k v) j q = zR t j q := fun q => by
    show (if j = i ∧ q = k then v else t.2.2 j q) = t.2.2 j q
    rw [if_neg (fun x => hj x.1)]
  have hK : zK (zsR t i k v) j = zK t j := rfl
  have hF : ∀ q ty, zFv b (zsR t i k v) h j q ty = zFv b t h j q ty := fun q ty => by
    unfold zFv
    split <;> first | rfl | rw [hI]
  unfold zEnt zFs
  simp only [hI, hF, hK]
end
section
/-! ===== a method's body on the abstract machine ===== -/
abbrev zG : Type := Program × Launch × Env × Room × State × MethodId × Array Value × List Frame × Method × Code × (State → Prop)
/-- locals by their places -/
def zAs : Nat → List (Option Value) → List (Nat × Value)
  | _, [] => []
  | i, none :: r => zAs (i + 1) r
  | i, some v :: r => (i, v) :: zAs (i + 1) r
theorem zAs_mem : ∀ (ls : List (Option Value)) (i j : Nat) (v : Value), (j, v) ∈ zAs i ls ↔ ∃ k, j = i + k ∧ ls[k]? = some (some v)
  | [], i, j, v => by simp [zAs]
  | none :: r, i, j, v => by
    show (j, v) ∈ zAs (i + 1) r ↔ _
    rw [zAs_mem r (i + 1) j v]
    constructor
    · rintro ⟨k, h1, h2⟩
      exact ⟨k + 1, by omega, by simpa using h2⟩
    · rintro ⟨k, h1, h2⟩
      cases k with
      | zero => simp at h2
      | succ k => exact ⟨k, by omega, by simpa using h2⟩
  | some w :: r, i, j, v => by
    show (j, v) ∈ (i, w) :: zAs (i + 1) r ↔ _
    rw [List.mem_cons, zAs_mem r (i + 1) j v]
    constructor
    · rintro (h | ⟨k, h1, h2⟩)
      · cases h
        exact ⟨0, rfl, rfl⟩
      · exact ⟨k + 1, by omega, by simpa using h2⟩
    · rintro ⟨k, h1, h2⟩
      cases k with
      | zero =>
        left
        simp at h2
        rw [h1, h2]
        rfl
      | succ k => exact Or.inr ⟨k, by omega, by simpa using h2⟩
def zLs (la : Array Slot) (nL : Nat) (ls : List (Option Value)) : Prop := lv_has la nL (zAs 0 ls)
theorem zLs_at {la : Array Slot} {nL : Nat} {ls : List (Option Value)} (h : zLs la nL ls) {k : Nat} {v : Value} (hk : ls[k]? = some (some v)) : la[k]? = some (.val v) := h.2.2 (k, v) ((zAs_mem ls 0 k v).mpr ⟨k, by omega, hk⟩)
theorem zLs_sub {la : Array Slot} {nL : Nat} {ls ls' : List (Option Value)} (h : zLs la nL ls) (hs : ∀ (k : Nat) (v : Value), ls'[k]? = some (some v) → ls[k]? = some (some v)) : zLs la nL ls' := by
  refine ⟨h.1, h.2.1, fun q hq => ?_⟩
  obtain ⟨j, v⟩ := q
  obtain ⟨k, h1, h2⟩ := (zAs_mem ls' 0 j v).mp hq
  rw [Nat.zero_add] at h1
  subst h1
  exact zLs_at h (hs _ _ h2)
/-- the slot ahead doesn't hold the first half of what is overwritten -/
def zok (x : Option Value) : Bool := match x with
  | some (.long _) => false
  | some (.double _) => false
  | _ => true
theorem zok_cat {x : Option Value} {v : Value} (h : zok x = true) (hx : x = some v) : v.category ≠ 2 := by
  subst hx
  cases v <;> simp [zok, Value.category] at h ⊢
theorem zLs_st1 {la : Array Slot} {nL i : Nat} {v : Value} {ls : List (Option Value)} (h : lv_has la nL ((i, v) :: (zAs 0 ls).filter (fun q => !(q.1 == i) && !(q.1 + 1 == i && q.2.category == 2)))) (hp : ∀ j x, j + 1 = i → ls[j]? = some x → zok x = true) : zLs la nL (ls.set i (some v)) := by
  refine ⟨h.1, h.2.1, fun q hq => h.2.2 q ?_⟩
  obtain ⟨j, w⟩ := q
  obtain ⟨k, h1, h2⟩ := (zAs_mem _ 0 j w).mp hq
  rw [Nat.zero_add] at h1
  subst h1
  rw [List.getElem?_set] at h2
  by_cases hik : i = j
  · rw [if_pos hik] at h2
    split at h2
    · cases h2
      subst hik
      exact List.mem_cons_self
    · cases h2
  · rw [if_neg hik] at h2
    refine List.mem_cons_of_mem _ (List.mem_filter.mpr ⟨(zAs_mem ls 0 j w).mpr ⟨j, by omega, h2⟩, ?_⟩)
    simp only [Bool.and_eq_true, Bool.not_eq_true', beq_eq_false_iff_ne, Bool.and_eq_false_iff]
    refine ⟨fun q => hik q.symm, ?_⟩
    by_cases hj : j + 1 = i
    · exact Or.inr (zok_cat (hp j _ hj h2) rfl)
    · exact Or.inl hj
theorem zLs_st2 {la : Array Slot} {nL i : Nat} {v : Value} {ls : List (Option Value)} (h : lv_has la nL ((i, v) :: (zAs 0 ls).filter (fun q => !(q.1 == i) && (!(q.1 == i + 1) && !(q.1 + 1 == i && q.2.category == 2))))) (hp : ∀ j x, j + 1 = i → ls[j]? = some x → zok x = true) : zLs la nL ((ls.set i (some v)).set (i + 1) none) := by
  refine ⟨h.1, h.2.1, fun q hq => h.2.2 q ?_⟩
  obtain ⟨j, w⟩ := q
  obtain ⟨k, h1, h2⟩ := (zAs_mem _ 0 j w).mp hq
  rw [Nat.zero_add] at h1
  subst h1
  rw [List.getElem?_set] at h2
  by_cases hi1 : i + 1 = j
  · rw [if_pos hi1] at h2
    split at h2 <;> cases h2
  · rw [if_neg hi1, List.getElem?_set] at h2
    by_cases hik : i = j
    · rw [if_pos hik] at h2
      split at h2
      · cases h2
        subst hik
        exact List.mem_cons_self
      · cases h2
    · rw [if_neg hik] at h2
      refine List.mem_cons_of_mem _ (List.mem_filter.mpr ⟨(zAs_mem ls 0 j w).mpr ⟨j, by omega, h2⟩, ?_⟩)
      simp only [Bool.and_eq_true, Bool.not_eq_true', beq_eq_false_iff_ne, Bool.and_eq_false_iff]
      refine ⟨fun q => hik q.symm, fun q => hi1 q.symm, ?_⟩
      by_cases hj : j + 1 = i
      · exact Or.inr (zok_cat (hp j _ hj h2) rfl)
      · exact Or.inl hj
/-- the nest links of the claim (own class, pool place, method, host) -/
def zS0 (E : zE) : State := E.2.2.2.2.2
def zB (E : zE) (b : Nat) : Prop := b = (zS0 E).heap.size ∧ va_K E.1 vwCl (zTys E) (zS0 E) ∧ ∃ sb : Nat, (∀ w ∈ lw_tbl, w.before #[Value.ref sb] (zS0 E) = true) ∧ (Jvm.Cond.and given_1 narrow_1).before #[Value.ref sb] (zS0 E) = true
def zKs (E : zE) (b : Nat) (U : State) : Prop := zB E b ∧ (zS0 E).WarmedH U.vm ∧ ∀ q, q < b → U.heap[q]? = (zS0 E).heap[q]?
theorem zKs.K {E : zE} {b : Nat} {U : State} (h : zKs E b U) : va_K E.1 vwCl (zTys E) U := va_K.moved h.2.1.alike h.1.2.1
theorem zKs.go {E : zE} {b : Nat} {s U : State} (h : zKs E b s) (hW : s.WarmedH U.vm) (hq : ∀ q, q < b → U.heap[q]? = s.heap[q]?) : zKs E b U := ⟨h.1, State.WarmedH.trans h.2.1 hW, fun q hb => (hq q hb).trans (h.2.2 q hb)⟩
/-- what a method's body stands on -/
def zCx (E : zE) (b : Nat) (G : zG) (own : String) (cc : ByteArray) (nL : Nat) (rt : Option FieldType) : Prop := match G with
  | (p, _, _, _, s, m, args, _, meth, c, _) => p.tables.exec = Jvm.exec ∧ c.code = cc ∧ c.maxLocals = nL ∧ s.vm.findClass own = some m.cls ∧ (∀ w ∈ zW, w.before args s = true) ∧ meth.sig.returnType = rt ∧ meth.locks = false ∧ zKs E b s ∧ b ≤ s.heap.size
def zAW (E : zE) (b : Nat) (G : zG) (nL cells slots pc : Nat) (ls : List (Option Value)) (st : List Value) (t : zT) (h : zH) : Prop := match G with
  | (p, l, e, R, s, m, args, below, meth, c, Q) => ∀ (H : Heap) (locs : List Loc) (la : Array Slot), zHp E b t h H → va_S (fun q => b ≤ q) s.heap H locs → zLs la nL ls → W p l e R s m args below meth c H locs cells slots Q (F0 m pc la st)
end
section
theorem zz_iadd {E : zE} {b : Nat} {G : zG} {own : String} {cc : ByteArray} {nL : Nat} {rt : Option FieldType} {cells slots pc : Nat} {t : zT} {h : zH} {ls : List (Option Value)} {st : List Value} (C : zCx E b G own cc nL rt) {x y : Int32} (hd : decode cc pc = .ok (.iadd, 1))  (kk : zAW E b G nL cells slots (pc + 1) ls (.int (x + y) :: st) t h) : zAW E b G nL cells slots pc ls (.int y :: .int x :: st) t h := by
  obtain ⟨p, l, e, R, s, m, args, below, meth, c, Q⟩ := G
  intro H locs la hH hS hl
  exact lv_iadd C.1 C.2.1 hd  (kk H locs la hH hS hl)
theorem zz_isub {E : zE} {b : Nat} {G : zG} {own : String} {cc : ByteArray} {nL : Nat} {rt : Option FieldType} {cells slots pc : Nat} {t : zT} {h : zH} {ls : List (Option Value)} {st : List Value} (C : zCx E b G own cc nL rt) {x y : Int32} (hd : decode cc pc = .ok (.isub, 1))  (kk : zAW E b G nL cells slots (pc + 1) ls (.int (x - y) :: st) t h) : zAW E b G nL cells slots pc ls (.int y :: .int x :: st) t h := by
  obtain ⟨p, l, e, R, s, m, args, below, meth, c, Q⟩ := G
  intro H locs la hH hS hl
  exact lv_isub C.1 C.2.1 hd  (kk H locs la hH hS hl)
theorem zz_imul {E : zE} {b : Nat} {G : zG} {own : String} {cc : ByteArray} {nL : Nat} {rt : Option FieldType} {cells slots pc : Nat} {t : zT} {h : zH} {ls : List (Option Value)} {st : List Value} (C : zCx E b G own cc nL rt) {x y : Int32} (hd : decode cc pc = .ok (.imul, 1))  (kk : zAW E b G nL cells slots (pc + 1) ls (.int (x * y) :: st) t h) : zAW E b G nL cells slots pc ls (.int y :: .int x :: st) t h := by
  obtain ⟨p, l, e, R, s, m, args, below, meth, c, Q⟩ := G
  intro H locs la hH hS hl
  exact lv_imul C.1 C.2.1 hd  (kk H locs la hH hS hl)
theorem zz_iand {E : zE} {b : Nat} {G : zG} {own : String} {cc : ByteArray} {nL : Nat} {rt : Option FieldType} {cells slots pc : Nat} {t : zT} {h : zH} {ls : List (Option Value)} {st : List Value} (C : zCx E b G own cc nL rt) {x y : Int32} (hd : decode cc pc = .ok (.iand, 1))  (kk : zAW E b G nL cells slots (pc + 1) ls (.int (x &&& y) :: st) t h) : zAW E b G nL cells slots pc ls (.int y :: .int x :: st) t h := by
  obtain ⟨p, l, e, R, s, m, args, below, meth, c, Q⟩ := G
  intro H locs la hH hS hl
  exact lv_iand C.1 C.2.1 hd  (kk H locs la hH hS hl)
theorem zz_ior {E : zE} {b : Nat} {G : zG} {own : String} {cc : ByteArray} {nL : Nat} {rt : Option FieldType} {cells slots pc : Nat} {t : zT} {h : zH} {ls : List (Option Value)} {st : List Value} (C : zCx E b G own cc nL rt) {x y : Int32} (hd : decode cc pc = .ok (.ior, 1))  (kk : zAW E b G nL cells slots (pc + 1) ls (.int (x ||| y) :: st) t h) : zAW E b G nL cells slots pc ls (.int y :: .int x :: st) t h := by
  obtain ⟨p, l, e, R, s, m, args, below, meth, c, Q⟩ := G
  intro H locs la hH hS hl
  exact lv_ior C.1 C.2.1 hd  (kk H locs la hH hS hl)
theorem zz_ixor {E : zE} {b : Nat} {G : zG} {own : String} {cc : ByteArray} {nL : Nat} {rt : Option FieldType} {cells slots pc : Nat} {t : zT} {h : zH} {ls : List (Option Value)} {st : List Value} (C : zCx E b G own cc nL rt) {x y : Int32} (hd : decode cc pc = .ok (.ixor, 1))  (kk : zAW E b G nL cells slots (pc + 1) ls (.int (x ^^^ y) :: st) t h) : zAW E b G nL cells slots pc ls (.int y :: .int x :: st) t h := by
  obtain ⟨p, l, e, R, s, m, args, below, meth, c, Q⟩ := G
  intro H locs la hH hS hl
  exact lv_ixor C.1 C.2.1 hd  (kk H locs la hH hS hl)
theorem zz_ladd {E : zE} {b : Nat} {G : zG} {own : String} {cc : ByteArray} {nL : Nat} {rt : Option FieldType} {cells slots pc : Nat} {t : zT} {h : zH} {ls : List (Option Value)} {st : List Value} (C : zCx E b G own cc nL rt) {x y : Int64} (hd : decode cc pc = .ok (.ladd, 1))  (kk : zAW E b G nL cells slots (pc + 1) ls (.long (x + y) :: st) t h) : zAW E b G nL cells slots pc ls (.long y :: .long x :: st) t h := by
  obtain ⟨p, l, e, R, s, m, args, below, meth, c, Q⟩ := G
  intro H locs la hH hS hl
  exact lv_ladd C.1 C.2.1 hd  (kk H locs la hH hS hl)
theorem zz_lsub {E : zE} {b : Nat} {G : zG} {own : String} {cc : ByteArray} {nL : Nat} {rt : Option FieldType} {cells slots pc : Nat} {t : zT} {h : zH} {ls : List (Option Value)} {st : List Value} (C : zCx E b G own cc nL rt) {x y : Int64} (hd : decode cc pc = .ok (.lsub, 1))  (kk : zAW E b G nL cells slots (pc + 1) ls (.long (x - y) :: st) t h) : zAW E b G nL cells slots pc ls (.long y :: .long x :: st) t h := by
  obtain ⟨p, l, e, R, s, m, args, below, meth, c, Q⟩ := G
  intro H locs la hH hS hl
  exact lv_lsub C.1 C.2.1 hd  (kk H locs la hH hS hl)
theorem zz_lmul {E : zE} {b : Nat} {G : zG} {own : String} {cc : ByteArray} {nL : Nat} {rt : Option FieldType} {cells slots pc : Nat} {t : zT} {h : zH} {ls : List (Option Value)} {st : List Value} (C : zCx E b G own cc nL rt) {x y : Int64} (hd : decode cc pc = .ok (.lmul, 1))  (kk : zAW E b G nL cells slots (pc + 1) ls (.long (x * y) :: st) t h) : zAW E b G nL cells slots pc ls (.long y :: .long x :: st) t h := by
  obtain ⟨p, l, e, R, s, m, args, below, meth, c, Q⟩ := G
  intro H locs la hH hS hl
  exact lv_lmul C.1 C.2.1 hd  (kk H locs la hH hS hl)
theorem zz_land {E : zE} {b : Nat} {G : zG} {own : String} {cc : ByteArray} {nL : Nat} {rt : Option FieldType} {cells slots pc : Nat} {t : zT} {h : zH} {ls : List (Option Value)} {st : List Value} (C : zCx E b G own cc nL rt) {x y : Int64} (hd : decode cc pc = .ok (.land, 1))  (kk : zAW E b G nL cells slots (pc + 1) ls (.long (x &&& y) :: st) t h) : zAW E b G nL cells slots pc ls (.long y :: .long x :: st) t h := by
  obtain ⟨p, l, e, R, s, m, args, below, meth, c, Q⟩ := G
  intro H locs la hH hS hl
  exact lv_land C.1 C.2.1 hd  (kk H locs la hH hS hl)
theorem zz_lor {E : zE} {b : Nat} {G : zG} {own : String} {cc : ByteArray} {nL : Nat} {rt : Option FieldType} {cells slots pc : Nat} {t : zT} {h : zH} {ls : List (Option Value)} {st : List Value} (C : zCx E b G own cc nL rt) {x y : Int64} (hd : decode cc pc = .ok (.lor, 1))  (kk : zAW E b G nL cells slots (pc + 1) ls (.long (x ||| y) :: st) t h) : zAW E b G nL cells slots pc ls (.long y :: .long x :: st) t h := by
  obtain ⟨p, l, e, R, s, m, args, below, meth, c, Q⟩ := G
  intro H locs la hH hS hl
  exact lv_lor C.1 C.2.1 hd  (kk H locs la hH hS hl)
theorem zz_idiv {E : zE} {b : Nat} {G : zG} {own : String} {cc : ByteArray} {nL : Nat} {rt : Option FieldType} {cells slots pc : Nat} {t : zT} {h : zH} {ls : List (Option Value)} {st : List Value} (C : zCx E b G own cc nL rt) {x y : Int32} (hd : decode cc pc = .ok (.idiv, 1)) (hne : ¬ y = 0) (kk : zAW E b G nL cells slots (pc + 1) ls (.int (x / y) :: st) t h) : zAW E b G nL cells slots pc ls (.int y :: .int x :: st) t h := by
  obtain ⟨p, l, e, R, s, m, args, below, meth, c, Q⟩ := G
  intro H locs la hH hS hl
  exact lv_idiv C.1 C.2.1 hd hne (kk H locs la hH hS hl)
theorem zz_irem {E : zE} {b : Nat} {G : zG} {own : String} {cc : ByteArray} {nL : Nat} {rt : Option FieldType} {cells slots pc : Nat} {t : zT} {h : zH} {ls : List (Option Value)} {st : List Value} (C : zCx E b G own cc nL rt) {x y : Int32} (hd : decode cc pc = .ok (.irem, 1)) (hne : ¬ y = 0) (kk : zAW E b G nL cells slots (pc + 1) ls (.int (x - x / y * y) :: st) t h) : zAW E b G nL cells slots pc ls (.int y :: .int x :: st) t h := by
  obtain ⟨p, l, e, R, s, m, args, below, meth, c, Q⟩ := G
  intro H locs la hH hS hl
  exact lv_irem C.1 C.2.1 hd hne (kk H locs la hH hS hl)
theorem zz_ldiv {E : zE} {b : Nat} {G : zG} {own : String} {cc : ByteArray} {nL : Nat} {rt : Option FieldType} {cells slots pc : Nat} {t : zT} {h : zH} {ls : List (Option Value)} {st : List Value} (C : zCx E b G own cc nL rt) {x y : Int64} (hd : decode cc pc = .ok (.ldiv, 1)) (hne : ¬ y = 0) (kk : zAW E b G nL cells slots (pc + 1) ls (.long (x / y) :: st) t h) : zAW E b G nL cells slots pc ls (.long y :: .long x :: st) t h := by
  obtain ⟨p, l, e, R, s, m, args, below, meth, c, Q⟩ := G
  intro H locs la hH hS hl
  exact lv_ldiv C.1 C.2.1 hd hne (kk H locs la hH hS hl)
theorem zz_lrem {E : zE} {b : Nat} {G : zG} {own : String} {cc : ByteArray} {nL : Nat} {rt : Option FieldType} {cells slots pc : Nat} {t : zT} {h : zH} {ls : List (Option Value)} {st : List Value} (C : zCx E b G own cc nL rt) {x y : Int64} (hd : decode cc pc = .ok (.lrem, 1)) (hne : ¬ y = 0) (kk : zAW E b G nL cells slots (pc + 1) ls (.long (x - x / y * y) :: st) t h) : zAW E b G nL cells slots pc ls (.long y :: .long x :: st) t h := by
  obtain ⟨p, l, e, R, s, m, args, below, meth, c, Q⟩ := G
  intro H locs la hH hS hl
  exact lv_lrem C.1 C.2.1 hd hne (kk H locs la hH hS hl)
theorem zz_ishl {E : zE} {b : Nat} {G : zG} {own : String} {cc : ByteArray} {nL : Nat} {rt : Option FieldType} {cells slots pc : Nat} {t : zT} {h : zH} {ls : List (Option Value)} {st : List Value} (C : zCx E b G own cc nL rt) {x y : Int32} (hd : decode cc pc = .ok (.ishl, 1))  (kk : zAW E b G nL cells slots (pc + 1) ls (.int (x <<< (y &&& 31)) :: st) t h) : zAW E b G nL cells slots pc ls (.int y :: .int x :: st) t h := by
  obtain ⟨p, l, e, R, s, m, args, below, meth, c, Q⟩ := G
  intro H locs la hH hS hl
  exact lv_ishl C.1 C.2.1 hd  (kk H locs la hH hS hl)
theorem zz_ishr {E : zE} {b : Nat} {G : zG} {own : String} {cc : ByteArray} {nL : Nat} {rt : Option FieldType} {cells slots pc : Nat} {t : zT} {h : zH} {ls : List (Option Value)} {st : List Value} (C : zCx E b G own cc nL rt) {x y : Int32} (hd : decode cc pc = .ok (.ishr, 1))  (kk : zAW E b G nL cells slots (pc + 1) ls (.int (x >>> (y &&& 31)) :: st) t h) : zAW E b G nL cells slots pc ls (.int y :: .int x :: st) t h := by
  obtain ⟨p, l, e, R, s, m, args, below, meth, c, Q⟩ := G
  intro H locs la hH hS hl
  exact lv_ishr C.1 C.2.1 hd  (kk H locs la hH hS hl)
theorem zz_iushr {E : zE} {b : Nat} {G : zG} {own : String} {cc : ByteArray} {nL : Nat} {rt : Option FieldType} {cells slots pc : Nat} {t : zT} {h : zH} {ls : List (Option Value)} {st : List Value} (C : zCx E b G own cc nL rt) {x y : Int32} (hd : decode cc pc = .ok (.iushr, 1))  (kk : zAW E b G nL cells slots (pc + 1) ls (.int ((x.toUInt32 >>> (y.toUInt32 &&& Int32.toUInt32 31)).toInt32) :: st) t h) : zAW E b G nL cells slots pc ls (.int y :: .int x :: st) t h := by
  obtain ⟨p, l, e, R, s, m, args, below, meth, c, Q⟩ := G
  intro H locs la hH hS hl
  exact lv_iushr C.1 C.2.1 hd rfl (kk H locs la hH hS hl)
theorem zz_lshl {E : zE} {b : Nat} {G : zG} {own : String} {cc : ByteArray} {nL : Nat} {rt : Option FieldType} {cells slots pc : Nat} {t : zT} {h : zH} {ls : List (Option Value)} {st : List Value} (C : zCx E b G own cc nL rt) {x : Int64} {y : Int32} (hd : decode cc pc = .ok (.lshl, 1))  (kk : zAW E b G nL cells slots (pc + 1) ls (.long (x <<< (y.toInt64 &&& 63)) :: st) t h) : zAW E b G nL cells slots pc ls (.int y :: .long x :: st) t h := by
  obtain ⟨p, l, e, R, s, m, args, below, meth, c, Q⟩ := G
  intro H locs la hH hS hl
  exact lv_lshl C.1 C.2.1 hd rfl (kk H locs la hH hS hl)
theorem zz_i2l {E : zE} {b : Nat} {G : zG} {own : String} {cc : ByteArray} {nL : Nat} {rt : Option FieldType} {cells slots pc : Nat} {t : zT} {h : zH} {ls : List (Option Value)} {st : List Value} (C : zCx E b G own cc nL rt) {x : Int32} (hd : decode cc pc = .ok (.i2l, 1))  (kk : zAW E b G nL cells slots (pc + 1) ls (.long x.toInt64 :: st) t h) : zAW E b G nL cells slots pc ls (.int x :: st) t h := by
  obtain ⟨p, l, e, R, s, m, args, below, meth, c, Q⟩ := G
  intro H locs la hH hS hl
  exact lv_i2l C.1 C.2.1 hd rfl (kk H locs la hH hS hl)
theorem zz_l2i {E : zE} {b : Nat} {G : zG} {own : String} {cc : ByteArray} {nL : Nat} {rt : Option FieldType} {cells slots pc : Nat} {t : zT} {h : zH} {ls : List (Option Value)} {st : List Value} (C : zCx E b G own cc nL rt) {x : Int64} (hd : decode cc pc = .ok (.l2i, 1))  (kk : zAW E b G nL cells slots (pc + 1) ls (.int x.toInt32 :: st) t h) : zAW E b G nL cells slots pc ls (.long x :: st) t h := by
  obtain ⟨p, l, e, R, s, m, args, below, meth, c, Q⟩ := G
  intro H locs la hH hS hl
  exact lv_l2i C.1 C.2.1 hd rfl (kk H locs la hH hS hl)
theorem zz_lcmp {E : zE} {b : Nat} {G : zG} {own : String} {cc : ByteArray} {nL : Nat} {rt : Option FieldType} {cells slots pc : Nat} {t : zT} {h : zH} {ls : List (Option Value)} {st : List Value} (C : zCx E b G own cc nL rt) {x y : Int64} (hd : decode cc pc = .ok (.lcmp, 1))  (kk : zAW E b G nL cells slots (pc + 1) ls (.int (lg_cmp x y) :: st) t h) : zAW E b G nL cells slots pc ls (.long y :: .long x :: st) t h := by
  obtain ⟨p, l, e, R, s, m, args, below, meth, c, Q⟩ := G
  intro H locs la hH hS hl
  exact W.lcmp C.1 C.2.1 hd  (kk H locs la hH hS hl)
theorem zz_iconst_m1 {E : zE} {b : Nat} {G : zG} {own : String} {cc : ByteArray} {nL : Nat} {rt : Option FieldType} {cells slots pc : Nat} {t : zT} {h : zH} {ls : List (Option Value)} {st : List Value} (C : zCx E b G own cc nL rt)  (hd : decode cc pc = .ok (.iconst (-1), 1))  (kk : zAW E b G nL cells slots (pc + 1) ls (.int (-1) :: st) t h) : zAW E b G nL cells slots pc ls (st) t h := by
  obtain ⟨p, l, e, R, s, m, args, below, meth, c, Q⟩ := G
  intro H locs la hH hS hl
  exact lv_iconst C.1 C.2.1 hd (by decide) (kk H locs la hH hS hl)
theorem zz_iconst_0 {E : zE} {b : Nat} {G : zG} {own : String} {cc : ByteArray} {nL : Nat} {rt : Option FieldType} {cells slots pc : Nat} {t : zT} {h : zH} {ls : List (Option Value)} {st : List Value} (C : zCx E b G own cc nL rt)  (hd : decode cc pc = .ok (.iconst 0, 1))  (kk : zAW E b G nL cells slots (pc + 1) ls (.int 0 :: st) t h) : zAW E b G nL cells slots pc ls (st) t h := by
  obtain ⟨p, l, e, R, s, m, args, below, meth, c, Q⟩ := G
  intro H locs la hH hS hl
  exact lv_iconst C.1 C.2.1 hd (by decide) (kk H locs la hH hS hl)
theorem zz_iconst_1 {E : zE} {b : Nat} {G : zG} {own : String} {cc : ByteArray} {nL : Nat} {rt : Option FieldType} {cells slots pc : Nat} {t : zT} {h : zH} {ls : List (Option Value)} {st : List Value} (C : zCx E b G own cc nL rt)  (hd : decode cc pc = .ok (.iconst 1, 1))  (kk : zAW E b G nL cells slots (pc + 1) ls (.int 1 :: st) t h) : zAW E b G nL cells slots pc ls (st) t h := by
  obtain ⟨p, l, e, R, s, m, args, below, meth, c, Q⟩ := G
  intro H locs la hH hS hl
  exact lv_iconst C.1 C.2.1 hd (by decide) (kk H locs la hH hS hl)
theorem zz_iconst_2 {E : zE} {b : Nat} {G : zG} {own : String} {cc : ByteArray} {nL : Nat} {rt : Option FieldType} {cells slots pc : Nat} {t : zT} {h : zH} {ls : List (Option Value)} {st : List Value} (C : zCx E b G own cc nL rt)  (hd : decode cc pc = .ok (.iconst 2, 1))  (kk : zAW E b G nL cells slots (pc + 1) ls (.int 2 :: st) t h) : zAW E b G nL cells slots pc ls (st) t h := by
  obtain ⟨p, l, e, R, s, m, args, below, meth, c, Q⟩ := G
  intro H locs la hH hS hl
  exact lv_iconst C.1 C.2.1 hd (by decide) (kk H locs la hH hS hl)
theorem zz_iconst_3 {E : zE} {b : Nat} {G : zG} {own : String} {cc : ByteArray} {nL : Nat} {rt : Option FieldType} {cells slots pc : Nat} {t : zT} {h : zH} {ls : List (Option Value)} {st : List Value} (C : zCx E b G own cc nL rt)  (hd : decode cc pc = .ok (.iconst 3, 1))  (kk : zAW E b G nL cells slots (pc + 1) ls (.int 3 :: st) t h) : zAW E b G nL cells slots pc ls (st) t h := by
  obtain ⟨p, l, e, R, s, m, args, below, meth, c, Q⟩ := G
  intro H locs la hH hS hl
  exact lv_iconst C.1 C.2.1 hd (by decide) (kk H locs la hH hS hl)
theorem zz_iconst_4 {E : zE} {b : Nat} {G : zG} {own : String} {cc : ByteArray} {nL : Nat} {rt : Option FieldType} {cells slots pc : Nat} {t : zT} {h : zH} {ls : List (Option Value)} {st : List Value} (C : zCx E b G own cc nL rt)  (hd : decode cc pc = .ok (.iconst 4, 1))  (kk : zAW E b G nL cells slots (pc + 1) ls (.int 4 :: st) t h) : zAW E b G nL cells slots pc ls (st) t h := by
  obtain ⟨p, l, e, R, s, m, args, below, meth, c, Q⟩ := G
  intro H locs la hH hS hl
  exact lv_iconst C.1 C.2.1 hd (by decide) (kk H locs la hH hS hl)
theorem zz_iconst_5 {E : zE} {b : Nat} {G : zG} {own : String} {cc : ByteArray} {nL : Nat} {rt : Option FieldType} {cells slots pc : Nat} {t : zT} {h : zH} {ls : List (Option Value)} {st : List Value} (C : zCx E b G own cc nL rt)  (hd : decode cc pc = .ok (.iconst 5, 1))  (kk : zAW E b G nL cells slots (pc + 1) ls (.int 5 :: st) t h) : zAW E b G nL cells slots pc ls (st) t h := by
  obtain ⟨p, l, e, R, s, m, args, below, meth, c, Q⟩ := G
  intro H locs la hH hS hl
  exact lv_iconst C.1 C.2.1 hd (by decide) (kk H locs la hH hS hl)
theorem zz_lconst_0 {E : zE} {b : Nat} {G : zG} {own : String} {cc : ByteArray} {nL : Nat} {rt : Option FieldType} {cells slots pc : Nat} {t : zT} {h : zH} {ls : List (Option Value)} {st : List Value} (C : zCx E b G own cc nL rt)  (hd : decode cc pc = .ok (.lconst 0, 1))  (kk : zAW E b G nL cells slots (pc + 1) ls (.long 0 :: st) t h) : zAW E b G nL cells slots pc ls (st) t h := by
  obtain ⟨p, l, e, R, s, m, args, below, meth, c, Q⟩ := G
  intro H locs la hH hS hl
  exact lv_lconst C.1 C.2.1 hd (by decide) (kk H locs la hH hS hl)
theorem zz_lconst_1 {E : zE} {b : Nat} {G : zG} {own : String} {cc : ByteArray} {nL : Nat} {rt : Option FieldType} {cells slots pc : Nat} {t : zT} {h : zH} {ls : List (Option Value)} {st : List Value} (C : zCx E b G own cc nL rt)  (hd : decode cc pc = .ok (.lconst 1, 1))  (kk : zAW E b G nL cells slots (pc + 1) ls (.long 1 :: st) t h) : zAW E b G nL cells slots pc ls (st) t h := by
  obtain ⟨p, l, e, R, s, m, args, below, meth, c, Q⟩ := G
  intro H locs la hH hS hl
  exact lv_lconst C.1 C.2.1 hd (by decide) (kk H locs la hH hS hl)
theorem zz_bipush {E : zE} {b : Nat} {G : zG} {own : String} {cc : ByteArray} {nL : Nat} {rt : Option FieldType} {cells slots pc : Nat} {t : zT} {h : zH} {ls : List (Option Value)} {st : List Value} (C : zCx E b G own cc nL rt) {n : Int} (v : Int32) (hd : decode cc pc = .ok (.bipush n, 2)) (hv : (Int8.ofInt n).toInt32 = v) (kk : zAW E b G nL cells slots (pc + 2) ls (.int v :: st) t h) : zAW E b G nL cells slots pc ls (st) t h := by
  obtain ⟨p, l, e, R, s, m, args, below, meth, c, Q⟩ := G
  intro H locs la hH hS hl
  exact lv_bipush C.1 C.2.1 hd hv (kk H locs la hH hS hl)
theorem zz_sipush {E : zE} {b : Nat} {G : zG} {own : String} {cc : ByteArray} {nL : Nat} {rt : Option FieldType} {cells slots pc : Nat} {t : zT} {h : zH} {ls : List (Option Value)} {st : List Value} (C : zCx E b G own cc nL rt) {n : Int} (v : Int32) (hd : decode cc pc = .ok (.sipush n, 3)) (hv : (Int16.ofInt n).toInt32 = v) (kk : zAW E b G nL cells slots (pc + 3) ls (.int v :: st) t h) : zAW E b G nL cells slots pc ls (st) t h := by
  obtain ⟨p, l, e, R, s, m, args, below, meth, c, Q⟩ := G
  intro H locs la hH hS hl
  exact lv_sipush C.1 C.2.1 hd hv (kk H locs la hH hS hl)
theorem zz_ldc {E : zE} {b : Nat} {G : zG} {own : String} {cc : ByteArray} {nL : Nat} {rt : Option FieldType} {cells slots pc : Nat} {t : zT} {h : zH} {ls : List (Option Value)} {st : List Value} (C : zCx E b G own cc nL rt) {i : Nat} {v : Int32} (hd : decode cc pc = .ok (.ldc i, 2)) (hw : Cond.constant own i v ∈ zW) (kk : zAW E b G nL cells slots (pc + 2) ls (.int v :: st) t h) : zAW E b G nL cells slots pc ls (st) t h := by
  obtain ⟨p, l, e, R, s, m, args, below, meth, c, Q⟩ := G
  intro H locs la hH hS hl
  exact lv_ldc C.1 C.2.1 C.2.2.2.1 (C.2.2.2.2.1 _ hw) hd (kk H locs la hH hS hl)
theorem zz_ldc_w {E : zE} {b : Nat} {G : zG} {own : String} {cc : ByteArray} {nL : Nat} {rt : Option FieldType} {cells slots pc : Nat} {t : zT} {h : zH} {ls : List (Option Value)} {st : List Value} (C : zCx E b G own cc nL rt) {i : Nat} {v : Int32} (hd : decode cc pc = .ok (.ldc_w i, 3)) (hw : Cond.constant own i v ∈ zW) (kk : zAW E b G nL cells slots (pc + 3) ls (.int v :: st) t h) : zAW E b G nL cells slots pc ls (st) t h := by
  obtain ⟨p, l, e, R, s, m, args, below, meth, c, Q⟩ := G
  intro H locs la hH hS hl
  exact lv_ldcw C.1 C.2.1 C.2.2.2.1 (C.2.2.2.2.1 _ hw) hd (kk H locs la hH hS hl)
theorem zz_ldc2 {E : zE} {b : Nat} {G : zG} {own : String} {cc : ByteArray} {nL : Nat} {rt : Option FieldType} {cells slots pc : Nat} {t : zT} {h : zH} {ls : List (Option Value)} {st : List Value} (C : zCx E b G own cc nL rt) {i : Nat} {v : Int64} (hd : decode cc pc = .ok (.ldc2_w i, 3)) (hw : Cond.constantLong own i v ∈ zW) (kk : zAW E b G nL cells slots (pc + 3) ls (.long v :: st) t h) : zAW E b G nL cells slots pc ls (st) t h := by
  obtain ⟨p, l, e, R, s, m, args, below, meth, c, Q⟩ := G
  intro H locs la hH hS hl
  exact lv_ldc2 C.1 C.2.1 C.2.2.2.1 (C.2.2.2.2.1 _ hw) hd (kk H locs la hH hS hl)
theorem zz_dup {E : zE} {b : Nat} {G : zG} {own : String} {cc : ByteArray} {nL : Nat} {rt : Option FieldType} {cells slots pc : Nat} {t : zT} {h : zH} {ls : List (Option Value)} {st : List Value} (C : zCx E b G own cc nL rt) {va : Value} (hd : decode cc pc = .ok (.dup, 1)) (hc : va.category = 1) (kk : zAW E b G nL cells slots (pc + 1) ls (va :: va :: st) t h) : zAW E b G nL cells slots pc ls (va :: st) t h := by
  obtain ⟨p, l, e, R, s, m, args, below, meth, c, Q⟩ := G
  intro H locs la hH hS hl
  exact lv_dup C.1 C.2.1 hd hc (kk H locs la hH hS hl)
theorem zz_dup2 {E : zE} {b : Nat} {G : zG} {own : String} {cc : ByteArray} {nL : Nat} {rt : Option FieldType} {cells slots pc : Nat} {t : zT} {h : zH} {ls : List (Option Value)} {st : List Value} (C : zCx E b G own cc nL rt) {va vb : Value} (hd : decode cc pc = .ok (.dup2, 1)) (hc : va.category = 1) (hc2 : vb.category = 1) (kk : zAW E b G nL cells slots (pc + 1) ls (va :: vb :: va :: vb :: st) t h) : zAW E b G nL cells slots pc ls (va :: vb :: st) t h := by
  obtain ⟨p, l, e, R, s, m, args, below, meth, c, Q⟩ := G
  intro H locs la hH hS hl
  exact lv_dup2_11 C.1 C.2.1 hd hc hc2 (kk H locs la hH hS hl)
theorem zz_pop {E : zE} {b : Nat} {G : zG} {own : String} {cc : ByteArray} {nL : Nat} {rt : Option FieldType} {cells slots pc : Nat} {t : zT} {h : zH} {ls : List (Option Value)} {st : List Value} (C : zCx E b G own cc nL rt) {va : Value} (hd : decode cc pc = .ok (.pop, 1)) (hc : va.category = 1) (kk : zAW E b G nL cells slots (pc + 1) ls (st) t h) : zAW E b G nL cells slots pc ls (va :: st) t h := by
  obtain ⟨p, l, e, R, s, m, args, below, meth, c, Q⟩ := G
  intro H locs la hH hS hl
  exact lv_pop C.1 C.2.1 hd hc (kk H locs la hH hS hl)
theorem zz_goto {E : zE} {b : Nat} {G : zG} {own : String} {cc : ByteArray} {nL : Nat} {rt : Option FieldType} {cells slots pc : Nat} {t : zT} {h : zH} {ls : List (Option Value)} {st : List Value} (C : zCx E b G own cc nL rt) {off : Int} (tgt : Nat) (hd : decode cc pc = .ok (.goto off, 3)) (ht : (pc : Int) + off = (tgt : Int)) (kk : zAW E b G nL cells slots tgt ls st t h) : zAW E b G nL cells slots pc ls st t h := by
  obtain ⟨p, l, e, R, s, m, args, below, meth, c, Q⟩ := G
  intro H locs la hH hS hl
  exact lv_goto C.1 C.2.1 hd ht (kk H locs la hH hS hl)
theorem zz_if_eq {E : zE} {b : Nat} {G : zG} {own : String} {cc : ByteArray} {nL : Nat} {rt : Option FieldType} {cells slots pc : Nat} {t : zT} {h : zH} {ls : List (Option Value)} {st : List Value} (C : zCx E b G own cc nL rt) {x : Int32} {off : Int} (tgt : Nat) (hd : decode cc pc = .ok (.ifCond .eq off, 3)) (ht : (pc : Int) + off = (tgt : Int)) (kt : x = 0 → zAW E b G nL cells slots tgt ls st t h) (kf : ¬ x = 0 → zAW E b G nL cells slots (pc + 3) ls st t h) : zAW E b G nL cells slots pc ls (.int x :: st) t h := by
  obtain ⟨p, l, e, R, s, m, args, below, meth, c, Q⟩ := G
  intro H locs la hH hS hl
  exact lv_if_eq C.1 C.2.1 hd ht (fun q => kt q H locs la hH hS hl) (fun q => kf q H locs la hH hS hl)
theorem zz_if_ne {E : zE} {b : Nat} {G : zG} {own : String} {cc : ByteArray} {nL : Nat} {rt : Option FieldType} {cells slots pc : Nat} {t : zT} {h : zH} {ls : List (Option Value)} {st : List Value} (C : zCx E b G own cc nL rt) {x : Int32} {off : Int} (tgt : Nat) (hd : decode cc pc = .ok (.ifCond .ne off, 3)) (ht : (pc : Int) + off = (tgt : Int)) (kt : ¬ x = 0 → zAW E b G nL cells slots tgt ls st t h) (kf : x = 0 → zAW E b G nL cells slots (pc + 3) ls st t h) : zAW E b G nL cells slots pc ls (.int x :: st) t h := by
  obtain ⟨p, l, e, R, s, m, args, below, meth, c, Q⟩ := G
  intro H locs la hH hS hl
  exact lv_if_ne C.1 C.2.1 hd ht (fun q => kt q H locs la hH hS hl) (fun q => kf q H locs la hH hS hl)
theorem zz_if_lt {E : zE} {b : Nat} {G : zG} {own : String} {cc : ByteArray} {nL : Nat} {rt : Option FieldType} {cells slots pc : Nat} {t : zT} {h : zH} {ls : List (Option Value)} {st : List Value} (C : zCx E b G own cc nL rt) {x : Int32} {off : Int} (tgt : Nat) (hd : decode cc pc = .ok (.ifCond .lt off, 3)) (ht : (pc : Int) + off = (tgt : Int)) (kt : x < 0 → zAW E b G nL cells slots tgt ls st t h) (kf : ¬ x < 0 → zAW E b G nL cells slots (pc + 3) ls st t h) : zAW E b G nL cells slots pc ls (.int x :: st) t h := by
  obtain ⟨p, l, e, R, s, m, args, below, meth, c, Q⟩ := G
  intro H locs la hH hS hl
  exact lv_if_lt C.1 C.2.1 hd ht (fun q => kt q H locs la hH hS hl) (fun q => kf q H locs la hH hS hl)
theorem zz_if_ge {E : zE} {b : Nat} {G : zG} {own : String} {cc : ByteArray} {nL : Nat} {rt : Option FieldType} {cells slots pc : Nat} {t : zT} {h : zH} {ls : List (Option Value)} {st : List Value} (C : zCx E b G own cc nL rt) {x : Int32} {off : Int} (tgt : Nat) (hd : decode cc pc = .ok (.ifCond .ge off, 3)) (ht : (pc : Int) + off = (tgt : Int)) (kt : 0 ≤ x → zAW E b G nL cells slots tgt ls st t h) (kf : ¬ 0 ≤ x → zAW E b G nL cells slots (pc + 3) ls st t h) : zAW E b G nL cells slots pc ls (.int x :: st) t h := by
  obtain ⟨p, l, e, R, s, m, args, below, meth, c, Q⟩ := G
  intro H locs la hH hS hl
  exact lv_if_ge C.1 C.2.1 hd ht (fun q => kt q H locs la hH hS hl) (fun q => kf q H locs la hH hS hl)
theorem zz_if_gt {E : zE} {b : Nat} {G : zG} {own : String} {cc : ByteArray} {nL : Nat} {rt : Option FieldType} {cells slots pc : Nat} {t : zT} {h : zH} {ls : List (Option Value)} {st : List Value} (C : zCx E b G own cc nL rt) {x : Int32} {off : Int} (tgt : Nat) (hd : decode cc pc = .ok (.ifCond .gt off, 3)) (ht : (pc : Int) + off = (tgt : Int)) (kt : 0 < x → zAW E b G nL cells slots tgt ls st t h) (kf : ¬ 0 < x → zAW E b G nL cells slots (pc + 3) ls st t h) : zAW E b G nL cells slots pc ls (.int x :: st) t h := by
  obtain ⟨p, l, e, R, s, m, args, below, meth, c, Q⟩ := G
  intro H locs la hH hS hl
  exact lv_if_gt C.1 C.2.1 hd ht (fun q => kt q H locs la hH hS hl) (fun q => kf q H locs la hH hS hl)
theorem zz_if_le {E : zE} {b : Nat} {G : zG} {own : String} {cc : ByteArray} {nL : Nat} {rt : Option FieldType} {cells slots pc : Nat} {t : zT} {h : zH} {ls : List (Option Value)} {st : List Value} (C : zCx E b G own cc nL rt) {x : Int32} {off : Int} (tgt : Nat) (hd : decode cc pc = .ok (.ifCond .le off, 3)) (ht : (pc : Int) + off = (tgt : Int)) (kt : x ≤ 0 → zAW E b G nL cells slots tgt ls st t h) (kf : ¬ x ≤ 0 → zAW E b G nL cells slots (pc + 3) ls st t h) : zAW E b G nL cells slots pc ls (.int x :: st) t h := by
  obtain ⟨p, l, e, R, s, m, args, below, meth, c, Q⟩ := G
  intro H locs la hH hS hl
  exact lv_if_le C.1 C.2.1 hd ht (fun q => kt q H locs la hH hS hl) (fun q => kf q H locs la hH hS hl)
theorem zz_icmp_eq {E : zE} {b : Nat} {G : zG} {own : String} {cc : ByteArray} {nL : Nat} {rt : Option FieldType} {cells slots pc : Nat} {t : zT} {h : zH} {ls : List (Option Value)} {st : List Value} (C : zCx E b G own cc nL rt) {x y : Int32} {off : Int} (tgt : Nat) (hd : decode cc pc = .ok (.if_icmp .eq off, 3)) (ht : (pc : Int) + off = (tgt : Int)) (kt : x = y → zAW E b G nL cells slots tgt ls st t h) (kf : ¬ x = y → zAW E b G nL cells slots (pc + 3) ls st t h) : zAW E b G nL cells slots pc ls (.int y :: .int x :: st) t h := by
  obtain ⟨p, l, e, R, s, m, args, below, meth, c, Q⟩ := G
  intro H locs la hH hS hl
  exact lv_icmp_eq C.1 C.2.1 hd ht (fun q => kt q H locs la hH hS hl) (fun q => kf q H locs la hH hS hl)
theorem zz_icmp_ne {E : zE} {b : Nat} {G : zG} {own : String} {cc : ByteArray} {nL : Nat} {rt : Option FieldType} {cells slots pc : Nat} {t : zT} {h : zH} {ls : List (Option Value)} {st : List Value} (C : zCx E b G own cc nL rt) {x y : Int32} {off : Int} (tgt : Nat) (hd : decode cc pc = .ok (.if_icmp .ne off, 3)) (ht : (pc : Int) + off = (tgt : Int)) (kt : ¬ x = y → zAW E b G nL cells slots tgt ls st t h) (kf : x = y → zAW E b G nL cells slots (pc + 3) ls st t h) : zAW E b G nL cells slots pc ls (.int y :: .int x :: st) t h := by
  obtain ⟨p, l, e, R, s, m, args, below, meth, c, Q⟩ := G
  intro H locs la hH hS hl
  exact lv_icmp_ne C.1 C.2.1 hd ht (fun q => kt q H locs la hH hS hl) (fun q => kf q H locs la hH hS hl)
theorem zz_icmp_lt {E : zE} {b : Nat} {G : zG} {own : String} {cc : ByteArray} {nL : Nat} {rt : Option FieldType} {cells slots pc : Nat} {t : zT} {h : zH} {ls : List (Option Value)} {st : List Value} (C : zCx E b G own cc nL rt) {x y : Int32} {off : Int} (tgt : Nat) (hd : decode cc pc = .ok (.if_icmp .lt off, 3)) (ht : (pc : Int) + off = (tgt : Int)) (kt : x < y → zAW E b G nL cells slots tgt ls st t h) (kf : ¬ x < y → zAW E b G nL cells slots (pc + 3) ls st t h) : zAW E b G nL cells slots pc ls (.int y :: .int x :: st) t h := by
  obtain ⟨p, l, e, R, s, m, args, below, meth, c, Q⟩ := G
  intro H locs la hH hS hl
  exact lv_icmp_lt C.1 C.2.1 hd ht (fun q => kt q H locs la hH hS hl) (fun q => kf q H locs la hH hS hl)
theorem zz_icmp_ge {E : zE} {b : Nat} {G : zG} {own : String} {cc : ByteArray} {nL : Nat} {rt : Option FieldType} {cells slots pc : Nat} {t : zT} {h : zH} {ls : List (Option Value)} {st : List Value} (C : zCx E b G own cc nL rt) {x y : Int32} {off : Int} (tgt : Nat) (hd : decode cc pc = .ok (.if_icmp .ge off, 3)) (ht : (pc : Int) + off = (tgt : Int)) (kt : y ≤ x → zAW E b G nL cells slots tgt ls st t h) (kf : ¬ y ≤ x → zAW E b G nL cells slots (pc + 3) ls st t h) : zAW E b G nL cells slots pc ls (.int y :: .int x :: st) t h := by
  obtain ⟨p, l, e, R, s, m, args, below, meth, c, Q⟩ := G
  intro H locs la hH hS hl
  exact lv_icmp_ge C.1 C.2.1 hd ht (fun q => kt q H locs la hH hS hl) (fun q => kf q H locs la hH hS hl)
theorem zz_icmp_gt {E : zE} {b : Nat} {G : zG} {own : String} {cc : ByteArray} {nL : Nat} {rt : Option FieldType} {cells slots pc : Nat} {t : zT} {h : zH} {ls : List (Option Value)} {st : List Value} (C : zCx E b G own cc nL rt) {x y : Int32} {off : Int} (tgt : Nat) (hd : decode cc pc = .ok (.if_icmp .gt off, 3)) (ht : (pc : Int) + off = (tgt : Int)) (kt : y < x → zAW E b G nL cells slots tgt ls st t h) (kf : ¬ y < x → zAW E b G nL cells slots (pc + 3) ls st t h) : zAW E b G nL cells slots pc ls (.int y :: .int x :: st) t h := by
  obtain ⟨p, l, e, R, s, m, args, below, meth, c, Q⟩ := G
  intro H locs la hH hS hl
  exact lv_icmp_gt C.1 C.2.1 hd ht (fun q => kt q H locs la hH hS hl) (fun q => kf q H locs la hH hS hl)
theorem zz_icmp_le {E : zE} {b : Nat} {G : zG} {own : String} {cc : ByteArray} {nL : Nat} {rt : Option FieldType} {cells slots pc : Nat} {t : zT} {h : zH} {ls : List (Option Value)} {st : List Value} (C : zCx E b G own cc nL rt) {x y : Int32} {off : Int} (tgt : Nat) (hd : decode cc pc = .ok (.if_icmp .le off, 3)) (ht : (pc : Int) + off = (tgt : Int)) (kt : x ≤ y → zAW E b G nL cells slots tgt ls st t h) (kf : ¬ x ≤ y → zAW E b G nL cells slots (pc + 3) ls st t h) : zAW E b G nL cells slots pc ls (.int y :: .int x :: st) t h := by
  obtain ⟨p, l, e, R, s, m, args, below, meth, c, Q⟩ := G
  intro H locs la hH hS hl
  exact lv_icmp_le C.1 C.2.1 hd ht (fun q => kt q H locs la hH hS hl) (fun q => kf q H locs la hH hS hl)
theorem zz_tableOut {E : zE} {b : Nat} {G : zG} {own : String} {cc : ByteArray} {nL : Nat} {rt : Option FieldType} {cells slots pc : Nat} {t : zT} {h : zH} {ls : List (Option Value)} {st : List Value} (C : zCx E b G own cc nL rt) {x : Int32} {dflt lo hi : Int} {offs : Array Int} {len : Nat} (tgt : Nat) (hd : decode cc pc = .ok (.tableswitch dflt lo hi offs, len)) (hr : x.toInt < lo ∨ hi < x.toInt) (ht : (pc : Int) + dflt = (tgt : Int)) (kk : zAW E b G nL cells slots tgt ls st t h) : zAW E b G nL cells slots pc ls (.int x :: st) t h := by
  obtain ⟨p, l, e, R, s, m, args, below, meth, c, Q⟩ := G
  intro H locs la hH hS hl
  exact lv_tableOut C.1 C.2.1 hd hr ht (kk H locs la hH hS hl)
theorem zz_tableIn {E : zE} {b : Nat} {G : zG} {own : String} {cc : ByteArray} {nL : Nat} {rt : Option FieldType} {cells slots pc : Nat} {t : zT} {h : zH} {ls : List (Option Value)} {st : List Value} (C : zCx E b G own cc nL rt) {x : Int32} {dflt lo hi : Int} {offs : Array Int} {len : Nat} {off : Int} (tgt : Nat) (hd : decode cc pc = .ok (.tableswitch dflt lo hi offs, len)) (h1 : ¬ x.toInt < lo) (h2 : ¬ hi < x.toInt) (ho : offs[(x.toInt - lo).toNat]? = some off) (ht : (pc : Int) + off = (tgt : Int)) (kk : zAW E b G nL cells slots tgt ls st t h) : zAW E b G nL cells slots pc ls (.int x :: st) t h := by
  obtain ⟨p, l, e, R, s, m, args, below, meth, c, Q⟩ := G
  intro H locs la hH hS hl
  exact lv_tableIn C.1 C.2.1 hd h1 h2 ho ht (kk H locs la hH hS hl)
theorem zz_lookup {E : zE} {b : Nat} {G : zG} {own : String} {cc : ByteArray} {nL : Nat} {rt : Option FieldType} {cells slots pc : Nat} {t : zT} {h : zH} {ls : List (Option Value)} {st : List Value} (C : zCx E b G own cc nL rt) {x : Int32} {dflt : Int} {ps : Array (Int × Int)} {len : Nat} {off : Int} (tgt : Nat) (hd : decode cc pc = .ok (.lookupswitch dflt ps, len)) (hp : (ps.toList.zip (ps.toList.drop 1)).all (fun (a, next) => a.1 < next.1) = true) (ho : Op.lookupswitch.offset ps.toList dflt x.toInt = off) (ht : (pc : Int) + off = (tgt : Int)) (kk : zAW E b G nL cells slots tgt ls st t h) : zAW E b G nL cells slots pc ls (.int x :: st) t h := by
  obtain ⟨p, l, e, R, s, m, args, below, meth, c, Q⟩ := G
  intro H locs la hH hS hl
  exact lv_lookup C.1 C.2.1 hd hp ho ht (kk H locs la hH hS hl)
theorem zz_ls {E : zE} {b : Nat} {G : zG} {own : String} {cc : ByteArray} {nL : Nat} {rt : Option FieldType} {cells slots pc : Nat} {t : zT} {h : zH} {ls : List (Option Value)} (ls' : List (Option Value)) {st : List Value} (hs : ∀ (k : Nat) (v : Value), ls'[k]? = some (some v) → ls[k]? = some (some v)) (kk : zAW E b G nL cells slots pc ls' st t h) : zAW E b G nL cells slots pc ls st t h := by
  obtain ⟨p, l, e, R, s, m, args, below, meth, c, Q⟩ := G
  intro H locs la hH hS hl
  exact kk H locs la hH hS (zLs_sub hl hs)
theorem zz_iload_0 {E : zE} {b : Nat} {G : zG} {own : String} {cc : ByteArray} {nL : Nat} {rt : Option FieldType} {cells slots pc : Nat} {t : zT} {h : zH} {r : List (Option Value)} {st : List Value} (C : zCx E b G own cc nL rt) {v : Int32} (hd : decode cc pc = .ok (.iload_n 0, 1)) (kk : zAW E b G nL cells slots (pc + 1) (some (.int v) :: r) (.int v :: st) t h) : zAW E b G nL cells slots pc (some (.int v) :: r) st t h := by
  obtain ⟨p, l, e, R, s, m, args, below, meth, c, Q⟩ := G
  intro H locs la hH hS hl
  exact lv_iload_n C.1 C.2.1 hd rfl (zLs_at (k := 0) hl rfl) (kk H locs la hH hS hl)
theorem zz_istore_0 {E : zE} {b : Nat} {G : zG} {own : String} {cc : ByteArray} {nL : Nat} {rt : Option FieldType} {cells slots pc : Nat} {t : zT} {h : zH} {y : Option Value} {r : List (Option Value)} {st : List Value} (C : zCx E b G own cc nL rt) {v : Int32} (hn : 0 < nL) (hd : decode cc pc = .ok (.istore_n 0, 1)) (kk : zAW E b G nL cells slots (pc + 1) (some (.int v) :: r) st t h) : zAW E b G nL cells slots pc (y :: r) (.int v :: st) t h := by
  obtain ⟨p, l, e, R, s, m, args, below, meth, c, Q⟩ := G
  intro H locs la hH hS hl
  exact lv_istore_n C.1 C.2.1 hd rfl hl hn rfl (fun la2 hl2 => kk H locs la2 hH hS (zLs_st1 hl2 (fun j x hj hx => by cases hj)))
theorem zz_lload_0 {E : zE} {b : Nat} {G : zG} {own : String} {cc : ByteArray} {nL : Nat} {rt : Option FieldType} {cells slots pc : Nat} {t : zT} {h : zH} {r : List (Option Value)} {st : List Value} (C : zCx E b G own cc nL rt) {v : Int64} (hd : decode cc pc = .ok (.lload_n 0, 1)) (kk : zAW E b G nL cells slots (pc + 1) (some (.long v) :: r) (.long v :: st) t h) : zAW E b G nL cells slots pc (some (.long v) :: r) st t h := by
  obtain ⟨p, l, e, R, s, m, args, below, meth, c, Q⟩ := G
  intro H locs la hH hS hl
  exact lv_lload_n C.1 C.2.1 hd rfl (zLs_at (k := 0) hl rfl) (kk H locs la hH hS hl)
theorem zz_lstore_0 {E : zE} {b : Nat} {G : zG} {own : String} {cc : ByteArray} {nL : Nat} {rt : Option FieldType} {cells slots pc : Nat} {t : zT} {h : zH} {y y2 : Option Value} {r : List (Option Value)} {st : List Value} (C : zCx E b G own cc nL rt) {v : Int64} (hn : 1 < nL) (hd : decode cc pc = .ok (.lstore_n 0, 1)) (kk : zAW E b G nL cells slots (pc + 1) (some (.long v) :: none :: r) st t h) : zAW E b G nL cells slots pc (y :: y2 :: r) (.long v :: st) t h := by
  obtain ⟨p, l, e, R, s, m, args, below, meth, c, Q⟩ := G
  intro H locs la hH hS hl
  exact lv_lstore_n C.1 C.2.1 hd rfl hl hn rfl (fun la2 hl2 => kk H locs la2 hH hS (zLs_st2 hl2 (fun j x hj hx => by cases hj)))
theorem zz_aload_0 {E : zE} {b : Nat} {G : zG} {own : String} {cc : ByteArray} {nL : Nat} {rt : Option FieldType} {cells slots pc : Nat} {t : zT} {h : zH} {r : List (Option Value)} {st : List Value} (C : zCx E b G own cc nL rt) {v : Nat} (hd : decode cc pc = .ok (.aload_n 0, 1)) (kk : zAW E b G nL cells slots (pc + 1) (some (.ref v) :: r) (.ref v :: st) t h) : zAW E b G nL cells slots pc (some (.ref v) :: r) st t h := by
  obtain ⟨p, l, e, R, s, m, args, below, meth, c, Q⟩ := G
  intro H locs la hH hS hl
  exact lv_aload_n C.1 C.2.1 hd rfl (zLs_at (k := 0) hl rfl) (kk H locs la hH hS hl)
theorem zz_astore_0 {E : zE} {b : Nat} {G : zG} {own : String} {cc : ByteArray} {nL : Nat} {rt : Option FieldType} {cells slots pc : Nat} {t : zT} {h : zH} {y : Option Value} {r : List (Option Value)} {st : List Value} (C : zCx E b G own cc nL rt) {v : Nat} (hn : 0 < nL) (hd : decode cc pc = .ok (.astore_n 0, 1)) (kk : zAW E b G nL cells slots (pc + 1) (some (.ref v) :: r) st t h) : zAW E b G nL cells slots pc (y :: r) (.ref v :: st) t h := by
  obtain ⟨p, l, e, R, s, m, args, below, meth, c, Q⟩ := G
  intro H locs la hH hS hl
  exact lv_astore_n C.1 C.2.1 hd rfl hl hn rfl (fun la2 hl2 => kk H locs la2 hH hS (zLs_st1 hl2 (fun j x hj hx => by cases hj)))
theorem zz_iinc_0 {E : zE} {b : Nat} {G : zG} {own : String} {cc : ByteArray} {nL : Nat} {rt : Option FieldType} {cells slots pc : Nat} {t : zT} {h : zH} {r : List (Option Value)} {st : List Value} (C : zCx E b G own cc nL rt) {v : Int32} {n : Int} (w : Int32) (hn : 0 < nL) (hd : decode cc pc = .ok (.iinc 0 n, 3)) (hv : v + Int32.ofInt n = w) (kk : zAW E b G nL cells slots (pc + 3) (some (.int w) :: r) st t h) : zAW E b G nL cells slots pc (some (.int v) :: r) st t h := by
  obtain ⟨p, l, e, R, s, m, args, below, meth, c, Q⟩ := G
  intro H locs la hH hS hl
  obtain ⟨q, hq⟩ := List.getElem?_of_mem ((zAs_mem (some (.int v) :: r) 0 0 (.int v)).mpr ⟨0, rfl, rfl⟩)
  exact lv_iinc C.1 C.2.1 hd hl hq hv hn rfl (fun la2 hl2 => kk H locs la2 hH hS (zLs_st1 hl2 (fun j x hj hx => by cases hj)))
theorem zz_iload_1 {E : zE} {b : Nat} {G : zG} {own : String} {cc : ByteArray} {nL : Nat} {rt : Option FieldType} {cells slots pc : Nat} {t : zT} {h : zH} {x0 : Option Value} {r : List (Option Value)} {st : List Value} (C : zCx E b G own cc nL rt) {v : Int32} (hd : decode cc pc = .ok (.iload_n 1, 1)) (kk : zAW E b G nL cells slots (pc + 1) (x0 :: some (.int v) :: r) (.int v :: st) t h) : zAW E b G nL cells slots pc (x0 :: some (.int v) :: r) st t h := by
  obtain ⟨p, l, e, R, s, m, args, below, meth, c, Q⟩ := G
  intro H locs la hH hS hl
  exact lv_iload_n C.1 C.2.1 hd rfl (zLs_at (k := 1) hl rfl) (kk H locs la hH hS hl)
theorem zz_istore_1 {E : zE} {b : Nat} {G : zG} {own : String} {cc : ByteArray} {nL : Nat} {rt : Option FieldType} {cells slots pc : Nat} {t : zT} {h : zH} {x0 : Option Value} {y : Option Value} {r : List (Option Value)} {st : List Value} (C : zCx E b G own cc nL rt) {v : Int32} (hn : 1 < nL) (hok : zok x0 = true) (hd : decode cc pc = .ok (.istore_n 1, 1)) (kk : zAW E b G nL cells slots (pc + 1) (x0 :: some (.int v) :: r) st t h) : zAW E b G nL cells slots pc (x0 :: y :: r) (.int v :: st) t h := by
  obtain ⟨p, l, e, R, s, m, args, below, meth, c, Q⟩ := G
  intro H locs la hH hS hl
  exact lv_istore_n C.1 C.2.1 hd rfl hl hn rfl (fun la2 hl2 => kk H locs la2 hH hS (zLs_st1 hl2 (fun j x hj hx => by cases hj; cases hx; exact hok)))
theorem zz_lload_1 {E : zE} {b : Nat} {G : zG} {own : String} {cc : ByteArray} {nL : Nat} {rt : Option FieldType} {cells slots pc : Nat} {t : zT} {h : zH} {x0 : Option Value} {r : List (Option Value)} {st : List Value} (C : zCx E b G own cc nL rt) {v : Int64} (hd : decode cc pc = .ok (.lload_n 1, 1)) (kk : zAW E b G nL cells slots (pc + 1) (x0 :: some (.long v) :: r) (.long v :: st) t h) : zAW E b G nL cells slots pc (x0 :: some (.long v) :: r) st t h := by
  obtain ⟨p, l, e, R, s, m, args, below, meth, c, Q⟩ := G
  intro H locs la hH hS hl
  exact lv_lload_n C.1 C.2.1 hd rfl (zLs_at (k := 1) hl rfl) (kk H locs la hH hS hl)
theorem zz_lstore_1 {E : zE} {b : Nat} {G : zG} {own : String} {cc : ByteArray} {nL : Nat} {rt : Option FieldType} {cells slots pc : Nat} {t : zT} {h : zH} {x0 : Option Value} {y y2 : Option Value} {r : List (Option Value)} {st : List Value} (C : zCx E b G own cc nL rt) {v : Int64} (hn : 2 < nL) (hok : zok x0 = true) (hd : decode cc pc = .ok (.lstore_n 1, 1)) (kk : zAW E b G nL cells slots (pc + 1) (x0 :: some (.long v) :: none :: r) st t h) : zAW E b G nL cells slots pc (x0 :: y :: y2 :: r) (.long v :: st) t h := by
  obtain ⟨p, l, e, R, s, m, args, below, meth, c, Q⟩ := G
  intro H locs la hH hS hl
  exact lv_lstore_n C.1 C.2.1 hd rfl hl hn rfl (fun la2 hl2 => kk H locs la2 hH hS (zLs_st2 hl2 (fun j x hj hx => by cases hj; cases hx; exact hok)))
theorem zz_aload_1 {E : zE} {b : Nat} {G : zG} {own : String} {cc : ByteArray} {nL : Nat} {rt : Option FieldType} {cells slots pc : Nat} {t : zT} {h : zH} {x0 : Option Value} {r : List (Option Value)} {st : List Value} (C : zCx E b G own cc nL rt) {v : Nat} (hd : decode cc pc = .ok (.aload_n 1, 1)) (kk : zAW E b G nL cells slots (pc + 1) (x0 :: some (.ref v) :: r) (.ref v :: st) t h) : zAW E b G nL cells slots pc (x0 :: some (.ref v) :: r) st t h := by
  obtain ⟨p, l, e, R, s, m, args, below, meth, c, Q⟩ := G
  intro H locs la hH hS hl
  exact lv_aload_n C.1 C.2.1 hd rfl (zLs_at (k := 1) hl rfl) (kk H locs la hH hS hl)
theorem zz_astore_1 {E : zE} {b : Nat} {G : zG} {own : String} {cc : ByteArray} {nL : Nat} {rt : Option FieldType} {cells slots pc : Nat} {t : zT} {h : zH} {x0 : Option Value} {y : Option Value} {r : List (Option Value)} {st : List Value} (C : zCx E b G own cc nL rt) {v : Nat} (hn : 1 < nL) (hok : zok x0 = true) (hd : decode cc pc = .ok (.astore_n 1, 1)) (kk : zAW E b G nL cells slots (pc + 1) (x0 :: some (.ref v) :: r) st t h) : zAW E b G nL cells slots pc (x0 :: y :: r) (.ref v :: st) t h := by
  obtain ⟨p, l, e, R, s, m, args, below, meth, c, Q⟩ := G
  intro H locs la hH hS hl
  exact lv_astore_n C.1 C.2.1 hd rfl hl hn rfl (fun la2 hl2 => kk H locs la2 hH hS (zLs_st1 hl2 (fun j x hj hx => by cases hj; cases hx; exact hok)))
theorem zz_iinc_1 {E : zE} {b : Nat} {G : zG} {own : String} {cc : ByteArray} {nL : Nat} {rt : Option FieldType} {cells slots pc : Nat} {t : zT} {h : zH} {x0 : Option Value} {r : List (Option Value)} {st : List Value} (C : zCx E b G own cc nL rt) {v : Int32} {n : Int} (w : Int32) (hn : 1 < nL) (hok : zok x0 = true) (hd : decode cc pc = .ok (.iinc 1 n, 3)) (hv : v + Int32.ofInt n = w) (kk : zAW E b G nL cells slots (pc + 3) (x0 :: some (.int w) :: r) st t h) : zAW E b G nL cells slots pc (x0 :: some (.int v) :: r) st t h := by
  obtain ⟨p, l, e, R, s, m, args, below, meth, c, Q⟩ := G
  intro H locs la hH hS hl
  obtain ⟨q, hq⟩ := List.getElem?_of_mem ((zAs_mem (x0 :: some (.int v) :: r) 0 1 (.int v)).mpr ⟨1, rfl, rfl⟩)
  exact lv_iinc C.1 C.2.1 hd hl hq hv hn rfl (fun la2 hl2 => kk H locs la2 hH hS (zLs_st1 hl2 (fun j x hj hx => by cases hj; cases hx; exact hok)))
theorem zz_iload_2 {E : zE} {b : Nat} {G : zG} {own : String} {cc : ByteArray} {nL : Nat} {rt : Option FieldType} {cells slots pc : Nat} {t : zT} {h : zH} {x0 x1 : Option Value} {r : List (Option Value)} {st : List Value} (C : zCx E b G own cc nL rt) {v : Int32} (hd : decode cc pc = .ok (.iload_n 2, 1)) (kk : zAW E b G nL cells slots (pc + 1) (x0 :: x1 :: some (.int v) :: r) (.int v :: st) t h) : zAW E b G nL cells slots pc (x0 :: x1 :: some (.int v) :: r) st t h := by
  obtain ⟨p, l, e, R, s, m, args, below, meth, c, Q⟩ := G
  intro H locs la hH hS hl
  exact lv_iload_n C.1 C.2.1 hd rfl (zLs_at (k := 2) hl rfl) (kk H locs la hH hS hl)
theorem zz_istore_2 {E : zE} {b : Nat} {G : zG} {own : String} {cc : ByteArray} {nL : Nat} {rt : Option FieldType} {cells slots pc : Nat} {t : zT} {h : zH} {x0 x1 : Option Value} {y : Option Value} {r : List (Option Value)} {st : List Value} (C : zCx E b G own cc nL rt) {v : Int32} (hn : 2 < nL) (hok : zok x1 = true) (hd : decode cc pc = .ok (.istore_n 2, 1)) (kk : zAW E b G nL cells slots (pc + 1) (x0 :: x1 :: some (.int v) :: r) st t h) : zAW E b G nL cells slots pc (x0 :: x1 :: y :: r) (.int v :: st) t h := by
  obtain ⟨p, l, e, R, s, m, args, below, meth, c, Q⟩ := G
  intro H locs la hH hS hl
  exact lv_istore_n C.1 C.2.1 hd rfl hl hn rfl (fun la2 hl2 => kk H locs la2 hH hS (zLs_st1 hl2 (fun j x hj hx => by cases hj; cases hx; exact hok)))
theorem zz_lload_2 {E : zE} {b : Nat} {G : zG} {own : String} {cc : ByteArray} {nL : Nat} {rt : Option FieldType} {cells slots pc : Nat} {t : zT} {h : zH} {x0 x1 : Option Value} {r : List (Option Value)} {st : List Value} (C : zCx E b G own cc nL rt) {v : Int64} (hd : decode cc pc = .ok (.lload_n 2, 1)) (kk : zAW E b G nL cells slots (pc + 1) (x0 :: x1 :: some (.long v) :: r) (.long v :: st) t h) : zAW E b G nL cells slots pc (x0 :: x1 :: some (.long v) :: r) st t h := by
  obtain ⟨p, l, e, R, s, m, args, below, meth, c, Q⟩ := G
  intro H locs la hH hS hl
  exact lv_lload_n C.1 C.2.1 hd rfl (zLs_at (k := 2) hl rfl) (kk H locs la hH hS hl)
theorem zz_lstore_2 {E : zE} {b : Nat} {G : zG} {own : String} {cc : ByteArray} {nL : Nat} {rt : Option FieldType} {cells slots pc : Nat} {t : zT} {h : zH} {x0 x1 : Option Value} {y y2 : Option Value} {r : List (Option Value)} {st : List Value} (C : zCx E b G own cc nL rt) {v : Int64} (hn : 3 < nL) (hok : zok x1 = true) (hd : decode cc pc = .ok (.lstore_n 2, 1)) (kk : zAW E b G nL cells slots (pc + 1) (x0 :: x1 :: some (.long v) :: none :: r) st t h) : zAW E b G nL cells slots pc (x0 :: x1 :: y :: y2 :: r) (.long v :: st) t h := by
  obtain ⟨p, l, e, R, s, m, args, below, meth, c, Q⟩ := G
  intro H locs la hH hS hl
  exact lv_lstore_n C.1 C.2.1 hd rfl hl hn rfl (fun la2 hl2 => kk H locs la2 hH hS (zLs_st2 hl2 (fun j x hj hx => by cases hj; cases hx; exact hok)))
theorem zz_aload_2 {E : zE} {b : Nat} {G : zG} {own : String} {cc : ByteArray} {nL : Nat} {rt : Option FieldType} {cells slots pc : Nat} {t : zT} {h : zH} {x0 x1 : Option Value} {r : List (Option Value)} {st : List Value} (C : zCx E b G own cc nL rt) {v : Nat} (hd : decode cc pc = .ok (.aload_n 2, 1)) (kk : zAW E b G nL cells slots (pc + 1) (x0 :: x1 :: some (.ref v) :: r) (.ref v :: st) t h) : zAW E b G nL cells slots pc (x0 :: x1 :: some (.ref v) :: r) st t h := by
  obtain ⟨p, l, e, R, s, m, args, below, meth, c, Q⟩ := G
  intro H locs la hH hS hl
  exact lv_aload_n C.1 C.2.1 hd rfl (zLs_at (k := 2) hl rfl) (kk H locs la hH hS hl)
theorem zz_astore_2 {E : zE} {b : Nat} {G : zG} {own : String} {cc : ByteArray} {nL : Nat} {rt : Option FieldType} {cells slots pc : Nat} {t : zT} {h : zH} {x0 x1 : Option Value} {y : Option Value} {r : List (Option Value)} {st : List Value} (C : zCx E b G own cc nL rt) {v : Nat} (hn : 2 < nL) (hok : zok x1 = true) (hd : decode cc pc = .ok (.astore_n 2, 1)) (kk : zAW E b G nL cells slots (pc + 1) (x0 :: x1 :: some (.ref v) :: r) st t h) : zAW E b G nL cells slots pc (x0 :: x1 :: y :: r) (.ref v :: st) t h := by
  obtain ⟨p, l, e, R, s, m, args, below, meth, c, Q⟩ := G
  intro H locs la hH hS hl
  exact lv_astore_n C.1 C.2.1 hd rfl hl hn rfl (fun la2 hl2 => kk H locs la2 hH hS (zLs_st1 hl2 (fun j x hj hx => by cases hj; cases hx; exact hok)))
theorem zz_iinc_2 {E : zE} {b : Nat} {G : zG} {own : String} {cc : ByteArray} {nL : Nat} {rt : Option FieldType} {cells slots pc : Nat} {t : zT} {h : zH} {x0 x1 : Option Value} {r : List (Option Value)} {st : List Value} (C : zCx E b G own cc nL rt) {v : Int32} {n : Int} (w : Int32) (hn : 2 < nL) (hok : zok x1 = true) (hd : decode cc pc = .ok (.iinc 2 n, 3)) (hv : v + Int32.ofInt n = w) (kk : zAW E b G nL cells slots (pc + 3) (x0 :: x1 :: some (.int w) :: r) st t h) : zAW E b G nL cells slots pc (x0 :: x1 :: some (.int v) :: r) st t h := by
  obtain ⟨p, l, e, R, s, m, args, below, meth, c, Q⟩ := G
  intro H locs la hH hS hl
  obtain ⟨q, hq⟩ := List.getElem?_of_mem ((zAs_mem (x0 :: x1 :: some (.int v) :: r) 0 2 (.int v)).mpr ⟨2, rfl, rfl⟩)
  exact lv_iinc C.1 C.2.1 hd hl hq hv hn rfl (fun la2 hl2 => kk H locs la2 hH hS (zLs_st1 hl2 (fun j x hj hx => by cases hj; cases hx; exact hok)))
theorem zz_iload_3 {E : zE} {b : Nat} {G : zG} {own : String} {cc : ByteArray} {nL : Nat} {rt : Option FieldType} {cells slots pc : Nat} {t : zT} {h : zH} {x0 x1 x2 : Option Value} {r : List (Option Value)} {st : List Value} (C : zCx E b G own cc nL rt) {v : Int32} (hd : decode cc pc = .ok (.iload_n 3, 1)) (kk : zAW E b G nL cells slots (pc + 1) (x0 :: x1 :: x2 :: some (.int v) :: r) (.int v :: st) t h) : zAW E b G nL cells slots pc (x0 :: x1 :: x2 :: some (.int v) :: r) st t h := by
  obtain ⟨p, l, e, R, s, m, args, below, meth, c, Q⟩ := G
  intro H locs la hH hS hl
  exact lv_iload_n C.1 C.2.1 hd rfl (zLs_at (k := 3) hl rfl) (kk H locs la hH hS hl)
theorem zz_istore_3 {E : zE} {b : Nat} {G : zG} {own : String} {cc : ByteArray} {nL : Nat} {rt : Option FieldType} {cells slots pc : Nat} {t : zT} {h : zH} {x0 x1 x2 : Option Value} {y : Option Value} {r : List (Option Value)} {st : List Value} (C : zCx E b G own cc nL rt) {v : Int32} (hn : 3 < nL) (hok : zok x2 = true) (hd : decode cc pc = .ok (.istore_n 3, 1)) (kk : zAW E b G nL cells slots (pc + 1) (x0 :: x1 :: x2 :: some (.int v) :: r) st t h) : zAW E b G nL cells slots pc (x0 :: x1 :: x2 :: y :: r) (.int v :: st) t h := by
  obtain ⟨p, l, e, R, s, m, args, below, meth, c, Q⟩ := G
  intro H locs la hH hS hl
  exact lv_istore_n C.1 C.2.1 hd rfl hl hn rfl (fun la2 hl2 => kk H locs la2 hH hS (zLs_st1 hl2 (fun j x hj hx => by cases hj; cases hx; exact hok)))
theorem zz_lload_3 {E : zE} {b : Nat} {G : zG} {own : String} {cc : ByteArray} {nL : Nat} {rt : Option FieldType} {cells slots pc : Nat} {t : zT} {h : zH} {x0 x1 x2 : Option Value} {r : List (Option Value)} {st : List Value} (C : zCx E b G own cc nL rt) {v : Int64} (hd : decode cc pc = .ok (.lload_n 3, 1)) (kk : zAW E b G nL cells slots (pc + 1) (x0 :: x1 :: x2 :: some (.long v) :: r) (.long v :: st) t h) : zAW E b G nL cells slots pc (x0 :: x1 :: x2 :: some (.long v) :: r) st t h := by
  obtain ⟨p, l, e, R, s, m, args, below, meth, c, Q⟩ := G
  intro H locs la hH hS hl
  exact lv_lload_n C.1 C.2.1 hd rfl (zLs_at (k := 3) hl rfl) (kk H locs la hH hS hl)
theorem zz_lstore_3 {E : zE} {b : Nat} {G : zG} {own : String} {cc : ByteArray} {nL : Nat} {rt : Option FieldType} {cells slots pc : Nat} {t : zT} {h : zH} {x0 x1 x2 : Option Value} {y y2 : Option Value} {r : List (Option Value)} {st : List Value} (C : zCx E b G own cc nL rt) {v : Int64} (hn : 4 < nL) (hok : zok x2 = true) (hd : decode cc pc = .ok (.lstore_n 3, 1)) (kk : zAW E b G nL cells slots (pc + 1) (x0 :: x1 :: x2 :: some (.long v) :: none :: r) st t h) : zAW E b G nL cells slots pc (x0 :: x1 :: x2 :: y :: y2 :: r) (.long v :: st) t h := by
  obtain ⟨p, l, e, R, s, m, args, below, meth, c, Q⟩ := G
  intro H locs la hH hS hl
  exact lv_lstore_n C.1 C.2.1 hd rfl hl hn rfl (fun la2 hl2 => kk H locs la2 hH hS (zLs_st2 hl2 (fun j x hj hx => by cases hj; cases hx; exact hok)))
theorem zz_aload_3 {E : zE} {b : Nat} {G : zG} {own : String} {cc : ByteArray} {nL : Nat} {rt : Option FieldType} {cells slots pc : Nat} {t : zT} {h : zH} {x0 x1 x2 : Option Value} {r : List (Option Value)} {st : List Value} (C : zCx E b G own cc nL rt) {v : Nat} (hd : decode cc pc = .ok (.aload_n 3, 1)) (kk : zAW E b G nL cells slots (pc + 1) (x0 :: x1 :: x2 :: some (.ref v) :: r) (.ref v :: st) t h) : zAW E b G nL cells slots pc (x0 :: x1 :: x2 :: some (.ref v) :: r) st t h := by
  obtain ⟨p, l, e, R, s, m, args, below, meth, c, Q⟩ := G
  intro H locs la hH hS hl
  exact lv_aload_n C.1 C.2.1 hd rfl (zLs_at (k := 3) hl rfl) (kk H locs la hH hS hl)
theorem zz_astore_3 {E : zE} {b : Nat} {G : zG} {own : String} {cc : ByteArray} {nL : Nat} {rt : Option FieldType} {cells slots pc : Nat} {t : zT} {h : zH} {x0 x1 x2 : Option Value} {y : Option Value} {r : List (Option Value)} {st : List Value} (C : zCx E b G own cc nL rt) {v : Nat} (hn : 3 < nL) (hok : zok x2 = true) (hd : decode cc pc = .ok (.astore_n 3, 1)) (kk : zAW E b G nL cells slots (pc + 1) (x0 :: x1 :: x2 :: some (.ref v) :: r) st t h) : zAW E b G nL cells slots pc (x0 :: x1 :: x2 :: y :: r) (.ref v :: st) t h := by
  obtain ⟨p, l, e, R, s, m, args, below, meth, c, Q⟩ := G
  intro H locs la hH hS hl
  exact lv_astore_n C.1 C.2.1 hd rfl hl hn rfl (fun la2 hl2 => kk H locs la2 hH hS (zLs_st1 hl2 (fun j x hj hx => by cases hj; cases hx; exact hok)))
theorem zz_iinc_3 {E : zE} {b : Nat} {G : zG} {own : String} {cc : ByteArray} {nL : Nat} {rt : Option FieldType} {cells slots pc : Nat} {t : zT} {h : zH} {x0 x1 x2 : Option Value} {r : List (Option Value)} {st : List Value} (C : zCx E b G own cc nL rt) {v : Int32} {n : Int} (w : Int32) (hn : 3 < nL) (hok : zok x2 = true) (hd : decode cc pc = .ok (.iinc 3 n, 3)) (hv : v + Int32.ofInt n = w) (kk : zAW E b G nL cells slots (pc + 3) (x0 :: x1 :: x2 :: some (.int w) :: r) st t h) : zAW E b G nL cells slots pc (x0 :: x1 :: x2 :: some (.int v) :: r) st t h := by
  obtain ⟨p, l, e, R, s, m, args, below, meth, c, Q⟩ := G
  intro H locs la hH hS hl
  obtain ⟨q, hq⟩ := List.getElem?_of_mem ((zAs_mem (x0 :: x1 :: x2 :: some (.int v) :: r) 0 3 (.int v)).mpr ⟨3, rfl, rfl⟩)
  exact lv_iinc C.1 C.2.1 hd hl hq hv hn rfl (fun la2 hl2 => kk H locs la2 hH hS (zLs_st1 hl2 (fun j x hj hx => by cases hj; cases hx; exact hok)))
theorem zz_iload_4 {E : zE} {b : Nat} {G : zG} {own : String} {cc : ByteArray} {nL : Nat} {rt : Option FieldType} {cells slots pc : Nat} {t : zT} {h : zH} {x0 x1 x2 x3 : Option Value} {r : List (Option Value)} {st : List Value} (C : zCx E b G own cc nL rt) {v : Int32} (hd : decode cc pc = .ok (.iload 4, 2)) (kk : zAW E b G nL cells slots (pc + 2) (x0 :: x1 :: x2 :: x3 :: some (.int v) :: r) (.int v :: st) t h) : zAW E b G nL cells slots pc (x0 :: x1 :: x2 :: x3 :: some (.int v) :: r) st t h := by
  obtain ⟨p, l, e, R, s, m, args, below, meth, c, Q⟩ := G
  intro H locs la hH hS hl
  exact lv_iload C.1 C.2.1 hd (zLs_at (k := 4) hl rfl) (kk H locs la hH hS hl)
theorem zz_istore_4 {E : zE} {b : Nat} {G : zG} {own : String} {cc : ByteArray} {nL : Nat} {rt : Option FieldType} {cells slots pc : Nat} {t : zT} {h : zH} {x0 x1 x2 x3 : Option Value} {y : Option Value} {r : List (Option Value)} {st : List Value} (C : zCx E b G own cc nL rt) {v : Int32} (hn : 4 < nL) (hok : zok x3 = true) (hd : decode cc pc = .ok (.istore 4, 2)) (kk : zAW E b G nL cells slots (pc + 2) (x0 :: x1 :: x2 :: x3 :: some (.int v) :: r) st t h) : zAW E b G nL cells slots pc (x0 :: x1 :: x2 :: x3 :: y :: r) (.int v :: st) t h := by
  obtain ⟨p, l, e, R, s, m, args, below, meth, c, Q⟩ := G
  intro H locs la hH hS hl
  exact lv_istore C.1 C.2.1 hd hl hn rfl (fun la2 hl2 => kk H locs la2 hH hS (zLs_st1 hl2 (fun j x hj hx => by cases hj; cases hx; exact hok)))
theorem zz_lload_4 {E : zE} {b : Nat} {G : zG} {own : String} {cc : ByteArray} {nL : Nat} {rt : Option FieldType} {cells slots pc : Nat} {t : zT} {h : zH} {x0 x1 x2 x3 : Option Value} {r : List (Option Value)} {st : List Value} (C : zCx E b G own cc nL rt) {v : Int64} (hd : decode cc pc = .ok (.lload 4, 2)) (kk : zAW E b G nL cells slots (pc + 2) (x0 :: x1 :: x2 :: x3 :: some (.long v) :: r) (.long v :: st) t h) : zAW E b G nL cells slots pc (x0 :: x1 :: x2 :: x3 :: some (.long v) :: r) st t h := by
  obtain ⟨p, l, e, R, s, m, args, below, meth, c, Q⟩ := G
  intro H locs la hH hS hl
  exact lv_lload C.1 C.2.1 hd (zLs_at (k := 4) hl rfl) (kk H locs la hH hS hl)
theorem zz_lstore_4 {E : zE} {b : Nat} {G : zG} {own : String} {cc : ByteArray} {nL : Nat} {rt : Option FieldType} {cells slots pc : Nat} {t : zT} {h : zH} {x0 x1 x2 x3 : Option Value} {y y2 : Option Value} {r : List (Option Value)} {st : List Value} (C : zCx E b G own cc nL rt) {v : Int64} (hn : 5 < nL) (hok : zok x3 = true) (hd : decode cc pc = .ok (.lstore 4, 2)) (kk : zAW E b G nL cells slots (pc + 2) (x0 :: x1 :: x2 :: x3 :: some (.long v) :: none :: r) st t h) : zAW E b G nL cells slots pc (x0 :: x1 :: x2 :: x3 :: y :: y2 :: r) (.long v :: st) t h := by
  obtain ⟨p, l, e, R, s, m, args, below, meth, c, Q⟩ := G
  intro H locs la hH hS hl
  exact lv_lstore C.1 C.2.1 hd hl hn rfl (fun la2 hl2 => kk H locs la2 hH hS (zLs_st2 hl2 (fun j x hj hx => by cases hj; cases hx; exact hok)))
theorem zz_aload_4 {E : zE} {b : Nat} {G : zG} {own : String} {cc : ByteArray} {nL : Nat} {rt : Option FieldType} {cells slots pc : Nat} {t : zT} {h : zH} {x0 x1 x2 x3 : Option Value} {r : List (Option Value)} {st : List Value} (C : zCx E b G own cc nL rt) {v : Nat} (hd : decode cc pc = .ok (.aload 4, 2)) (kk : zAW E b G nL cells slots (pc + 2) (x0 :: x1 :: x2 :: x3 :: some (.ref v) :: r) (.ref v :: st) t h) : zAW E b G nL cells slots pc (x0 :: x1 :: x2 :: x3 :: some (.ref v) :: r) st t h := by
  obtain ⟨p, l, e, R, s, m, args, below, meth, c, Q⟩ := G
  intro H locs la hH hS hl
  exact lv_aload C.1 C.2.1 hd (zLs_at (k := 4) hl rfl) (kk H locs la hH hS hl)
theorem zz_astore_4 {E : zE} {b : Nat} {G : zG} {own : String} {cc : ByteArray} {nL : Nat} {rt : Option FieldType} {cells slots pc : Nat} {t : zT} {h : zH} {x0 x1 x2 x3 : Option Value} {y : Option Value} {r : List (Option Value)} {st : List Value} (C : zCx E b G own cc nL rt) {v : Nat} (hn : 4 < nL) (hok : zok x3 = true) (hd : decode cc pc = .ok (.astore 4, 2)) (kk : zAW E b G nL cells slots (pc + 2) (x0 :: x1 :: x2 :: x3 :: some (.ref v) :: r) st t h) : zAW E b G nL cells slots pc (x0 :: x1 :: x2 :: x3 :: y :: r) (.ref v :: st) t h := by
  obtain ⟨p, l, e, R, s, m, args, below, meth, c, Q⟩ := G
  intro H locs la hH hS hl
  exact lv_astore C.1 C.2.1 hd hl hn rfl (fun la2 hl2 => kk H locs la2 hH hS (zLs_st1 hl2 (fun j x hj hx => by cases hj; cases hx; exact hok)))
theorem zz_iinc_4 {E : zE} {b : Nat} {G : zG} {own : String} {cc : ByteArray} {nL : Nat} {rt : Option FieldType} {cells slots pc : Nat} {t : zT} {h : zH} {x0 x1 x2 x3 : Option Value} {r : List (Option Value)} {st : List Value} (C : zCx E b G own cc nL rt) {v : Int32} {n : Int} (w : Int32) (hn : 4 < nL) (hok : zok x3 = true) (hd : decode cc pc = .ok (.iinc 4 n, 3)) (hv : v + Int32.ofInt n = w) (kk : zAW E b G nL cells slots (pc + 3) (x0 :: x1 :: x2 :: x3 :: some (.int w) :: r) st t h) : zAW E b G nL cells slots pc (x0 :: x1 :: x2 :: x3 :: some (.int v) :: r) st t h := by
  obtain ⟨p, l, e, R, s, m, args, below, meth, c, Q⟩ := G
  intro H locs la hH hS hl
  obtain ⟨q, hq⟩ := List.getElem?_of_mem ((zAs_mem (x0 :: x1 :: x2 :: x3 :: some (.int v) :: r) 0 4 (.int v)).mpr ⟨4, rfl, rfl⟩)
  exact lv_iinc C.1 C.2.1 hd hl hq hv hn rfl (fun la2 hl2 => kk H locs la2 hH hS (zLs_st1 hl2 (fun j x hj hx => by cases hj; cases hx; exact hok)))
theorem zz_iload_5 {E : zE} {b : Nat} {G : zG} {own : String} {cc : ByteArray} {nL : Nat} {rt : Option FieldType} {cells slots pc : Nat} {t : zT} {h : zH} {x0 x1 x2 x3 x4 : Option Value} {r : List (Option Value)} {st : List Value} (C : zCx E b G own cc nL rt) {v : Int32} (hd : decode cc pc = .ok (.iload 5, 2)) (kk : zAW E b G nL cells slots (pc + 2) (x0 :: x1 :: x2 :: x3 :: x4 :: some (.int v) :: r) (.int v :: st) t h) : zAW E b G nL cells slots pc (x0 :: x1 :: x2 :: x3 :: x4 :: some (.int v) :: r) st t h := by
  obtain ⟨p, l, e, R, s, m, args, below, meth, c, Q⟩ := G
  intro H locs la hH hS hl
  exact lv_iload C.1 C.2.1 hd (zLs_at (k := 5) hl rfl) (kk H locs la hH hS hl)
theorem zz_istore_5 {E : zE} {b : Nat} {G : zG} {own : String} {cc : ByteArray} {nL : Nat} {rt : Option FieldType} {cells slots pc : Nat} {t : zT} {h : zH} {x0 x1 x2 x3 x4 : Option Value} {y : Option Value} {r : List (Option Value)} {st : List Value} (C : zCx E b G own cc nL rt) {v : Int32} (hn : 5 < nL) (hok : zok x4 = true) (hd : decode cc pc = .ok (.istore 5, 2)) (kk : zAW E b G nL cells slots (pc + 2) (x0 :: x1 :: x2 :: x3 :: x4 :: some (.int v) :: r) st t h) : zAW E b G nL cells slots pc (x0 :: x1 :: x2 :: x3 :: x4 :: y :: r) (.int v :: st) t h := by
  obtain ⟨p, l, e, R, s, m, args, below, meth, c, Q⟩ := G
  intro H locs la hH hS hl
  exact lv_istore C.1 C.2.1 hd hl hn rfl (fun la2 hl2 => kk H locs la2 hH hS (zLs_st1 hl2 (fun j x hj hx => by cases hj; cases hx; exact hok)))
theorem zz_lload_5 {E : zE} {b : Nat} {G : zG} {own : String} {cc : ByteArray} {nL : Nat} {rt : Option FieldType} {cells slots pc : Nat} {t : zT} {h : zH} {x0 x1 x2 x3 x4 : Option Value} {r : List (Option Value)} {st : List Value} (C : zCx E b G own cc nL rt) {v : Int64} (hd : decode cc pc = .ok (.lload 5, 2)) (kk : zAW E b G nL cells slots (pc + 2) (x0 :: x1 :: x2 :: x3 :: x4 :: some (.long v) :: r) (.long v :: st) t h) : zAW E b G nL cells slots pc (x0 :: x1 :: x2 :: x3 :: x4 :: some (.long v) :: r) st t h := by
  obtain ⟨p, l, e, R, s, m, args, below, meth, c, Q⟩ := G
  intro H locs la hH hS hl
  exact lv_lload C.1 C.2.1 hd (zLs_at (k := 5) hl rfl) (kk H locs la hH hS hl)
theorem zz_lstore_5 {E : zE} {b : Nat} {G : zG} {own : String} {cc : ByteArray} {nL : Nat} {rt : Option FieldType} {cells slots pc : Nat} {t : zT} {h : zH} {x0 x1 x2 x3 x4 : Option Value} {y y2 : Option Value} {r : List (Option Value)} {st : List Value} (C : zCx E b G own cc nL rt) {v : Int64} (hn : 6 < nL) (hok : zok x4 = true) (hd : decode cc pc = .ok (.lstore 5, 2)) (kk : zAW E b G nL cells slots (pc + 2) (x0 :: x1 :: x2 :: x3 :: x4 :: some (.long v) :: none :: r) st t h) : zAW E b G nL cells slots pc (x0 :: x1 :: x2 :: x3 :: x4 :: y :: y2 :: r) (.long v :: st) t h := by
  obtain ⟨p, l, e, R, s, m, args, below, meth, c, Q⟩ := G
  intro H locs la hH hS hl
  exact lv_lstore C.1 C.2.1 hd hl hn rfl (fun la2 hl2 => kk H locs la2 hH hS (zLs_st2 hl2 (fun j x hj hx => by cases hj; cases hx; exact hok)))
theorem zz_aload_5 {E : zE} {b : Nat} {G : zG} {own : String} {cc : ByteArray} {nL : Nat} {rt : Option FieldType} {cells slots pc : Nat} {t : zT} {h : zH} {x0 x1 x2 x3 x4 : Option Value} {r : List (Option Value)} {st : List Value} (C : zCx E b G own cc nL rt) {v : Nat} (hd : decode cc pc = .ok (.aload 5, 2)) (kk : zAW E b G nL cells slots (pc + 2) (x0 :: x1 :: x2 :: x3 :: x4 :: some (.ref v) :: r) (.ref v :: st) t h) : zAW E b G nL cells slots pc (x0 :: x1 :: x2 :: x3 :: x4 :: some (.ref v) :: r) st t h := by
  obtain ⟨p, l, e, R, s, m, args, below, meth, c, Q⟩ := G
  intro H locs la hH hS hl
  exact lv_aload C.1 C.2.1 hd (zLs_at (k := 5) hl rfl) (kk H locs la hH hS hl)
theorem zz_astore_5 {E : zE} {b : Nat} {G : zG} {own : String} {cc : ByteArray} {nL : Nat} {rt : Option FieldType} {cells slots pc : Nat} {t : zT} {h : zH} {x0 x1 x2 x3 x4 : Option Value} {y : Option Value} {r : List (Option Value)} {st : List Value} (C : zCx E b G own cc nL rt) {v : Nat} (hn : 5 < nL) (hok : zok x4 = true) (hd : decode cc pc = .ok (.astore 5, 2)) (kk : zAW E b G nL cells slots (pc + 2) (x0 :: x1 :: x2 :: x3 :: x4 :: some (.ref v) :: r) st t h) : zAW E b G nL cells slots pc (x0 :: x1 :: x2 :: x3 :: x4 :: y :: r) (.ref v :: st) t h := by
  obtain ⟨p, l, e, R, s, m, args, below, meth, c, Q⟩ := G
  intro H locs la hH hS hl
  exact lv_astore C.1 C.2.1 hd hl hn rfl (fun la2 hl2 => kk H locs la2 hH hS (zLs_st1 hl2 (fun j x hj hx => by cases hj; cases hx; exact hok)))
theorem zz_iinc_5 {E : zE} {b : Nat} {G : zG} {own : String} {cc : ByteArray} {nL : Nat} {rt : Option FieldType} {cells slots pc : Nat} {t : zT} {h : zH} {x0 x1 x2 x3 x4 : Option Value} {r : List (Option Value)} {st : List Value} (C : zCx E b G own cc nL rt) {v : Int32} {n : Int} (w : Int32) (hn : 5 < nL) (hok : zok x4 = true) (hd : decode cc pc = .ok (.iinc 5 n, 3)) (hv : v + Int32.ofInt n = w) (kk : zAW E b G nL cells slots (pc + 3) (x0 :: x1 :: x2 :: x3 :: x4 :: some (.int w) :: r) st t h) : zAW E b G nL cells slots pc (x0 :: x1 :: x2 :: x3 :: x4 :: some (.int v) :: r) st t h := by
  obtain ⟨p, l, e, R, s, m, args, below, meth, c, Q⟩ := G
  intro H locs la hH hS hl
  obtain ⟨q, hq⟩ := List.getElem?_of_mem ((zAs_mem (x0 :: x1 :: x2 :: x3 :: x4 :: some (.int v) :: r) 0 5 (.int v)).mpr ⟨5, rfl, rfl⟩)
  exact lv_iinc C.1 C.2.1 hd hl hq hv hn rfl (fun la2 hl2 => kk H locs la2 hH hS (zLs_st1 hl2 (fun j x hj hx => by cases hj; cases hx; exact hok)))
theorem zz_iload_6 {E : zE} {b : Nat} {G : zG} {own : String} {cc : ByteArray} {nL : Nat} {rt : Option FieldType} {cells slots pc : Nat} {t : zT} {h : zH} {x0 x1 x2 x3 x4 x5 : Option Value} {r : List (Option Value)} {st : List Value} (C : zCx E b G own cc nL rt) {v : Int32} (hd : decode cc pc = .ok (.iload 6, 2)) (kk : zAW E b G nL cells slots (pc + 2) (x0 :: x1 :: x2 :: x3 :: x4 :: x5 :: some (.int v) :: r) (.int v :: st) t h) : zAW E b G nL cells slots pc (x0 :: x1 :: x2 :: x3 :: x4 :: x5 :: some (.int v) :: r) st t h := by
  obtain ⟨p, l, e, R, s, m, args, below, meth, c, Q⟩ := G
  intro H locs la hH hS hl
  exact lv_iload C.1 C.2.1 hd (zLs_at (k := 6) hl rfl) (kk H locs la hH hS hl)
theorem zz_istore_6 {E : zE} {b : Nat} {G : zG} {own : String} {cc : ByteArray} {nL : Nat} {rt : Option FieldType} {cells slots pc : Nat} {t : zT} {h : zH} {x0 x1 x2 x3 x4 x5 : Option Value} {y : Option Value} {r : List (Option Value)} {st : List Value} (C : zCx E b G own cc nL rt) {v : Int32} (hn : 6 < nL) (hok : zok x5 = true) (hd : decode cc pc = .ok (.istore 6, 2)) (kk : zAW E b G nL cells slots (pc + 2) (x0 :: x1 :: x2 :: x3 :: x4 :: x5 :: some (.int v) :: r) st t h) : zAW E b G nL cells slots pc (x0 :: x1 :: x2 :: x3 :: x4 :: x5 :: y :: r) (.int v :: st) t h := by
  obtain ⟨p, l, e, R, s, m, args, below, meth, c, Q⟩ := G
  intro H locs la hH hS hl
  exact lv_istore C.1 C.2.1 hd hl hn rfl (fun la2 hl2 => kk H locs la2 hH hS (zLs_st1 hl2 (fun j x hj hx => by cases hj; cases hx; exact hok)))
theorem zz_lload_6 {E : zE} {b : Nat} {G : zG} {own : String} {cc : ByteArray} {nL : Nat} {rt : Option FieldType} {cells slots pc : Nat} {t : zT} {h : zH} {x0 x1 x2 x3 x4 x5 : Option Value} {r : List (Option Value)} {st : List Value} (C : zCx E b G own cc nL rt) {v : Int64} (hd : decode cc pc = .ok (.lload 6, 2)) (kk : zAW E b G nL cells slots (pc + 2) (x0 :: x1 :: x2 :: x3 :: x4 :: x5 :: some (.long v) :: r) (.long v :: st) t h) : zAW E b G nL cells slots pc (x0 :: x1 :: x2 :: x3 :: x4 :: x5 :: some (.long v) :: r) st t h := by
  obtain ⟨p, l, e, R, s, m, args, below, meth, c, Q⟩ := G
  intro H locs la hH hS hl
  exact lv_lload C.1 C.2.1 hd (zLs_at (k := 6) hl rfl) (kk H locs la hH hS hl)
theorem zz_lstore_6 {E : zE} {b : Nat} {G : zG} {own : String} {cc : ByteArray} {nL : Nat} {rt : Option FieldType} {cells slots pc : Nat} {t : zT} {h : zH} {x0 x1 x2 x3 x4 x5 : Option Value} {y y2 : Option Value} {r : List (Option Value)} {st : List Value} (C : zCx E b G own cc nL rt) {v : Int64} (hn : 7 < nL) (hok : zok x5 = true) (hd : decode cc pc = .ok (.lstore 6, 2)) (kk : zAW E b G nL cells slots (pc + 2) (x0 :: x1 :: x2 :: x3 :: x4 :: x5 :: some (.long v) :: none :: r) st t h) : zAW E b G nL cells slots pc (x0 :: x1 :: x2 :: x3 :: x4 :: x5 :: y :: y2 :: r) (.long v :: st) t h := by
  obtain ⟨p, l, e, R, s, m, args, below, meth, c, Q⟩ := G
  intro H locs la hH hS hl
  exact lv_lstore C.1 C.2.1 hd hl hn rfl (fun la2 hl2 => kk H locs la2 hH hS (zLs_st2 hl2 (fun j x hj hx => by cases hj; cases hx; exact hok)))
theorem zz_aload_6 {E : zE} {b : Nat} {G : zG} {own : String} {cc : ByteArray} {nL : Nat} {rt : Option FieldType} {cells slots pc : Nat} {t : zT} {h : zH} {x0 x1 x2 x3 x4 x5 : Option Value} {r : List (Option Value)} {st : List Value} (C : zCx E b G own cc nL rt) {v : Nat} (hd : decode cc pc = .ok (.aload 6, 2)) (kk : zAW E b G nL cells slots (pc + 2) (x0 :: x1 :: x2 :: x3 :: x4 :: x5 :: some (.ref v) :: r) (.ref v :: st) t h) : zAW E b G nL cells slots pc (x0 :: x1 :: x2 :: x3 :: x4 :: x5 :: some (.ref v) :: r) st t h := by
  obtain ⟨p, l, e, R, s, m, args, below, meth, c, Q⟩ := G
  intro H locs la hH hS hl
  exact lv_aload C.1 C.2.1 hd (zLs_at (k := 6) hl rfl) (kk H locs la hH hS hl)
theorem zz_astore_6 {E : zE} {b : Nat} {G : zG} {own : String} {cc : ByteArray} {nL : Nat} {rt : Option FieldType} {cells slots pc : Nat} {t : zT} {h : zH} {x0 x1 x2 x3 x4 x5 : Option Value} {y : Option Value} {r : List (Option Value)} {st : List Value} (C : zCx E b G own cc nL rt) {v : Nat} (hn : 6 < nL) (hok : zok x5 = true) (hd : decode cc pc = .ok (.astore 6, 2)) (kk : zAW E b G nL cells slots (pc + 2) (x0 :: x1 :: x2 :: x3 :: x4 :: x5 :: some (.ref v) :: r) st t h) : zAW E b G nL cells slots pc (x0 :: x1 :: x2 :: x3 :: x4 :: x5 :: y :: r) (.ref v :: st) t h := by
  obtain ⟨p, l, e, R, s, m, args, below, meth, c, Q⟩ := G
  intro H locs la hH hS hl
  exact lv_astore C.1 C.2.1 hd hl hn rfl (fun la2 hl2 => kk H locs la2 hH hS (zLs_st1 hl2 (fun j x hj hx => by cases hj; cases hx; exact hok)))
theorem zz_iinc_6 {E : zE} {b : Nat} {G : zG} {own : String} {cc : ByteArray} {nL : Nat} {rt : Option FieldType} {cells slots pc : Nat} {t : zT} {h : zH} {x0 x1 x2 x3 x4 x5 : Option Value} {r : List (Option Value)} {st : List Value} (C : zCx E b G own cc nL rt) {v : Int32} {n : Int} (w : Int32) (hn : 6 < nL) (hok : zok x5 = true) (hd : decode cc pc = .ok (.iinc 6 n, 3)) (hv : v + Int32.ofInt n = w) (kk : zAW E b G nL cells slots (pc + 3) (x0 :: x1 :: x2 :: x3 :: x4 :: x5 :: some (.int w) :: r) st t h) : zAW E b G nL cells slots pc (x0 :: x1 :: x2 :: x3 :: x4 :: x5 :: some (.int v) :: r) st t h := by
  obtain ⟨p, l, e, R, s, m, args, below, meth, c, Q⟩ := G
  intro H locs la hH hS hl
  obtain ⟨q, hq⟩ := List.getElem?_of_mem ((zAs_mem (x0 :: x1 :: x2 :: x3 :: x4 :: x5 :: some (.int v) :: r) 0 6 (.int v)).mpr ⟨6, rfl, rfl⟩)
  exact lv_iinc C.1 C.2.1 hd hl hq hv hn rfl (fun la2 hl2 => kk H locs la2 hH hS (zLs_st1 hl2 (fun j x hj hx => by cases hj; cases hx; exact hok)))
theorem zz_iload_7 {E : zE} {b : Nat} {G : zG} {own : String} {cc : ByteArray} {nL : Nat} {rt : Option FieldType} {cells slots pc : Nat} {t : zT} {h : zH} {x0 x1 x2 x3 x4 x5 x6 : Option Value} {r : List (Option Value)} {st : List Value} (C : zCx E b G own cc nL rt) {v : Int32} (hd : decode cc pc = .ok (.iload 7, 2)) (kk : zAW E b G nL cells slots (pc + 2) (x0 :: x1 :: x2 :: x3 :: x4 :: x5 :: x6 :: some (.int v) :: r) (.int v :: st) t h) : zAW E b G nL cells slots pc (x0 :: x1 :: x2 :: x3 :: x4 :: x5 :: x6 :: some (.int v) :: r) st t h := by
  obtain ⟨p, l, e, R, s, m, args, below, meth, c, Q⟩ := G
  intro H locs la hH hS hl
  exact lv_iload C.1 C.2.1 hd (zLs_at (k := 7) hl rfl) (kk H locs la hH hS hl)
theorem zz_istore_7 {E : zE} {b : Nat} {G : zG} {own : String} {cc : ByteArray} {nL : Nat} {rt : Option FieldType} {cells slots pc : Nat} {t : zT} {h : zH} {x0 x1 x2 x3 x4 x5 x6 : Option Value} {y : Option Value} {r : List (Option Value)} {st : List Value} (C : zCx E b G own cc nL rt) {v : Int32} (hn : 7 < nL) (hok : zok x6 = true) (hd : decode cc pc = .ok (.istore 7, 2)) (kk : zAW E b G nL cells slots (pc + 2) (x0 :: x1 :: x2 :: x3 :: x4 :: x5 :: x6 :: some (.int v) :: r) st t h) : zAW E b G nL cells slots pc (x0 :: x1 :: x2 :: x3 :: x4 :: x5 :: x6 :: y :: r) (.int v :: st) t h := by
  obtain ⟨p, l, e, R, s, m, args, below, meth, c, Q⟩ := G
  intro H locs la hH hS hl
  exact lv_istore C.1 C.2.1 hd hl hn rfl (fun la2 hl2 => kk H locs la2 hH hS (zLs_st1 hl2 (fun j x hj hx => by cases hj; cases hx; exact hok)))
theorem zz_lload_7 {E : zE} {b : Nat} {G : zG} {own : String} {cc : ByteArray} {nL : Nat} {rt : Option FieldType} {cells slots pc : Nat} {t : zT} {h : zH} {x0 x1 x2 x3 x4 x5 x6 : Option Value} {r : List (Option Value)} {st : List Value} (C : zCx E b G own cc nL rt) {v : Int64} (hd : decode cc pc = .ok (.lload 7, 2)) (kk : zAW E b G nL cells slots (pc + 2) (x0 :: x1 :: x2 :: x3 :: x4 :: x5 :: x6 :: some (.long v) :: r) (.long v :: st) t h) : zAW E b G nL cells slots pc (x0 :: x1 :: x2 :: x3 :: x4 :: x5 :: x6 :: some (.long v) :: r) st t h := by
  obtain ⟨p, l, e, R, s, m, args, below, meth, c, Q⟩ := G
  intro H locs la hH hS hl
  exact lv_lload C.1 C.2.1 hd (zLs_at (k := 7) hl rfl) (kk H locs la hH hS hl)
theorem zz_lstore_7 {E : zE} {b : Nat} {G : zG} {own : String} {cc : ByteArray} {nL : Nat} {rt : Option FieldType} {cells slots pc : Nat} {t : zT} {h : zH} {x0 x1 x2 x3 x4 x5 x6 : Option Value} {y y2 : Option Value} {r : List (Option Value)} {st : List Value} (C : zCx E b G own cc nL rt) {v : Int64} (hn : 8 < nL) (hok : zok x6 = true) (hd : decode cc pc = .ok (.lstore 7, 2)) (kk : zAW E b G nL cells slots (pc + 2) (x0 :: x1 :: x2 :: x3 :: x4 :: x5 :: x6 :: some (.long v) :: none :: r) st t h) : zAW E b G nL cells slots pc (x0 :: x1 :: x2 :: x3 :: x4 :: x5 :: x6 :: y :: y2 :: r) (.long v :: st) t h := by
  obtain ⟨p, l, e, R, s, m, args, below, meth, c, Q⟩ := G
  intro H locs la hH hS hl
  exact lv_lstore C.1 C.2.1 hd hl hn rfl (fun la2 hl2 => kk H locs la2 hH hS (zLs_st2 hl2 (fun j x hj hx => by cases hj; cases hx; exact hok)))
theorem zz_aload_7 {E : zE} {b : Nat} {G : zG} {own : String} {cc : ByteArray} {nL : Nat} {rt : Option FieldType} {cells slots pc : Nat} {t : zT} {h : zH} {x0 x1 x2 x3 x4 x5 x6 : Option Value} {r : List (Option Value)} {st : List Value} (C : zCx E b G own cc nL rt) {v : Nat} (hd : decode cc pc = .ok (.aload 7, 2)) (kk : zAW E b G nL cells slots (pc + 2) (x0 :: x1 :: x2 :: x3 :: x4 :: x5 :: x6 :: some (.ref v) :: r) (.ref v :: st) t h) : zAW E b G nL cells slots pc (x0 :: x1 :: x2 :: x3 :: x4 :: x5 :: x6 :: some (.ref v) :: r) st t h := by
  obtain ⟨p, l, e, R, s, m, args, below, meth, c, Q⟩ := G
  intro H locs la hH hS hl
  exact lv_aload C.1 C.2.1 hd (zLs_at (k := 7) hl rfl) (kk H locs la hH hS hl)
theorem zz_astore_7 {E : zE} {b : Nat} {G : zG} {own : String} {cc : ByteArray} {nL : Nat} {rt : Option FieldType} {cells slots pc : Nat} {t : zT} {h : zH} {x0 x1 x2 x3 x4 x5 x6 : Option Value} {y : Option Value} {r : List (Option Value)} {st : List Value} (C : zCx E b G own cc nL rt) {v : Nat} (hn : 7 < nL) (hok : zok x6 = true) (hd : decode cc pc = .ok (.astore 7, 2)) (kk : zAW E b G nL cells slots (pc + 2) (x0 :: x1 :: x2 :: x3 :: x4 :: x5 :: x6 :: some (.ref v) :: r) st t h) : zAW E b G nL cells slots pc (x0 :: x1 :: x2 :: x3 :: x4 :: x5 :: x6 :: y :: r) (.ref v :: st) t h := by
  obtain ⟨p, l, e, R, s, m, args, below, meth, c, Q⟩ := G
  intro H locs la hH hS hl
  exact lv_astore C.1 C.2.1 hd hl hn rfl (fun la2 hl2 => kk H locs la2 hH hS (zLs_st1 hl2 (fun j x hj hx => by cases hj; cases hx; exact hok)))
theorem zz_iinc_7 {E : zE} {b : Nat} {G : zG} {own : String} {cc : ByteArray} {nL : Nat} {rt : Option FieldType} {cells slots pc : Nat} {t : zT} {h : zH} {x0 x1 x2 x3 x4 x5 x6 : Option Value} {r : List (Option Value)} {st : List Value} (C : zCx E b G own cc nL rt) {v : Int32} {n : Int} (w : Int32) (hn : 7 < nL) (hok : zok x6 = true) (hd : decode cc pc = .ok (.iinc 7 n, 3)) (hv : v + Int32.ofInt n = w) (kk : zAW E b G nL cells slots (pc + 3) (x0 :: x1 :: x2 :: x3 :: x4 :: x5 :: x6 :: some (.int w) :: r) st t h) : zAW E b G nL cells slots pc (x0 :: x1 :: x2 :: x3 :: x4 :: x5 :: x6 :: some (.int v) :: r) st t h := by
  obtain ⟨p, l, e, R, s, m, args, below, meth, c, Q⟩ := G
  intro H locs la hH hS hl
  obtain ⟨q, hq⟩ := List.getElem?_of_mem ((zAs_mem (x0 :: x1 :: x2 :: x3 :: x4 :: x5 :: x6 :: some (.int v) :: r) 0 7 (.int v)).mpr ⟨7, rfl, rfl⟩)
  exact lv_iinc C.1 C.2.1 hd hl hq hv hn rfl (fun la2 hl2 => kk H locs la2 hH hS (zLs_st1 hl2 (fun j x hj hx => by cases hj; cases hx; exact hok)))
theorem zz_iload_8 {E : zE} {b : Nat} {G : zG} {own : String} {cc : ByteArray} {nL : Nat} {rt : Option FieldType} {cells slots pc : Nat} {t : zT} {h : zH} {x0 x1 x2 x3 x4 x5 x6 x7 : Option Value} {r : List (Option Value)} {st : List Value} (C : zCx E b G own cc nL rt) {v : Int32} (hd : decode cc pc = .ok (.iload 8, 2)) (kk : zAW E b G nL cells slots (pc + 2) (x0 :: x1 :: x2 :: x3 :: x4 :: x5 :: x6 :: x7 :: some (.int v) :: r) (.int v :: st) t h) : zAW E b G nL cells slots pc (x0 :: x1 :: x2 :: x3 :: x4 :: x5 :: x6 :: x7 :: some (.int v) :: r) st t h := by
  obtain ⟨p, l, e, R, s, m, args, below, meth, c, Q⟩ := G
  intro H locs la hH hS hl
  exact lv_iload C.1 C.2.1 hd (zLs_at (k := 8) hl rfl) (kk H locs la hH hS hl)
theorem zz_istore_8 {E : zE} {b : Nat} {G : zG} {own : String} {cc : ByteArray} {nL : Nat} {rt : Option FieldType} {cells slots pc : Nat} {t : zT} {h : zH} {x0 x1 x2 x3 x4 x5 x6 x7 : Option Value} {y : Option Value} {r : List (Option Value)} {st : List Value} (C : zCx E b G own cc nL rt) {v : Int32} (hn : 8 < nL) (hok : zok x7 = true) (hd : decode cc pc = .ok (.istore 8, 2)) (kk : zAW E b G nL cells slots (pc + 2) (x0 :: x1 :: x2 :: x3 :: x4 :: x5 :: x6 :: x7 :: some (.int v) :: r) st t h) : zAW E b G nL cells slots pc (x0 :: x1 :: x2 :: x3 :: x4 :: x5 :: x6 :: x7 :: y :: r) (.int v :: st) t h := by
  obtain ⟨p, l, e, R, s, m, args, below, meth, c, Q⟩ := G
  intro H locs la hH hS hl
  exact lv_istore C.1 C.2.1 hd hl hn rfl (fun la2 hl2 => kk H locs la2 hH hS (zLs_st1 hl2 (fun j x hj hx => by cases hj; cases hx; exact hok)))
theorem zz_lload_8 {E : zE} {b : Nat} {G : zG} {own : String} {cc : ByteArray} {nL : Nat} {rt : Option FieldType} {cells slots pc : Nat} {t : zT} {h : zH} {x0 x1 x2 x3 x4 x5 x6 x7 : Option Value} {r : List (Option Value)} {st : List Value} (C : zCx E b G own cc nL rt) {v : Int64} (hd : decode cc pc = .ok (.lload 8, 2)) (kk : zAW E b G nL cells slots (pc + 2) (x0 :: x1 :: x2 :: x3 :: x4 :: x5 :: x6 :: x7 :: some (.long v) :: r) (.long v :: st) t h) : zAW E b G nL cells slots pc (x0 :: x1 :: x2 :: x3 :: x4 :: x5 :: x6 :: x7 :: some (.long v) :: r) st t h := by
  obtain ⟨p, l, e, R, s, m, args, below, meth, c, Q⟩ := G
  intro H locs la hH hS hl
  exact lv_lload C.1 C.2.1 hd (zLs_at (k := 8) hl rfl) (kk H locs la hH hS hl)
theorem zz_lstore_8 {E : zE} {b : Nat} {G : zG} {own : String} {cc : ByteArray} {nL : Nat} {rt : Option FieldType} {cells slots pc : Nat} {t : zT} {h : zH} {x0 x1 x2 x3 x4 x5 x6 x7 : Option Value} {y y2 : Option Value} {r : List (Option Value)} {st : List Value} (C : zCx E b G own cc nL rt) {v : Int64} (hn : 9 < nL) (hok : zok x7 = true) (hd : decode cc pc = .ok (.lstore 8, 2)) (kk : zAW E b G nL cells slots (pc + 2) (x0 :: x1 :: x2 :: x3 :: x4 :: x5 :: x6 :: x7 :: some (.long v) :: none :: r) st t h) : zAW E b G nL cells slots pc (x0 :: x1 :: x2 :: x3 :: x4 :: x5 :: x6 :: x7 :: y :: y2 :: r) (.long v :: st) t h := by
  obtain ⟨p, l, e, R, s, m, args, below, meth, c, Q⟩ := G
  intro H locs la hH hS hl
  exact lv_lstore C.1 C.2.1 hd hl hn rfl (fun la2 hl2 => kk H locs la2 hH hS (zLs_st2 hl2 (fun j x hj hx => by cases hj; cases hx; exact hok)))
theorem zz_aload_8 {E : zE} {b : Nat} {G : zG} {own : String} {cc : ByteArray} {nL : Nat} {rt : Option FieldType} {cells slots pc : Nat} {t : zT} {h : zH} {x0 x1 x2 x3 x4 x5 x6 x7 : Option Value} {r : List (Option Value)} {st : List Value} (C : zCx E b G own cc nL rt) {v : Nat} (hd : decode cc pc = .ok (.aload 8, 2)) (kk : zAW E b G nL cells slots (pc + 2) (x0 :: x1 :: x2 :: x3 :: x4 :: x5 :: x6 :: x7 :: some (.ref v) :: r) (.ref v :: st) t h) : zAW E b G nL cells slots pc (x0 :: x1 :: x2 :: x3 :: x4 :: x5 :: x6 :: x7 :: some (.ref v) :: r) st t h := by
  obtain ⟨p, l, e, R, s, m, args, below, meth, c, Q⟩ := G
  intro H locs la hH hS hl
  exact lv_aload C.1 C.2.1 hd (zLs_at (k := 8) hl rfl) (kk H locs la hH hS hl)
theorem zz_astore_8 {E : zE} {b : Nat} {G : zG} {own : String} {cc : ByteArray} {nL : Nat} {rt : Option FieldType} {cells slots pc : Nat} {t : zT} {h : zH} {x0 x1 x2 x3 x4 x5 x6 x7 : Option Value} {y : Option Value} {r : List (Option Value)} {st : List Value} (C : zCx E b G own cc nL rt) {v : Nat} (hn : 8 < nL) (hok : zok x7 = true) (hd : decode cc pc = .ok (.astore 8, 2)) (kk : zAW E b G nL cells slots (pc + 2) (x0 :: x1 :: x2 :: x3 :: x4 :: x5 :: x6 :: x7 :: some (.ref v) :: r) st t h) : zAW E b G nL cells slots pc (x0 :: x1 :: x2 :: x3 :: x4 :: x5 :: x6 :: x7 :: y :: r) (.ref v :: st) t h := by
  obtain ⟨p, l, e, R, s, m, args, below, meth, c, Q⟩ := G
  intro H locs la hH hS hl
  exact lv_astore C.1 C.2.1 hd hl hn rfl (fun la2 hl2 => kk H locs la2 hH hS (zLs_st1 hl2 (fun j x hj hx => by cases hj; cases hx; exact hok)))
theorem zz_iinc_8 {E : zE} {b : Nat} {G : zG} {own : String} {cc : ByteArray} {nL : Nat} {rt : Option FieldType} {cells slots pc : Nat} {t : zT} {h : zH} {x0 x1 x2 x3 x4 x5 x6 x7 : Option Value} {r : List (Option Value)} {st : List Value} (C : zCx E b G own cc nL rt) {v : Int32} {n : Int} (w : Int32) (hn : 8 < nL) (hok : zok x7 = true) (hd : decode cc pc = .ok (.iinc 8 n, 3)) (hv : v + Int32.ofInt n = w) (kk : zAW E b G nL cells slots (pc + 3) (x0 :: x1 :: x2 :: x3 :: x4 :: x5 :: x6 :: x7 :: some (.int w) :: r) st t h) : zAW E b G nL cells slots pc (x0 :: x1 :: x2 :: x3 :: x4 :: x5 :: x6 :: x7 :: some (.int v) :: r) st t h := by
  obtain ⟨p, l, e, R, s, m, args, below, meth, c, Q⟩ := G
  intro H locs la hH hS hl
  obtain ⟨q, hq⟩ := List.getElem?_of_mem ((zAs_mem (x0 :: x1 :: x2 :: x3 :: x4 :: x5 :: x6 :: x7 :: some (.int v) :: r) 0 8 (.int v)).mpr ⟨8, rfl, rfl⟩)
  exact lv_iinc C.1 C.2.1 hd hl hq hv hn rfl (fun la2 hl2 => kk H locs la2 hH hS (zLs_st1 hl2 (fun j x hj hx => by cases hj; cases hx; exact hok)))
theorem zz_iload_9 {E : zE} {b : Nat} {G : zG} {own : String} {cc : ByteArray} {nL : Nat} {rt : Option FieldType} {cells slots pc : Nat} {t : zT} {h : zH} {x0 x1 x2 x3 x4 x5 x6 x7 x8 : Option Value} {r : List (Option Value)} {st : List Value} (C : zCx E b G own cc nL rt) {v : Int32} (hd : decode cc pc = .ok (.iload 9, 2)) (kk : zAW E b G nL cells slots (pc + 2) (x0 :: x1 :: x2 :: x3 :: x4 :: x5 :: x6 :: x7 :: x8 :: some (.int v) :: r) (.int v :: st) t h) : zAW E b G nL cells slots pc (x0 :: x1 :: x2 :: x3 :: x4 :: x5 :: x6 :: x7 :: x8 :: some (.int v) :: r) st t h := by
  obtain ⟨p, l, e, R, s, m, args, below, meth, c, Q⟩ := G
  intro H locs la hH hS hl
  exact lv_iload C.1 C.2.1 hd (zLs_at (k := 9) hl rfl) (kk H locs la hH hS hl)
theorem zz_istore_9 {E : zE} {b : Nat} {G : zG} {own : String} {cc : ByteArray} {nL : Nat} {rt : Option FieldType} {cells slots pc : Nat} {t : zT} {h : zH} {x0 x1 x2 x3 x4 x5 x6 x7 x8 : Option Value} {y : Option Value} {r : List (Option Value)} {st : List Value} (C : zCx E b G own cc nL rt) {v : Int32} (hn : 9 < nL) (hok : zok x8 = true) (hd : decode cc pc = .ok (.istore 9, 2)) (kk : zAW E b G nL cells slots (pc + 2) (x0 :: x1 :: x2 :: x3 :: x4 :: x5 :: x6 :: x7 :: x8 :: some (.int v) :: r) st t h) : zAW E b G nL cells slots pc (x0 :: x1 :: x2 :: x3 :: x4 :: x5 :: x6 :: x7 :: x8 :: y :: r) (.int v :: st) t h := by
  obtain ⟨p, l, e, R, s, m, args, below, meth, c, Q⟩ := G
  intro H locs la hH hS hl
  exact lv_istore C.1 C.2.1 hd hl hn rfl (fun la2 hl2 => kk H locs la2 hH hS (zLs_st1 hl2 (fun j x hj hx => by cases hj; cases hx; exact hok)))
theorem zz_lload_9 {E : zE} {b : Nat} {G : zG} {own : String} {cc : ByteArray} {nL : Nat} {rt : Option FieldType} {cells slots pc : Nat} {t : zT} {h : zH} {x0 x1 x2 x3 x4 x5 x6 x7 x8 : Option Value} {r : List (Option Value)} {st : List Value} (C : zCx E b G own cc nL rt) {v : Int64} (hd : decode cc pc = .ok (.lload 9, 2)) (kk : zAW E b G nL cells slots (pc + 2) (x0 :: x1 :: x2 :: x3 :: x4 :: x5 :: x6 :: x7 :: x8 :: some (.long v) :: r) (.long v :: st) t h) : zAW E b G nL cells slots pc (x0 :: x1 :: x2 :: x3 :: x4 :: x5 :: x6 :: x7 :: x8 :: some (.long v) :: r) st t h := by
  obtain ⟨p, l, e, R, s, m, args, below, meth, c, Q⟩ := G
  intro H locs la hH hS hl
  exact lv_lload C.1 C.2.1 hd (zLs_at (k := 9) hl rfl) (kk H locs la hH hS hl)
theorem zz_lstore_9 {E : zE} {b : Nat} {G : zG} {own : String} {cc : ByteArray} {nL : Nat} {rt : Option FieldType} {cells slots pc : Nat} {t : zT} {h : zH} {x0 x1 x2 x3 x4 x5 x6 x7 x8 : Option Value} {y y2 : Option Value} {r : List (Option Value)} {st : List Value} (C : zCx E b G own cc nL rt) {v : Int64} (hn : 10 < nL) (hok : zok x8 = true) (hd : decode cc pc = .ok (.lstore 9, 2)) (kk : zAW E b G nL cells slots (pc + 2) (x0 :: x1 :: x2 :: x3 :: x4 :: x5 :: x6 :: x7 :: x8 :: some (.long v) :: none :: r) st t h) : zAW E b G nL cells slots pc (x0 :: x1 :: x2 :: x3 :: x4 :: x5 :: x6 :: x7 :: x8 :: y :: y2 :: r) (.long v :: st) t h := by
  obtain ⟨p, l, e, R, s, m, args, below, meth, c, Q⟩ := G
  intro H locs la hH hS hl
  exact lv_lstore C.1 C.2.1 hd hl hn rfl (fun la2 hl2 => kk H locs la2 hH hS (zLs_st2 hl2 (fun j x hj hx => by cases hj; cases hx; exact hok)))
theorem zz_aload_9 {E : zE} {b : Nat} {G : zG} {own : String} {cc : ByteArray} {nL : Nat} {rt : Option FieldType} {cells slots pc : Nat} {t : zT} {h : zH} {x0 x1 x2 x3 x4 x5 x6 x7 x8 : Option Value} {r : List (Option Value)} {st : List Value} (C : zCx E b G own cc nL rt) {v : Nat} (hd : decode cc pc = .ok (.aload 9, 2)) (kk : zAW E b G nL cells slots (pc + 2) (x0 :: x1 :: x2 :: x3 :: x4 :: x5 :: x6 :: x7 :: x8 :: some (.ref v) :: r) (.ref v :: st) t h) : zAW E b G nL cells slots pc (x0 :: x1 :: x2 :: x3 :: x4 :: x5 :: x6 :: x7 :: x8 :: some (.ref v) :: r) st t h := by
  obtain ⟨p, l, e, R, s, m, args, below, meth, c, Q⟩ := G
  intro H locs la hH hS hl
  exact lv_aload C.1 C.2.1 hd (zLs_at (k := 9) hl rfl) (kk H locs la hH hS hl)
theorem zz_astore_9 {E : zE} {b : Nat} {G : zG} {own : String} {cc : ByteArray} {nL : Nat} {rt : Option FieldType} {cells slots pc : Nat} {t : zT} {h : zH} {x0 x1 x2 x3 x4 x5 x6 x7 x8 : Option Value} {y : Option Value} {r : List (Option Value)} {st : List Value} (C : zCx E b G own cc nL rt) {v : Nat} (hn : 9 < nL) (hok : zok x8 = true) (hd : decode cc pc = .ok (.astore 9, 2)) (kk : zAW E b G nL cells slots (pc + 2) (x0 :: x1 :: x2 :: x3 :: x4 :: x5 :: x6 :: x7 :: x8 :: some (.ref v) :: r) st t h) : zAW E b G nL cells slots pc (x0 :: x1 :: x2 :: x3 :: x4 :: x5 :: x6 :: x7 :: x8 :: y :: r) (.ref v :: st) t h := by
  obtain ⟨p, l, e, R, s, m, args, below, meth, c, Q⟩ := G
  intro H locs la hH hS hl
  exact lv_astore C.1 C.2.1 hd hl hn rfl (fun la2 hl2 => kk H locs la2 hH hS (zLs_st1 hl2 (fun j x hj hx => by cases hj; cases hx; exact hok)))
theorem zz_iinc_9 {E : zE} {b : Nat} {G : zG} {own : String} {cc : ByteArray} {nL : Nat} {rt : Option FieldType} {cells slots pc : Nat} {t : zT} {h : zH} {x0 x1 x2 x3 x4 x5 x6 x7 x8 : Option Value} {r : List (Option Value)} {st : List Value} (C : zCx E b G own cc nL rt) {v : Int32} {n : Int} (w : Int32) (hn : 9 < nL) (hok : zok x8 = true) (hd : decode cc pc = .ok (.iinc 9 n, 3)) (hv : v + Int32.ofInt n = w) (kk : zAW E b G nL cells slots (pc + 3) (x0 :: x1 :: x2 :: x3 :: x4 :: x5 :: x6 :: x7 :: x8 :: some (.int w) :: r) st t h) : zAW E b G nL cells slots pc (x0 :: x1 :: x2 :: x3 :: x4 :: x5 :: x6 :: x7 :: x8 :: some (.int v) :: r) st t h := by
  obtain ⟨p, l, e, R, s, m, args, below, meth, c, Q⟩ := G
  intro H locs la hH hS hl
  obtain ⟨q, hq⟩ := List.getElem?_of_mem ((zAs_mem (x0 :: x1 :: x2 :: x3 :: x4 :: x5 :: x6 :: x7 :: x8 :: some (.int v) :: r) 0 9 (.int v)).mpr ⟨9, rfl, rfl⟩)
  exact lv_iinc C.1 C.2.1 hd hl hq hv hn rfl (fun la2 hl2 => kk H locs la2 hH hS (zLs_st1 hl2 (fun j x hj hx => by cases hj; cases hx; exact hok)))
theorem zz_iload_10 {E : zE} {b : Nat} {G : zG} {own : String} {cc : ByteArray} {nL : Nat} {rt : Option FieldType} {cells slots pc : Nat} {t : zT} {h : zH} {x0 x1 x2 x3 x4 x5 x6 x7 x8 x9 : Option Value} {r : List (Option Value)} {st : List Value} (C : zCx E b G own cc nL rt) {v : Int32} (hd : decode cc pc = .ok (.iload 10, 2)) (kk : zAW E b G nL cells slots (pc + 2) (x0 :: x1 :: x2 :: x3 :: x4 :: x5 :: x6 :: x7 :: x8 :: x9 :: some (.int v) :: r) (.int v :: st) t h) : zAW E b G nL cells slots pc (x0 :: x1 :: x2 :: x3 :: x4 :: x5 :: x6 :: x7 :: x8 :: x9 :: some (.int v) :: r) st t h := by
  obtain ⟨p, l, e, R, s, m, args, below, meth, c, Q⟩ := G
  intro H locs la hH hS hl
  exact lv_iload C.1 C.2.1 hd (zLs_at (k := 10) hl rfl) (kk H locs la hH hS hl)
theorem zz_istore_10 {E : zE} {b : Nat} {G : zG} {own : String} {cc : ByteArray} {nL : Nat} {rt : Option FieldType} {cells slots pc : Nat} {t : zT} {h : zH} {x0 x1 x2 x3 x4 x5 x6 x7 x8 x9 : Option Value} {y : Option Value} {r : List (Option Value)} {st : List Value} (C : zCx E b G own cc nL rt) {v : Int32} (hn : 10 < nL) (hok : zok x9 = true) (hd : decode cc pc = .ok (.istore 10, 2)) (kk : zAW E b G nL cells slots (pc + 2) (x0 :: x1 :: x2 :: x3 :: x4 :: x5 :: x6 :: x7 :: x8 :: x9 :: some (.int v) :: r) st t h) : zAW E b G nL cells slots pc (x0 :: x1 :: x2 :: x3 :: x4 :: x5 :: x6 :: x7 :: x8 :: x9 :: y :: r) (.int v :: st) t h := by
  obtain ⟨p, l, e, R, s, m, args, below, meth, c, Q⟩ := G
  intro H locs la hH hS hl
  exact lv_istore C.1 C.2.1 hd hl hn rfl (fun la2 hl2 => kk H locs la2 hH hS (zLs_st1 hl2 (fun j x hj hx => by cases hj; cases hx; exact hok)))
theorem zz_lload_10 {E : zE} {b : Nat} {G : zG} {own : String} {cc : ByteArray} {nL : Nat} {rt : Option FieldType} {cells slots pc : Nat} {t : zT} {h : zH} {x0 x1 x2 x3 x4 x5 x6 x7 x8 x9 : Option Value} {r : List (Option Value)} {st : List Value} (C : zCx E b G own cc nL rt) {v : Int64} (hd : decode cc pc = .ok (.lload 10, 2)) (kk : zAW E b G nL cells slots (pc + 2) (x0 :: x1 :: x2 :: x3 :: x4 :: x5 :: x6 :: x7 :: x8 :: x9 :: some (.long v) :: r) (.long v :: st) t h) : zAW E b G nL cells slots pc (x0 :: x1 :: x2 :: x3 :: x4 :: x5 :: x6 :: x7 :: x8 :: x9 :: some (.long v) :: r) st t h := by
  obtain ⟨p, l, e, R, s, m, args, below, meth, c, Q⟩ := G
  intro H locs la hH hS hl
  exact lv_lload C.1 C.2.1 hd (zLs_at (k := 10) hl rfl) (kk H locs la hH hS hl)
theorem zz_lstore_10 {E : zE} {b : Nat} {G : zG} {own : String} {cc : ByteArray} {nL : Nat} {rt : Option FieldType} {cells slots pc : Nat} {t : zT} {h : zH} {x0 x1 x2 x3 x4 x5 x6 x7 x8 x9 : Option Value} {y y2 : Option Value} {r : List (Option Value)} {st : List Value} (C : zCx E b G own cc nL rt) {v : Int64} (hn : 11 < nL) (hok : zok x9 = true) (hd : decode cc pc = .ok (.lstore 10, 2)) (kk : zAW E b G nL cells slots (pc + 2) (x0 :: x1 :: x2 :: x3 :: x4 :: x5 :: x6 :: x7 :: x8 :: x9 :: some (.long v) :: none :: r) st t h) : zAW E b G nL cells slots pc (x0 :: x1 :: x2 :: x3 :: x4 :: x5 :: x6 :: x7 :: x8 :: x9 :: y :: y2 :: r) (.long v :: st) t h := by
  obtain ⟨p, l, e, R, s, m, args, below, meth, c, Q⟩ := G
  intro H locs la hH hS hl
  exact lv_lstore C.1 C.2.1 hd hl hn rfl (fun la2 hl2 => kk H locs la2 hH hS (zLs_st2 hl2 (fun j x hj hx => by cases hj; cases hx; exact hok)))
theorem zz_aload_10 {E : zE} {b : Nat} {G : zG} {own : String} {cc : ByteArray} {nL : Nat} {rt : Option FieldType} {cells slots pc : Nat} {t : zT} {h : zH} {x0 x1 x2 x3 x4 x5 x6 x7 x8 x9 : Option Value} {r : List (Option Value)} {st : List Value} (C : zCx E b G own cc nL rt) {v : Nat} (hd : decode cc pc = .ok (.aload 10, 2)) (kk : zAW E b G nL cells slots (pc + 2) (x0 :: x1 :: x2 :: x3 :: x4 :: x5 :: x6 :: x7 :: x8 :: x9 :: some (.ref v) :: r) (.ref v :: st) t h) : zAW E b G nL cells slots pc (x0 :: x1 :: x2 :: x3 :: x4 :: x5 :: x6 :: x7 :: x8 :: x9 :: some (.ref v) :: r) st t h := by
  obtain ⟨p, l, e, R, s, m, args, below, meth, c, Q⟩ := G
  intro H locs la hH hS hl
  exact lv_aload C.1 C.2.1 hd (zLs_at (k := 10) hl rfl) (kk H locs la hH hS hl)
theorem zz_astore_10 {E : zE} {b : Nat} {G : zG} {own : String} {cc : ByteArray} {nL : Nat} {rt : Option FieldType} {cells slots pc : Nat} {t : zT} {h : zH} {x0 x1 x2 x3 x4 x5 x6 x7 x8 x9 : Option Value} {y : Option Value} {r : List (Option Value)} {st : List Value} (C : zCx E b G own cc nL rt) {v : Nat} (hn : 10 < nL) (hok : zok x9 = true) (hd : decode cc pc = .ok (.astore 10, 2)) (kk : zAW E b G nL cells slots (pc + 2) (x0 :: x1 :: x2 :: x3 :: x4 :: x5 :: x6 :: x7 :: x8 :: x9 :: some (.ref v) :: r) st t h) : zAW E b G nL cells slots pc (x0 :: x1 :: x2 :: x3 :: x4 :: x5 :: x6 :: x7 :: x8 :: x9 :: y :: r) (.ref v :: st) t h := by
  obtain ⟨p, l, e, R, s, m, args, below, meth, c, Q⟩ := G
  intro H locs la hH hS hl
  exact lv_astore C.1 C.2.1 hd hl hn rfl (fun la2 hl2 => kk H locs la2 hH hS (zLs_st1 hl2 (fun j x hj hx => by cases hj; cases hx; exact hok)))
theorem zz_iinc_10 {E : zE} {b : Nat} {G : zG} {own : String} {cc : ByteArray} {nL : Nat} {rt : Option FieldType} {cells slots pc : Nat} {t : zT} {h : zH} {x0 x1 x2 x3 x4 x5 x6 x7 x8 x9 : Option Value} {r : List (Option Value)} {st : List Value} (C : zCx E b G own cc nL rt) {v : Int32} {n : Int} (w : Int32) (hn : 10 < nL) (hok : zok x9 = true) (hd : decode cc pc = .ok (.iinc 10 n, 3)) (hv : v + Int32.ofInt n = w) (kk : zAW E b G nL cells slots (pc + 3) (x0 :: x1 :: x2 :: x3 :: x4 :: x5 :: x6 :: x7 :: x8 :: x9 :: some (.int w) :: r) st t h) : zAW E b G nL cells slots pc (x0 :: x1 :: x2 :: x3 :: x4 :: x5 :: x6 :: x7 :: x8 :: x9 :: some (.int v) :: r) st t h := by
  obtain ⟨p, l, e, R, s, m, args, below, meth, c, Q⟩ := G
  intro H locs la hH hS hl
  obtain ⟨q, hq⟩ := List.getElem?_of_mem ((zAs_mem (x0 :: x1 :: x2 :: x3 :: x4 :: x5 :: x6 :: x7 :: x8 :: x9 :: some (.int v) :: r) 0 10 (.int v)).mpr ⟨10, rfl, rfl⟩)
  exact lv_iinc C.1 C.2.1 hd hl hq hv hn rfl (fun la2 hl2 => kk H locs la2 hH hS (zLs_st1 hl2 (fun j x hj hx => by cases hj; cases hx; exact hok)))
theorem zz_iload_11 {E : zE} {b : Nat} {G : zG} {own : String} {cc : ByteArray} {nL : Nat} {rt : Option FieldType} {cells slots pc : Nat} {t : zT} {h : zH} {x0 x1 x2 x3 x4 x5 x6 x7 x8 x9 x10 : Option Value} {r : List (Option Value)} {st : List Value} (C : zCx E b G own cc nL rt) {v : Int32} (hd : decode cc pc = .ok (.iload 11, 2)) (kk : zAW E b G nL cells slots (pc + 2) (x0 :: x1 :: x2 :: x3 :: x4 :: x5 :: x6 :: x7 :: x8 :: x9 :: x10 :: some (.int v) :: r) (.int v :: st) t h) : zAW E b G nL cells slots pc (x0 :: x1 :: x2 :: x3 :: x4 :: x5 :: x6 :: x7 :: x8 :: x9 :: x10 :: some (.int v) :: r) st t h := by
  obtain ⟨p, l, e, R, s, m, args, below, meth, c, Q⟩ := G
  intro H locs la hH hS hl
  exact lv_iload C.1 C.2.1 hd (zLs_at (k := 11) hl rfl) (kk H locs la hH hS hl)
theorem zz_istore_11 {E : zE} {b : Nat} {G : zG} {own : String} {cc : ByteArray} {nL : Nat} {rt : Option FieldType} {cells slots pc : Nat} {t : zT} {h : zH} {x0 x1 x2 x3 x4 x5 x6 x7 x8 x9 x10 : Option Value} {y : Option Value} {r : List (Option Value)} {st : List Value} (C : zCx E b G own cc nL rt) {v : Int32} (hn : 11 < nL) (hok : zok x10 = true) (hd : decode cc pc = .ok (.istore 11, 2)) (kk : zAW E b G nL cells slots (pc + 2) (x0 :: x1 :: x2 :: x3 :: x4 :: x5 :: x6 :: x7 :: x8 :: x9 :: x10 :: some (.int v) :: r) st t h) : zAW E b G nL cells slots pc (x0 :: x1 :: x2 :: x3 :: x4 :: x5 :: x6 :: x7 :: x8 :: x9 :: x10 :: y :: r) (.int v :: st) t h := by
  obtain ⟨p, l, e, R, s, m, args, below, meth, c, Q⟩ := G
  intro H locs la hH hS hl
  exact lv_istore C.1 C.2.1 hd hl hn rfl (fun la2 hl2 => kk H locs la2 hH hS (zLs_st1 hl2 (fun j x hj hx => by cases hj; cases hx; exact hok)))
theorem zz_lload_11 {E : zE} {b : Nat} {G : zG} {own : String} {cc : ByteArray} {nL : Nat} {rt : Option FieldType} {cells slots pc : Nat} {t : zT} {h : zH} {x0 x1 x2 x3 x4 x5 x6 x7 x8 x9 x10 : Option Value} {r : List (Option Value)} {st : List Value} (C : zCx E b G own cc nL rt) {v : Int64} (hd : decode cc pc = .ok (.lload 11, 2)) (kk : zAW E b G nL cells slots (pc + 2) (x0 :: x1 :: x2 :: x3 :: x4 :: x5 :: x6 :: x7 :: x8 :: x9 :: x10 :: some (.long v) :: r) (.long v :: st) t h) : zAW E b G nL cells slots pc (x0 :: x1 :: x2 :: x3 :: x4 :: x5 :: x6 :: x7 :: x8 :: x9 :: x10 :: some (.long v) :: r) st t h := by
  obtain ⟨p, l, e, R, s, m, args, below, meth, c, Q⟩ := G
  intro H locs la hH hS hl
  exact lv_lload C.1 C.2.1 hd (zLs_at (k := 11) hl rfl) (kk H locs la hH hS hl)
theorem zz_lstore_11 {E : zE} {b : Nat} {G : zG} {own : String} {cc : ByteArray} {nL : Nat} {rt : Option FieldType} {cells slots pc : Nat} {t : zT} {h : zH} {x0 x1 x2 x3 x4 x5 x6 x7 x8 x9 x10 : Option Value} {y y2 : Option Value} {r : List (Option Value)} {st : List Value} (C : zCx E b G own cc nL rt) {v : Int64} (hn : 12 < nL) (hok : zok x10 = true) (hd : decode cc pc = .ok (.lstore 11, 2)) (kk : zAW E b G nL cells slots (pc + 2) (x0 :: x1 :: x2 :: x3 :: x4 :: x5 :: x6 :: x7 :: x8 :: x9 :: x10 :: some (.long v) :: none :: r) st t h) : zAW E b G nL cells slots pc (x0 :: x1 :: x2 :: x3 :: x4 :: x5 :: x6 :: x7 :: x8 :: x9 :: x10 :: y :: y2 :: r) (.long v :: st) t h := by
  obtain ⟨p, l, e, R, s, m, args, below, meth, c, Q⟩ := G
  intro H locs la hH hS hl
  exact lv_lstore C.1 C.2.1 hd hl hn rfl (fun la2 hl2 => kk H locs la2 hH hS (zLs_st2 hl2 (fun j x hj hx => by cases hj; cases hx; exact hok)))
theorem zz_aload_11 {E : zE} {b : Nat} {G : zG} {own : String} {cc : ByteArray} {nL : Nat} {rt : Option FieldType} {cells slots pc : Nat} {t : zT} {h : zH} {x0 x1 x2 x3 x4 x5 x6 x7 x8 x9 x10 : Option Value} {r : List (Option Value)} {st : List Value} (C : zCx E b G own cc nL rt) {v : Nat} (hd : decode cc pc = .ok (.aload 11, 2)) (kk : zAW E b G nL cells slots (pc + 2) (x0 :: x1 :: x2 :: x3 :: x4 :: x5 :: x6 :: x7 :: x8 :: x9 :: x10 :: some (.ref v) :: r) (.ref v :: st) t h) : zAW E b G nL cells slots pc (x0 :: x1 :: x2 :: x3 :: x4 :: x5 :: x6 :: x7 :: x8 :: x9 :: x10 :: some (.ref v) :: r) st t h := by
  obtain ⟨p, l, e, R, s, m, args, below, meth, c, Q⟩ := G
  intro H locs la hH hS hl
  exact lv_aload C.1 C.2.1 hd (zLs_at (k := 11) hl rfl) (kk H locs la hH hS hl)
theorem zz_astore_11 {E : zE} {b : Nat} {G : zG} {own : String} {cc : ByteArray} {nL : Nat} {rt : Option FieldType} {cells slots pc : Nat} {t : zT} {h : zH} {x0 x1 x2 x3 x4 x5 x6 x7 x8 x9 x10 : Option Value} {y : Option Value} {r : List (Option Value)} {st : List Value} (C : zCx E b G own cc nL rt) {v : Nat} (hn : 11 < nL) (hok : zok x10 = true) (hd : decode cc pc = .ok (.astore 11, 2)) (kk : zAW E b G nL cells slots (pc + 2) (x0 :: x1 :: x2 :: x3 :: x4 :: x5 :: x6 :: x7 :: x8 :: x9 :: x10 :: some (.ref v) :: r) st t h) : zAW E b G nL cells slots pc (x0 :: x1 :: x2 :: x3 :: x4 :: x5 :: x6 :: x7 :: x8 :: x9 :: x10 :: y :: r) (.ref v :: st) t h := by
  obtain ⟨p, l, e, R, s, m, args, below, meth, c, Q⟩ := G
  intro H locs la hH hS hl
  exact lv_astore C.1 C.2.1 hd hl hn rfl (fun la2 hl2 => kk H locs la2 hH hS (zLs_st1 hl2 (fun j x hj hx => by cases hj; cases hx; exact hok)))
theorem zz_iinc_11 {E : zE} {b : Nat} {G : zG} {own : String} {cc : ByteArray} {nL : Nat} {rt : Option FieldType} {cells slots pc : Nat} {t : zT} {h : zH} {x0 x1 x2 x3 x4 x5 x6 x7 x8 x9 x10 : Option Value} {r : List (Option Value)} {st : List Value} (C : zCx E b G own cc nL rt) {v : Int32} {n : Int} (w : Int32) (hn : 11 < nL) (hok : zok x10 = true) (hd : decode cc pc = .ok (.iinc 11 n, 3)) (hv : v + Int32.ofInt n = w) (kk : zAW E b G nL cells slots (pc + 3) (x0 :: x1 :: x2 :: x3 :: x4 :: x5 :: x6 :: x7 :: x8 :: x9 :: x10 :: some (.int w) :: r) st t h) : zAW E b G nL cells slots pc (x0 :: x1 :: x2 :: x3 :: x4 :: x5 :: x6 :: x7 :: x8 :: x9 :: x10 :: some (.int v) :: r) st t h := by
  obtain ⟨p, l, e, R, s, m, args, below, meth, c, Q⟩ := G
  intro H locs la hH hS hl
  obtain ⟨q, hq⟩ := List.getElem?_of_mem ((zAs_mem (x0 :: x1 :: x2 :: x3 :: x4 :: x5 :: x6 :: x7 :: x8 :: x9 :: x10 :: some (.int v) :: r) 0 11 (.int v)).mpr ⟨11, rfl, rfl⟩)
  exact lv_iinc C.1 C.2.1 hd hl hq hv hn rfl (fun la2 hl2 => kk H locs la2 hH hS (zLs_st1 hl2 (fun j x hj hx => by cases hj; cases hx; exact hok)))
theorem zz_iload_12 {E : zE} {b : Nat} {G : zG} {own : String} {cc : ByteArray} {nL : Nat} {rt : Option FieldType} {cells slots pc : Nat} {t : zT} {h : zH} {x0 x1 x2 x3 x4 x5 x6 x7 x8 x9 x10 x11 : Option Value} {r : List (Option Value)} {st : List Value} (C : zCx E b G own cc nL rt) {v : Int32} (hd : decode cc pc = .ok (.iload 12, 2)) (kk : zAW E b G nL cells slots (pc + 2) (x0 :: x1 :: x2 :: x3 :: x4 :: x5 :: x6 :: x7 :: x8 :: x9 :: x10 :: x11 :: some (.int v) :: r) (.int v :: st) t h) : zAW E b G nL cells slots pc (x0 :: x1 :: x2 :: x3 :: x4 :: x5 :: x6 :: x7 :: x8 :: x9 :: x10 :: x11 :: some (.int v) :: r) st t h := by
  obtain ⟨p, l, e, R, s, m, args, below, meth, c, Q⟩ := G
  intro H locs la hH hS hl
  exact lv_iload C.1 C.2.1 hd (zLs_at (k := 12) hl rfl) (kk H locs la hH hS hl)
theorem zz_istore_12 {E : zE} {b : Nat} {G : zG} {own : String} {cc : ByteArray} {nL : Nat} {rt : Option FieldType} {cells slots pc : Nat} {t : zT} {h : zH} {x0 x1 x2 x3 x4 x5 x6 x7 x8 x9 x10 x11 : Option Value} {y : Option Value} {r : List (Option Value)} {st : List Value} (C : zCx E b G own cc nL rt) {v : Int32} (hn : 12 < nL) (hok : zok x11 = true) (hd : decode cc pc = .ok (.istore 12, 2)) (kk : zAW E b G nL cells slots (pc + 2) (x0 :: x1 :: x2 :: x3 :: x4 :: x5 :: x6 :: x7 :: x8 :: x9 :: x10 :: x11 :: some (.int v) :: r) st t h) : zAW E b G nL cells slots pc (x0 :: x1 :: x2 :: x3 :: x4 :: x5 :: x6 :: x7 :: x8 :: x9 :: x10 :: x11 :: y :: r) (.int v :: st) t h := by
  obtain ⟨p, l, e, R, s, m, args, below, meth, c, Q⟩ := G
  intro H locs la hH hS hl
  exact lv_istore C.1 C.2.1 hd hl hn rfl (fun la2 hl2 => kk H locs la2 hH hS (zLs_st1 hl2 (fun j x hj hx => by cases hj; cases hx; exact hok)))
theorem zz_lload_12 {E : zE} {b : Nat} {G : zG} {own : String} {cc : ByteArray} {nL : Nat} {rt : Option FieldType} {cells slots pc : Nat} {t : zT} {h : zH} {x0 x1 x2 x3 x4 x5 x6 x7 x8 x9 x10 x11 : Option Value} {r : List (Option Value)} {st : List Value} (C : zCx E b G own cc nL rt) {v : Int64} (hd : decode cc pc = .ok (.lload 12, 2)) (kk : zAW E b G nL cells slots (pc + 2) (x0 :: x1 :: x2 :: x3 :: x4 :: x5 :: x6 :: x7 :: x8 :: x9 :: x10 :: x11 :: some (.long v) :: r) (.long v :: st) t h) : zAW E b G nL cells slots pc (x0 :: x1 :: x2 :: x3 :: x4 :: x5 :: x6 :: x7 :: x8 :: x9 :: x10 :: x11 :: some (.long v) :: r) st t h := by
  obtain ⟨p, l, e, R, s, m, args, below, meth, c, Q⟩ := G
  intro H locs la hH hS hl
  exact lv_lload C.1 C.2.1 hd (zLs_at (k := 12) hl rfl) (kk H locs la hH hS hl)
theorem zz_lstore_12 {E : zE} {b : Nat} {G : zG} {own : String} {cc : ByteArray} {nL : Nat} {rt : Option FieldType} {cells slots pc : Nat} {t : zT} {h : zH} {x0 x1 x2 x3 x4 x5 x6 x7 x8 x9 x10 x11 : Option Value} {y y2 : Option Value} {r : List (Option Value)} {st : List Value} (C : zCx E b G own cc nL rt) {v : Int64} (hn : 13 < nL) (hok : zok x11 = true) (hd : decode cc pc = .ok (.lstore 12, 2)) (kk : zAW E b G nL cells slots (pc + 2) (x0 :: x1 :: x2 :: x3 :: x4 :: x5 :: x6 :: x7 :: x8 :: x9 :: x10 :: x11 :: some (.long v) :: none :: r) st t h) : zAW E b G nL cells slots pc (x0 :: x1 :: x2 :: x3 :: x4 :: x5 :: x6 :: x7 :: x8 :: x9 :: x10 :: x11 :: y :: y2 :: r) (.long v :: st) t h := by
  obtain ⟨p, l, e, R, s, m, args, below, meth, c, Q⟩ := G
  intro H locs la hH hS hl
  exact lv_lstore C.1 C.2.1 hd hl hn rfl (fun la2 hl2 => kk H locs la2 hH hS (zLs_st2 hl2 (fun j x hj hx => by cases hj; cases hx; exact hok)))
theorem zz_aload_12 {E : zE} {b : Nat} {G : zG} {own : String} {cc : ByteArray} {nL : Nat} {rt : Option FieldType} {cells slots pc : Nat} {t : zT} {h : zH} {x0 x1 x2 x3 x4 x5 x6 x7 x8 x9 x10 x11 : Option Value} {r : List (Option Value)} {st : List Value} (C : zCx E b G own cc nL rt) {v : Nat} (hd : decode cc pc = .ok (.aload 12, 2)) (kk : zAW E b G nL cells slots (pc + 2) (x0 :: x1 :: x2 :: x3 :: x4 :: x5 :: x6 :: x7 :: x8 :: x9 :: x10 :: x11 :: some (.ref v) :: r) (.ref v :: st) t h) : zAW E b G nL cells slots pc (x0 :: x1 :: x2 :: x3 :: x4 :: x5 :: x6 :: x7 :: x8 :: x9 :: x10 :: x11 :: some (.ref v) :: r) st t h := by
  obtain ⟨p, l, e, R, s, m, args, below, meth, c, Q⟩ := G
  intro H locs la hH hS hl
  exact lv_aload C.1 C.2.1 hd (zLs_at (k := 12) hl rfl) (kk H locs la hH hS hl)
theorem zz_astore_12 {E : zE} {b : Nat} {G : zG} {own : String} {cc : ByteArray} {nL : Nat} {rt : Option FieldType} {cells slots pc : Nat} {t : zT} {h : zH} {x0 x1 x2 x3 x4 x5 x6 x7 x8 x9 x10 x11 : Option Value} {y : Option Value} {r : List (Option Value)} {st : List Value} (C : zCx E b G own cc nL rt) {v : Nat} (hn : 12 < nL) (hok : zok x11 = true) (hd : decode cc pc = .ok (.astore 12, 2)) (kk : zAW E b G nL cells slots (pc + 2) (x0 :: x1 :: x2 :: x3 :: x4 :: x5 :: x6 :: x7 :: x8 :: x9 :: x10 :: x11 :: some (.ref v) :: r) st t h) : zAW E b G nL cells slots pc (x0 :: x1 :: x2 :: x3 :: x4 :: x5 :: x6 :: x7 :: x8 :: x9 :: x10 :: x11 :: y :: r) (.ref v :: st) t h := by
  obtain ⟨p, l, e, R, s, m, args, below, meth, c, Q⟩ := G
  intro H locs la hH hS hl
  exact lv_astore C.1 C.2.1 hd hl hn rfl (fun la2 hl2 => kk H locs la2 hH hS (zLs_st1 hl2 (fun j x hj hx => by cases hj; cases hx; exact hok)))
theorem zz_iinc_12 {E : zE} {b : Nat} {G : zG} {own : String} {cc : ByteArray} {nL : Nat} {rt : Option FieldType} {cells slots pc : Nat} {t : zT} {h : zH} {x0 x1 x2 x3 x4 x5 x6 x7 x8 x9 x10 x11 : Option Value} {r : List (Option Value)} {st : List Value} (C : zCx E b G own cc nL rt) {v : Int32} {n : Int} (w : Int32) (hn : 12 < nL) (hok : zok x11 = true) (hd : decode cc pc = .ok (.iinc 12 n, 3)) (hv : v + Int32.ofInt n = w) (kk : zAW E b G nL cells slots (pc + 3) (x0 :: x1 :: x2 :: x3 :: x4 :: x5 :: x6 :: x7 :: x8 :: x9 :: x10 :: x11 :: some (.int w) :: r) st t h) : zAW E b G nL cells slots pc (x0 :: x1 :: x2 :: x3 :: x4 :: x5 :: x6 :: x7 :: x8 :: x9 :: x10 :: x11 :: some (.int v) :: r) st t h := by
  obtain ⟨p, l, e, R, s, m, args, below, meth, c, Q⟩ := G
  intro H locs la hH hS hl
  obtain ⟨q, hq⟩ := List.getElem?_of_mem ((zAs_mem (x0 :: x1 :: x2 :: x3 :: x4 :: x5 :: x6 :: x7 :: x8 :: x9 :: x10 :: x11 :: some (.int v) :: r) 0 12 (.int v)).mpr ⟨12, rfl, rfl⟩)
  exact lv_iinc C.1 C.2.1 hd hl hq hv hn rfl (fun la2 hl2 => kk H locs la2 hH hS (zLs_st1 hl2 (fun j x hj hx => by cases hj; cases hx; exact hok)))
theorem zz_iload_13 {E : zE} {b : Nat} {G : zG} {own : String} {cc : ByteArray} {nL : Nat} {rt : Option FieldType} {cells slots pc : Nat} {t : zT} {h : zH} {x0 x1 x2 x3 x4 x5 x6 x7 x8 x9 x10 x11 x12 : Option Value} {r : List (Option Value)} {st : List Value} (C : zCx E b G own cc nL rt) {v : Int32} (hd : decode cc pc = .ok (.iload 13, 2)) (kk : zAW E b G nL cells slots (pc + 2) (x0 :: x1 :: x2 :: x3 :: x4 :: x5 :: x6 :: x7 :: x8 :: x9 :: x10 :: x11 :: x12 :: some (.int v) :: r) (.int v :: st) t h) : zAW E b G nL cells slots pc (x0 :: x1 :: x2 :: x3 :: x4 :: x5 :: x6 :: x7 :: x8 :: x9 :: x10 :: x11 :: x12 :: some (.int v) :: r) st t h := by
  obtain ⟨p, l, e, R, s, m, args, below, meth, c, Q⟩ := G
  intro H locs la hH hS hl
  exact lv_iload C.1 C.2.1 hd (zLs_at (k := 13) hl rfl) (kk H locs la hH hS hl)
theorem zz_istore_13 {E : zE} {b : Nat} {G : zG} {own : String} {cc : ByteArray} {nL : Nat} {rt : Option FieldType} {cells slots pc : Nat} {t : zT} {h : zH} {x0 x1 x2 x3 x4 x5 x6 x7 x8 x9 x10 x11 x12 : Option Value} {y : Option Value} {r : List (Option Value)} {st : List Value} (C : zCx E b G own cc nL rt) {v : Int32} (hn : 13 < nL) (hok : zok x12 = true) (hd : decode cc pc = .ok (.istore 13, 2)) (kk : zAW E b G nL cells slots (pc + 2) (x0 :: x1 :: x2 :: x3 :: x4 :: x5 :: x6 :: x7 :: x8 :: x9 :: x10 :: x11 :: x12 :: some (.int v) :: r) st t h) : zAW E b G nL cells slots pc (x0 :: x1 :: x2 :: x3 :: x4 :: x5 :: x6 :: x7 :: x8 :: x9 :: x10 :: x11 :: x12 :: y :: r) (.int v :: st) t h := by
  obtain ⟨p, l, e, R, s, m, args, below, meth, c, Q⟩ := G
  intro H locs la hH hS hl
  exact lv_istore C.1 C.2.1 hd hl hn rfl (fun la2 hl2 => kk H locs la2 hH hS (zLs_st1 hl2 (fun j x hj hx => by cases hj; cases hx; exact hok)))
theorem zz_lload_13 {E : zE} {b : Nat} {G : zG} {own : String} {cc : ByteArray} {nL : Nat} {rt : Option FieldType} {cells slots pc : Nat} {t : zT} {h : zH} {x0 x1 x2 x3 x4 x5 x6 x7 x8 x9 x10 x11 x12 : Option Value} {r : List (Option Value)} {st : List Value} (C : zCx E b G own cc nL rt) {v : Int64} (hd : decode cc pc = .ok (.lload 13, 2)) (kk : zAW E b G nL cells slots (pc + 2) (x0 :: x1 :: x2 :: x3 :: x4 :: x5 :: x6 :: x7 :: x8 :: x9 :: x10 :: x11 :: x12 :: some (.long v) :: r) (.long v :: st) t h) : zAW E b G nL cells slots pc (x0 :: x1 :: x2 :: x3 :: x4 :: x5 :: x6 :: x7 :: x8 :: x9 :: x10 :: x11 :: x12 :: some (.long v) :: r) st t h := by
  obtain ⟨p, l, e, R, s, m, args, below, meth, c, Q⟩ := G
  intro H locs la hH hS hl
  exact lv_lload C.1 C.2.1 hd (zLs_at (k := 13) hl rfl) (kk H locs la hH hS hl)
theorem zz_lstore_13 {E : zE} {b : Nat} {G : zG} {own : String} {cc : ByteArray} {nL : Nat} {rt : Option FieldType} {cells slots pc : Nat} {t : zT} {h : zH} {x0 x1 x2 x3 x4 x5 x6 x7 x8 x9 x10 x11 x12 : Option Value} {y y2 : Option Value} {r : List (Option Value)} {st : List Value} (C : zCx E b G own cc nL rt) {v : Int64} (hn : 14 < nL) (hok : zok x12 = true) (hd : decode cc pc = .ok (.lstore 13, 2)) (kk : zAW E b G nL cells slots (pc + 2) (x0 :: x1 :: x2 :: x3 :: x4 :: x5 :: x6 :: x7 :: x8 :: x9 :: x10 :: x11 :: x12 :: some (.long v) :: none :: r) st t h) : zAW E b G nL cells slots pc (x0 :: x1 :: x2 :: x3 :: x4 :: x5 :: x6 :: x7 :: x8 :: x9 :: x10 :: x11 :: x12 :: y :: y2 :: r) (.long v :: st) t h := by
  obtain ⟨p, l, e, R, s, m, args, below, meth, c, Q⟩ := G
  intro H locs la hH hS hl
  exact lv_lstore C.1 C.2.1 hd hl hn rfl (fun la2 hl2 => kk H locs la2 hH hS (zLs_st2 hl2 (fun j x hj hx => by cases hj; cases hx; exact hok)))
theorem zz_aload_13 {E : zE} {b : Nat} {G : zG} {own : String} {cc : ByteArray} {nL : Nat} {rt : Option FieldType} {cells slots pc : Nat} {t : zT} {h : zH} {x0 x1 x2 x3 x4 x5 x6 x7 x8 x9 x10 x11 x12 : Option Value} {r : List (Option Value)} {st : List Value} (C : zCx E b G own cc nL rt) {v : Nat} (hd : decode cc pc = .ok (.aload 13, 2)) (kk : zAW E b G nL cells slots (pc + 2) (x0 :: x1 :: x2 :: x3 :: x4 :: x5 :: x6 :: x7 :: x8 :: x9 :: x10 :: x11 :: x12 :: some (.ref v) :: r) (.ref v :: st) t h) : zAW E b G nL cells slots pc (x0 :: x1 :: x2 :: x3 :: x4 :: x5 :: x6 :: x7 :: x8 :: x9 :: x10 :: x11 :: x12 :: some (.ref v) :: r) st t h := by
  obtain ⟨p, l, e, R, s, m, args, below, meth, c, Q⟩ := G
  intro H locs la hH hS hl
  exact lv_aload C.1 C.2.1 hd (zLs_at (k := 13) hl rfl) (kk H locs la hH hS hl)
theorem zz_astore_13 {E : zE} {b : Nat} {G : zG} {own : String} {cc : ByteArray} {nL : Nat} {rt : Option FieldType} {cells slots pc : Nat} {t : zT} {h : zH} {x0 x1 x2 x3 x4 x5 x6 x7 x8 x9 x10 x11 x12 : Option Value} {y : Option Value} {r : List (Option Value)} {st : List Value} (C : zCx E b G own cc nL rt) {v : Nat} (hn : 13 < nL) (hok : zok x12 = true) (hd : decode cc pc = .ok (.astore 13, 2)) (kk : zAW E b G nL cells slots (pc + 2) (x0 :: x1 :: x2 :: x3 :: x4 :: x5 :: x6 :: x7 :: x8 :: x9 :: x10 :: x11 :: x12 :: some (.ref v) :: r) st t h) : zAW E b G nL cells slots pc (x0 :: x1 :: x2 :: x3 :: x4 :: x5 :: x6 :: x7 :: x8 :: x9 :: x10 :: x11 :: x12 :: y :: r) (.ref v :: st) t h := by
  obtain ⟨p, l, e, R, s, m, args, below, meth, c, Q⟩ := G
  intro H locs la hH hS hl
  exact lv_astore C.1 C.2.1 hd hl hn rfl (fun la2 hl2 => kk H locs la2 hH hS (zLs_st1 hl2 (fun j x hj hx => by cases hj; cases hx; exact hok)))
theorem zz_iinc_13 {E : zE} {b : Nat} {G : zG} {own : String} {cc : ByteArray} {nL : Nat} {rt : Option FieldType} {cells slots pc : Nat} {t : zT} {h : zH} {x0 x1 x2 x3 x4 x5 x6 x7 x8 x9 x10 x11 x12 : Option Value} {r : List (Option Value)} {st : List Value} (C : zCx E b G own cc nL rt) {v : Int32} {n : Int} (w : Int32) (hn : 13 < nL) (hok : zok x12 = true) (hd : decode cc pc = .ok (.iinc 13 n, 3)) (hv : v + Int32.ofInt n = w) (kk : zAW E b G nL cells slots (pc + 3) (x0 :: x1 :: x2 :: x3 :: x4 :: x5 :: x6 :: x7 :: x8 :: x9 :: x10 :: x11 :: x12 :: some (.int w) :: r) st t h) : zAW E b G nL cells slots pc (x0 :: x1 :: x2 :: x3 :: x4 :: x5 :: x6 :: x7 :: x8 :: x9 :: x10 :: x11 :: x12 :: some (.int v) :: r) st t h := by
  obtain ⟨p, l, e, R, s, m, args, below, meth, c, Q⟩ := G
  intro H locs la hH hS hl
  obtain ⟨q, hq⟩ := List.getElem?_of_mem ((zAs_mem (x0 :: x1 :: x2 :: x3 :: x4 :: x5 :: x6 :: x7 :: x8 :: x9 :: x10 :: x11 :: x12 :: some (.int v) :: r) 0 13 (.int v)).mpr ⟨13, rfl, rfl⟩)
  exact lv_iinc C.1 C.2.1 hd hl hq hv hn rfl (fun la2 hl2 => kk H locs la2 hH hS (zLs_st1 hl2 (fun j x hj hx => by cases hj; cases hx; exact hok)))
theorem zz_iload_14 {E : zE} {b : Nat} {G : zG} {own : String} {cc : ByteArray} {nL : Nat} {rt : Option FieldType} {cells slots pc : Nat} {t : zT} {h : zH} {x0 x1 x2 x3 x4 x5 x6 x7 x8 x9 x10 x11 x12 x13 : Option Value} {r : List (Option Value)} {st : List Value} (C : zCx E b G own cc nL rt) {v : Int32} (hd : decode cc pc = .ok (.iload 14, 2)) (kk : zAW E b G nL cells slots (pc + 2) (x0 :: x1 :: x2 :: x3 :: x4 :: x5 :: x6 :: x7 :: x8 :: x9 :: x10 :: x11 :: x12 :: x13 :: some (.int v) :: r) (.int v :: st) t h) : zAW E b G nL cells slots pc (x0 :: x1 :: x2 :: x3 :: x4 :: x5 :: x6 :: x7 :: x8 :: x9 :: x10 :: x11 :: x12 :: x13 :: some (.int v) :: r) st t h := by
  obtain ⟨p, l, e, R, s, m, args, below, meth, c, Q⟩ := G
  intro H locs la hH hS hl
  exact lv_iload C.1 C.2.1 hd (zLs_at (k := 14) hl rfl) (kk H locs la hH hS hl)
theorem zz_istore_14 {E : zE} {b : Nat} {G : zG} {own : String} {cc : ByteArray} {nL : Nat} {rt : Option FieldType} {cells slots pc : Nat} {t : zT} {h : zH} {x0 x1 x2 x3 x4 x5 x6 x7 x8 x9 x10 x11 x12 x13 : Option Value} {y : Option Value} {r : List (Option Value)} {st : List Value} (C : zCx E b G own cc nL rt) {v : Int32} (hn : 14 < nL) (hok : zok x13 = true) (hd : decode cc pc = .ok (.istore 14, 2)) (kk : zAW E b G nL cells slots (pc + 2) (x0 :: x1 :: x2 :: x3 :: x4 :: x5 :: x6 :: x7 :: x8 :: x9 :: x10 :: x11 :: x12 :: x13 :: some (.int v) :: r) st t h) : zAW E b G nL cells slots pc (x0 :: x1 :: x2 :: x3 :: x4 :: x5 :: x6 :: x7 :: x8 :: x9 :: x10 :: x11 :: x12 :: x13 :: y :: r) (.int v :: st) t h := by
  obtain ⟨p, l, e, R, s, m, args, below, meth, c, Q⟩ := G
  intro H locs la hH hS hl
  exact lv_istore C.1 C.2.1 hd hl hn rfl (fun la2 hl2 => kk H locs la2 hH hS (zLs_st1 hl2 (fun j x hj hx => by cases hj; cases hx; exact hok)))
theorem zz_lload_14 {E : zE} {b : Nat} {G : zG} {own : String} {cc : ByteArray} {nL : Nat} {rt : Option FieldType} {cells slots pc : Nat} {t : zT} {h : zH} {x0 x1 x2 x3 x4 x5 x6 x7 x8 x9 x10 x11 x12 x13 : Option Value} {r : List (Option Value)} {st : List Value} (C : zCx E b G own cc nL rt) {v : Int64} (hd : decode cc pc = .ok (.lload 14, 2)) (kk : zAW E b G nL cells slots (pc + 2) (x0 :: x1 :: x2 :: x3 :: x4 :: x5 :: x6 :: x7 :: x8 :: x9 :: x10 :: x11 :: x12 :: x13 :: some (.long v) :: r) (.long v :: st) t h) : zAW E b G nL cells slots pc (x0 :: x1 :: x2 :: x3 :: x4 :: x5 :: x6 :: x7 :: x8 :: x9 :: x10 :: x11 :: x12 :: x13 :: some (.long v) :: r) st t h := by
  obtain ⟨p, l, e, R, s, m, args, below, meth, c, Q⟩ := G
  intro H locs la hH hS hl
  exact lv_lload C.1 C.2.1 hd (zLs_at (k := 14) hl rfl) (kk H locs la hH hS hl)
theorem zz_lstore_14 {E : zE} {b : Nat} {G : zG} {own : String} {cc : ByteArray} {nL : Nat} {rt : Option FieldType} {cells slots pc : Nat} {t : zT} {h : zH} {x0 x1 x2 x3 x4 x5 x6 x7 x8 x9 x10 x11 x12 x13 : Option Value} {y y2 : Option Value} {r : List (Option Value)} {st : List Value} (C : zCx E b G own cc nL rt) {v : Int64} (hn : 15 < nL) (hok : zok x13 = true) (hd : decode cc pc = .ok (.lstore 14, 2)) (kk : zAW E b G nL cells slots (pc + 2) (x0 :: x1 :: x2 :: x3 :: x4 :: x5 :: x6 :: x7 :: x8 :: x9 :: x10 :: x11 :: x12 :: x13 :: some (.long v) :: none :: r) st t h) : zAW E b G nL cells slots pc (x0 :: x1 :: x2 :: x3 :: x4 :: x5 :: x6 :: x7 :: x8 :: x9 :: x10 :: x11 :: x12 :: x13 :: y :: y2 :: r) (.long v :: st) t h := by
  obtain ⟨p, l, e, R, s, m, args, below, meth, c, Q⟩ := G
  intro H locs la hH hS hl
  exact lv_lstore C.1 C.2.1 hd hl hn rfl (fun la2 hl2 => kk H locs la2 hH hS (zLs_st2 hl2 (fun j x hj hx => by cases hj; cases hx; exact hok)))
theorem zz_aload_14 {E : zE} {b : Nat} {G : zG} {own : String} {cc : ByteArray} {nL : Nat} {rt : Option FieldType} {cells slots pc : Nat} {t : zT} {h : zH} {x0 x1 x2 x3 x4 x5 x6 x7 x8 x9 x10 x11 x12 x13 : Option Value} {r : List (Option Value)} {st : List Value} (C : zCx E b G own cc nL rt) {v : Nat} (hd : decode cc pc = .ok (.aload 14, 2)) (kk : zAW E b G nL cells slots (pc + 2) (x0 :: x1 :: x2 :: x3 :: x4 :: x5 :: x6 :: x7 :: x8 :: x9 :: x10 :: x11 :: x12 :: x13 :: some (.ref v) :: r) (.ref v :: st) t h) : zAW E b G nL cells slots pc (x0 :: x1 :: x2 :: x3 :: x4 :: x5 :: x6 :: x7 :: x8 :: x9 :: x10 :: x11 :: x12 :: x13 :: some (.ref v) :: r) st t h := by
  obtain ⟨p, l, e, R, s, m, args, below, meth, c, Q⟩ := G
  intro H locs la hH hS hl
  exact lv_aload C.1 C.2.1 hd (zLs_at (k := 14) hl rfl) (kk H locs la hH hS hl)
theorem zz_astore_14 {E : zE} {b : Nat} {G : zG} {own : String} {cc : ByteArray} {nL : Nat} {rt : Option FieldType} {cells slots pc : Nat} {t : zT} {h : zH} {x0 x1 x2 x3 x4 x5 x6 x7 x8 x9 x10 x11 x12 x13 : Option Value} {y : Option Value} {r : List (Option Value)} {st : List Value} (C : zCx E b G own cc nL rt) {v : Nat} (hn : 14 < nL) (hok : zok x13 = true) (hd : decode cc pc = .ok (.astore 14, 2)) (kk : zAW E b G nL cells slots (pc + 2) (x0 :: x1 :: x2 :: x3 :: x4 :: x5 :: x6 :: x7 :: x8 :: x9 :: x10 :: x11 :: x12 :: x13 :: some (.ref v) :: r) st t h) : zAW E b G nL cells slots pc (x0 :: x1 :: x2 :: x3 :: x4 :: x5 :: x6 :: x7 :: x8 :: x9 :: x10 :: x11 :: x12 :: x13 :: y :: r) (.ref v :: st) t h := by
  obtain ⟨p, l, e, R, s, m, args, below, meth, c, Q⟩ := G
  intro H locs la hH hS hl
  exact lv_astore C.1 C.2.1 hd hl hn rfl (fun la2 hl2 => kk H locs la2 hH hS (zLs_st1 hl2 (fun j x hj hx => by cases hj; cases hx; exact hok)))
theorem zz_iinc_14 {E : zE} {b : Nat} {G : zG} {own : String} {cc : ByteArray} {nL : Nat} {rt : Option FieldType} {cells slots pc : Nat} {t : zT} {h : zH} {x0 x1 x2 x3 x4 x5 x6 x7 x8 x9 x10 x11 x12 x13 : Option Value} {r : List (Option Value)} {st : List Value} (C : zCx E b G own cc nL rt) {v : Int32} {n : Int} (w : Int32) (hn : 14 < nL) (hok : zok x13 = true) (hd : decode cc pc = .ok (.iinc 14 n, 3)) (hv : v + Int32.ofInt n = w) (kk : zAW E b G nL cells slots (pc + 3) (x0 :: x1 :: x2 :: x3 :: x4 :: x5 :: x6 :: x7 :: x8 :: x9 :: x10 :: x11 :: x12 :: x13 :: some (.int w) :: r) st t h) : zAW E b G nL cells slots pc (x0 :: x1 :: x2 :: x3 :: x4 :: x5 :: x6 :: x7 :: x8 :: x9 :: x10 :: x11 :: x12 :: x13 :: some (.int v) :: r) st t h := by
  obtain ⟨p, l, e, R, s, m, args, below, meth, c, Q⟩ := G
  intro H locs la hH hS hl
  obtain ⟨q, hq⟩ := List.getElem?_of_mem ((zAs_mem (x0 :: x1 :: x2 :: x3 :: x4 :: x5 :: x6 :: x7 :: x8 :: x9 :: x10 :: x11 :: x12 :: x13 :: some (.int v) :: r) 0 14 (.int v)).mpr ⟨14, rfl, rfl⟩)
  exact lv_iinc C.1 C.2.1 hd hl hq hv hn rfl (fun la2 hl2 => kk H locs la2 hH hS (zLs_st1 hl2 (fun j x hj hx => by cases hj; cases hx; exact hok)))
theorem zz_iload_15 {E : zE} {b : Nat} {G : zG} {own : String} {cc : ByteArray} {nL : Nat} {rt : Option FieldType} {cells slots pc : Nat} {t : zT} {h : zH} {x0 x1 x2 x3 x4 x5 x6 x7 x8 x9 x10 x11 x12 x13 x14 : Option Value} {r : List (Option Value)} {st : List Value} (C : zCx E b G own cc nL rt) {v : Int32} (hd : decode cc pc = .ok (.iload 15, 2)) (kk : zAW E b G nL cells slots (pc + 2) (x0 :: x1 :: x2 :: x3 :: x4 :: x5 :: x6 :: x7 :: x8 :: x9 :: x10 :: x11 :: x12 :: x13 :: x14 :: some (.int v) :: r) (.int v :: st) t h) : zAW E b G nL cells slots pc (x0 :: x1 :: x2 :: x3 :: x4 :: x5 :: x6 :: x7 :: x8 :: x9 :: x10 :: x11 :: x12 :: x13 :: x14 :: some (.int v) :: r) st t h := by
  obtain ⟨p, l, e, R, s, m, args, below, meth, c, Q⟩ := G
  intro H locs la hH hS hl
  exact lv_iload C.1 C.2.1 hd (zLs_at (k := 15) hl rfl) (kk H locs la hH hS hl)
theorem zz_istore_15 {E : zE} {b : Nat} {G : zG} {own : String} {cc : ByteArray} {nL : Nat} {rt : Option FieldType} {cells slots pc : Nat} {t : zT} {h : zH} {x0 x1 x2 x3 x4 x5 x6 x7 x8 x9 x10 x11 x12 x13 x14 : Option Value} {y : Option Value} {r : List (Option Value)} {st : List Value} (C : zCx E b G own cc nL rt) {v : Int32} (hn : 15 < nL) (hok : zok x14 = true) (hd : decode cc pc = .ok (.istore 15, 2)) (kk : zAW E b G nL cells slots (pc + 2) (x0 :: x1 :: x2 :: x3 :: x4 :: x5 :: x6 :: x7 :: x8 :: x9 :: x10 :: x11 :: x12 :: x13 :: x14 :: some (.int v) :: r) st t h) : zAW E b G nL cells slots pc (x0 :: x1 :: x2 :: x3 :: x4 :: x5 :: x6 :: x7 :: x8 :: x9 :: x10 :: x11 :: x12 :: x13 :: x14 :: y :: r) (.int v :: st) t h := by
  obtain ⟨p, l, e, R, s, m, args, below, meth, c, Q⟩ := G
  intro H locs la hH hS hl
  exact lv_istore C.1 C.2.1 hd hl hn rfl (fun la2 hl2 => kk H locs la2 hH hS (zLs_st1 hl2 (fun j x hj hx => by cases hj; cases hx; exact hok)))
theorem zz_lload_15 {E : zE} {b : Nat} {G : zG} {own : String} {cc : ByteArray} {nL : Nat} {rt : Option FieldType} {cells slots pc : Nat} {t : zT} {h : zH} {x0 x1 x2 x3 x4 x5 x6 x7 x8 x9 x10 x11 x12 x13 x14 : Option Value} {r : List (Option Value)} {st : List Value} (C : zCx E b G own cc nL rt) {v : Int64} (hd : decode cc pc = .ok (.lload 15, 2)) (kk : zAW E b G nL cells slots (pc + 2) (x0 :: x1 :: x2 :: x3 :: x4 :: x5 :: x6 :: x7 :: x8 :: x9 :: x10 :: x11 :: x12 :: x13 :: x14 :: some (.long v) :: r) (.long v :: st) t h) : zAW E b G nL cells slots pc (x0 :: x1 :: x2 :: x3 :: x4 :: x5 :: x6 :: x7 :: x8 :: x9 :: x10 :: x11 :: x12 :: x13 :: x14 :: some (.long v) :: r) st t h := by
  obtain ⟨p, l, e, R, s, m, args, below, meth, c, Q⟩ := G
  intro H locs la hH hS hl
  exact lv_lload C.1 C.2.1 hd (zLs_at (k := 15) hl rfl) (kk H locs la hH hS hl)
theorem zz_lstore_15 {E : zE} {b : Nat} {G : zG} {own : String} {cc : ByteArray} {nL : Nat} {rt : Option FieldType} {cells slots pc : Nat} {t : zT} {h : zH} {x0 x1 x2 x3 x4 x5 x6 x7 x8 x9 x10 x11 x12 x13 x14 : Option Value} {y y2 : Option Value} {r : List (Option Value)} {st : List Value} (C : zCx E b G own cc nL rt) {v : Int64} (hn : 16 < nL) (hok : zok x14 = true) (hd : decode cc pc = .ok (.lstore 15, 2)) (kk : zAW E b G nL cells slots (pc + 2) (x0 :: x1 :: x2 :: x3 :: x4 :: x5 :: x6 :: x7 :: x8 :: x9 :: x10 :: x11 :: x12 :: x13 :: x14 :: some (.long v) :: none :: r) st t h) : zAW E b G nL cells slots pc (x0 :: x1 :: x2 :: x3 :: x4 :: x5 :: x6 :: x7 :: x8 :: x9 :: x10 :: x11 :: x12 :: x13 :: x14 :: y :: y2 :: r) (.long v :: st) t h := by
  obtain ⟨p, l, e, R, s, m, args, below, meth, c, Q⟩ := G
  intro H locs la hH hS hl
  exact lv_lstore C.1 C.2.1 hd hl hn rfl (fun la2 hl2 => kk H locs la2 hH hS (zLs_st2 hl2 (fun j x hj hx => by cases hj; cases hx; exact hok)))
theorem zz_aload_15 {E : zE} {b : Nat} {G : zG} {own : String} {cc : ByteArray} {nL : Nat} {rt : Option FieldType} {cells slots pc : Nat} {t : zT} {h : zH} {x0 x1 x2 x3 x4 x5 x6 x7 x8 x9 x10 x11 x12 x13 x14 : Option Value} {r : List (Option Value)} {st : List Value} (C : zCx E b G own cc nL rt) {v : Nat} (hd : decode cc pc = .ok (.aload 15, 2)) (kk : zAW E b G nL cells slots (pc + 2) (x0 :: x1 :: x2 :: x3 :: x4 :: x5 :: x6 :: x7 :: x8 :: x9 :: x10 :: x11 :: x12 :: x13 :: x14 :: some (.ref v) :: r) (.ref v :: st) t h) : zAW E b G nL cells slots pc (x0 :: x1 :: x2 :: x3 :: x4 :: x5 :: x6 :: x7 :: x8 :: x9 :: x10 :: x11 :: x12 :: x13 :: x14 :: some (.ref v) :: r) st t h := by
  obtain ⟨p, l, e, R, s, m, args, below, meth, c, Q⟩ := G
  intro H locs la hH hS hl
  exact lv_aload C.1 C.2.1 hd (zLs_at (k := 15) hl rfl) (kk H locs la hH hS hl)
theorem zz_astore_15 {E : zE} {b : Nat} {G : zG} {own : String} {cc : ByteArray} {nL : Nat} {rt : Option FieldType} {cells slots pc : Nat} {t : zT} {h : zH} {x0 x1 x2 x3 x4 x5 x6 x7 x8 x9 x10 x11 x12 x13 x14 : Option Value} {y : Option Value} {r : List (Option Value)} {st : List Value} (C : zCx E b G own cc nL rt) {v : Nat} (hn : 15 < nL) (hok : zok x14 = true) (hd : decode cc pc = .ok (.astore 15, 2)) (kk : zAW E b G nL cells slots (pc + 2) (x0 :: x1 :: x2 :: x3 :: x4 :: x5 :: x6 :: x7 :: x8 :: x9 :: x10 :: x11 :: x12 :: x13 :: x14 :: some (.ref v) :: r) st t h) : zAW E b G nL cells slots pc (x0 :: x1 :: x2 :: x3 :: x4 :: x5 :: x6 :: x7 :: x8 :: x9 :: x10 :: x11 :: x12 :: x13 :: x14 :: y :: r) (.ref v :: st) t h := by
  obtain ⟨p, l, e, R, s, m, args, below, meth, c, Q⟩ := G
  intro H locs la hH hS hl
  exact lv_astore C.1 C.2.1 hd hl hn rfl (fun la2 hl2 => kk H locs la2 hH hS (zLs_st1 hl2 (fun j x hj hx => by cases hj; cases hx; exact hok)))
theorem zz_iinc_15 {E : zE} {b : Nat} {G : zG} {own : String} {cc : ByteArray} {nL : Nat} {rt : Option FieldType} {cells slots pc : Nat} {t : zT} {h : zH} {x0 x1 x2 x3 x4 x5 x6 x7 x8 x9 x10 x11 x12 x13 x14 : Option Value} {r : List (Option Value)} {st : List Value} (C : zCx E b G own cc nL rt) {v : Int32} {n : Int} (w : Int32) (hn : 15 < nL) (hok : zok x14 = true) (hd : decode cc pc = .ok (.iinc 15 n, 3)) (hv : v + Int32.ofInt n = w) (kk : zAW E b G nL cells slots (pc + 3) (x0 :: x1 :: x2 :: x3 :: x4 :: x5 :: x6 :: x7 :: x8 :: x9 :: x10 :: x11 :: x12 :: x13 :: x14 :: some (.int w) :: r) st t h) : zAW E b G nL cells slots pc (x0 :: x1 :: x2 :: x3 :: x4 :: x5 :: x6 :: x7 :: x8 :: x9 :: x10 :: x11 :: x12 :: x13 :: x14 :: some (.int v) :: r) st t h := by
  obtain ⟨p, l, e, R, s, m, args, below, meth, c, Q⟩ := G
  intro H locs la hH hS hl
  obtain ⟨q, hq⟩ := List.getElem?_of_mem ((zAs_mem (x0 :: x1 :: x2 :: x3 :: x4 :: x5 :: x6 :: x7 :: x8 :: x9 :: x10 :: x11 :: x12 :: x13 :: x14 :: some (.int v) :: r) 0 15 (.int v)).mpr ⟨15, rfl, rfl⟩)
  exact lv_iinc C.1 C.2.1 hd hl hq hv hn rfl (fun la2 hl2 => kk H locs la2 hH hS (zLs_st1 hl2 (fun j x hj hx => by cases hj; cases hx; exact hok)))
theorem zz_iload_16 {E : zE} {b : Nat} {G : zG} {own : String} {cc : ByteArray} {nL : Nat} {rt : Option FieldType} {cells slots pc : Nat} {t : zT} {h : zH} {x0 x1 x2 x3 x4 x5 x6 x7 x8 x9 x10 x11 x12 x13 x14 x15 : Option Value} {r : List (Option Value)} {st : List Value} (C : zCx E b G own cc nL rt) {v : Int32} (hd : decode cc pc = .ok (.iload 16, 2)) (kk : zAW E b G nL cells slots (pc + 2) (x0 :: x1 :: x2 :: x3 :: x4 :: x5 :: x6 :: x7 :: x8 :: x9 :: x10 :: x11 :: x12 :: x13 :: x14 :: x15 :: some (.int v) :: r) (.int v :: st) t h) : zAW E b G nL cells slots pc (x0 :: x1 :: x2 :: x3 :: x4 :: x5 :: x6 :: x7 :: x8 :: x9 :: x10 :: x11 :: x12 :: x13 :: x14 :: x15 :: some (.int v) :: r) st t h := by
  obtain ⟨p, l, e, R, s, m, args, below, meth, c, Q⟩ := G
  intro H locs la hH hS hl
  exact lv_iload C.1 C.2.1 hd (zLs_at (k := 16) hl rfl) (kk H locs la hH hS hl)
theorem zz_istore_16 {E : zE} {b : Nat} {G : zG} {own : String} {cc : ByteArray} {nL : Nat} {rt : Option FieldType} {cells slots pc : Nat} {t : zT} {h : zH} {x0 x1 x2 x3 x4 x5 x6 x7 x8 x9 x10 x11 x12 x13 x14 x15 : Option Value} {y : Option Value} {r : List (Option Value)} {st : List Value} (C : zCx E b G own cc nL rt) {v : Int32} (hn : 16 < nL) (hok : zok x15 = true) (hd : decode cc pc = .ok (.istore 16, 2)) (kk : zAW E b G nL cells slots (pc + 2) (x0 :: x1 :: x2 :: x3 :: x4 :: x5 :: x6 :: x7 :: x8 :: x9 :: x10 :: x11 :: x12 :: x13 :: x14 :: x15 :: some (.int v) :: r) st t h) : zAW E b G nL cells slots pc (x0 :: x1 :: x2 :: x3 :: x4 :: x5 :: x6 :: x7 :: x8 :: x9 :: x10 :: x11 :: x12 :: x13 :: x14 :: x15 :: y :: r) (.int v :: st) t h := by
  obtain ⟨p, l, e, R, s, m, args, below, meth, c, Q⟩ := G
  intro H locs la hH hS hl
  exact lv_istore C.1 C.2.1 hd hl hn rfl (fun la2 hl2 => kk H locs la2 hH hS (zLs_st1 hl2 (fun j x hj hx => by cases hj; cases hx; exact hok)))
theorem zz_lload_16 {E : zE} {b : Nat} {G : zG} {own : String} {cc : ByteArray} {nL : Nat} {rt : Option FieldType} {cells slots pc : Nat} {t : zT} {h : zH} {x0 x1 x2 x3 x4 x5 x6 x7 x8 x9 x10 x11 x12 x13 x14 x15 : Option Value} {r : List (Option Value)} {st : List Value} (C : zCx E b G own cc nL rt) {v : Int64} (hd : decode cc pc = .ok (.lload 16, 2)) (kk : zAW E b G nL cells slots (pc + 2) (x0 :: x1 :: x2 :: x3 :: x4 :: x5 :: x6 :: x7 :: x8 :: x9 :: x10 :: x11 :: x12 :: x13 :: x14 :: x15 :: some (.long v) :: r) (.long v :: st) t h) : zAW E b G nL cells slots pc (x0 :: x1 :: x2 :: x3 :: x4 :: x5 :: x6 :: x7 :: x8 :: x9 :: x10 :: x11 :: x12 :: x13 :: x14 :: x15 :: some (.long v) :: r) st t h := by
  obtain ⟨p, l, e, R, s, m, args, below, meth, c, Q⟩ := G
  intro H locs la hH hS hl
  exact lv_lload C.1 C.2.1 hd (zLs_at (k := 16) hl rfl) (kk H locs la hH hS hl)
theorem zz_lstore_16 {E : zE} {b : Nat} {G : zG} {own : String} {cc : ByteArray} {nL : Nat} {rt : Option FieldType} {cells slots pc : Nat} {t : zT} {h : zH} {x0 x1 x2 x3 x4 x5 x6 x7 x8 x9 x10 x11 x12 x13 x14 x15 : Option Value} {y y2 : Option Value} {r : List (Option Value)} {st : List Value} (C : zCx E b G own cc nL rt) {v : Int64} (hn : 17 < nL) (hok : zok x15 = true) (hd : decode cc pc = .ok (.lstore 16, 2)) (kk : zAW E b G nL cells slots (pc + 2) (x0 :: x1 :: x2 :: x3 :: x4 :: x5 :: x6 :: x7 :: x8 :: x9 :: x10 :: x11 :: x12 :: x13 :: x14 :: x15 :: some (.long v) :: none :: r) st t h) : zAW E b G nL cells slots pc (x0 :: x1 :: x2 :: x3 :: x4 :: x5 :: x6 :: x7 :: x8 :: x9 :: x10 :: x11 :: x12 :: x13 :: x14 :: x15 :: y :: y2 :: r) (.long v :: st) t h := by
  obtain ⟨p, l, e, R, s, m, args, below, meth, c, Q⟩ := G
  intro H locs la hH hS hl
  exact lv_lstore C.1 C.2.1 hd hl hn rfl (fun la2 hl2 => kk H locs la2 hH hS (zLs_st2 hl2 (fun j x hj hx => by cases hj; cases hx; exact hok)))
theorem zz_aload_16 {E : zE} {b : Nat} {G : zG} {own : String} {cc : ByteArray} {nL : Nat} {rt : Option FieldType} {cells slots pc : Nat} {t : zT} {h : zH} {x0 x1 x2 x3 x4 x5 x6 x7 x8 x9 x10 x11 x12 x13 x14 x15 : Option Value} {r : List (Option Value)} {st : List Value} (C : zCx E b G own cc nL rt) {v : Nat} (hd : decode cc pc = .ok (.aload 16, 2)) (kk : zAW E b G nL cells slots (pc + 2) (x0 :: x1 :: x2 :: x3 :: x4 :: x5 :: x6 :: x7 :: x8 :: x9 :: x10 :: x11 :: x12 :: x13 :: x14 :: x15 :: some (.ref v) :: r) (.ref v :: st) t h) : zAW E b G nL cells slots pc (x0 :: x1 :: x2 :: x3 :: x4 :: x5 :: x6 :: x7 :: x8 :: x9 :: x10 :: x11 :: x12 :: x13 :: x14 :: x15 :: some (.ref v) :: r) st t h := by
  obtain ⟨p, l, e, R, s, m, args, below, meth, c, Q⟩ := G
  intro H locs la hH hS hl
  exact lv_aload C.1 C.2.1 hd (zLs_at (k := 16) hl rfl) (kk H locs la hH hS hl)
theorem zz_astore_16 {E : zE} {b : Nat} {G : zG} {own : String} {cc : ByteArray} {nL : Nat} {rt : Option FieldType} {cells slots pc : Nat} {t : zT} {h : zH} {x0 x1 x2 x3 x4 x5 x6 x7 x8 x9 x10 x11 x12 x13 x14 x15 : Option Value} {y : Option Value} {r : List (Option Value)} {st : List Value} (C : zCx E b G own cc nL rt) {v : Nat} (hn : 16 < nL) (hok : zok x15 = true) (hd : decode cc pc = .ok (.astore 16, 2)) (kk : zAW E b G nL cells slots (pc + 2) (x0 :: x1 :: x2 :: x3 :: x4 :: x5 :: x6 :: x7 :: x8 :: x9 :: x10 :: x11 :: x12 :: x13 :: x14 :: x15 :: some (.ref v) :: r) st t h) : zAW E b G nL cells slots pc (x0 :: x1 :: x2 :: x3 :: x4 :: x5 :: x6 :: x7 :: x8 :: x9 :: x10 :: x11 :: x12 :: x13 :: x14 :: x15 :: y :: r) (.ref v :: st) t h := by
  obtain ⟨p, l, e, R, s, m, args, below, meth, c, Q⟩ := G
  intro H locs la hH hS hl
  exact lv_astore C.1 C.2.1 hd hl hn rfl (fun la2 hl2 => kk H locs la2 hH hS (zLs_st1 hl2 (fun j x hj hx => by cases hj; cases hx; exact hok)))
theorem zz_iinc_16 {E : zE} {b : Nat} {G : zG} {own : String} {cc : ByteArray} {nL : Nat} {rt : Option FieldType} {cells slots pc : Nat} {t : zT} {h : zH} {x0 x1 x2 x3 x4 x5 x6 x7 x8 x9 x10 x11 x12 x13 x14 x15 : Option Value} {r : List (Option Value)} {st : List Value} (C : zCx E b G own cc nL rt) {v : Int32} {n : Int} (w : Int32) (hn : 16 < nL) (hok : zok x15 = true) (hd : decode cc pc = .ok (.iinc 16 n, 3)) (hv : v + Int32.ofInt n = w) (kk : zAW E b G nL cells slots (pc + 3) (x0 :: x1 :: x2 :: x3 :: x4 :: x5 :: x6 :: x7 :: x8 :: x9 :: x10 :: x11 :: x12 :: x13 :: x14 :: x15 :: some (.int w) :: r) st t h) : zAW E b G nL cells slots pc (x0 :: x1 :: x2 :: x3 :: x4 :: x5 :: x6 :: x7 :: x8 :: x9 :: x10 :: x11 :: x12 :: x13 :: x14 :: x15 :: some (.int v) :: r) st t h := by
  obtain ⟨p, l, e, R, s, m, args, below, meth, c, Q⟩ := G
  intro H locs la hH hS hl
  obtain ⟨q, hq⟩ := List.getElem?_of_mem ((zAs_mem (x0 :: x1 :: x2 :: x3 :: x4 :: x5 :: x6 :: x7 :: x8 :: x9 :: x10 :: x11 :: x12 :: x13 :: x14 :: x15 :: some (.int v) :: r) 0 16 (.int v)).mpr ⟨16, rfl, rfl⟩)
  exact lv_iinc C.1 C.2.1 hd hl hq hv hn rfl (fun la2 hl2 => kk H locs la2 hH hS (zLs_st1 hl2 (fun j x hj hx => by cases hj; cases hx; exact hok)))
theorem zz_iload_17 {E : zE} {b : Nat} {G : zG} {own : String} {cc : ByteArray} {nL : Nat} {rt : Option FieldType} {cells slots pc : Nat} {t : zT} {h : zH} {x0 x1 x2 x3 x4 x5 x6 x7 x8 x9 x10 x11 x12 x13 x14 x15 x16 : Option Value} {r : List (Option Value)} {st : List Value} (C : zCx E b G own cc nL rt) {v : Int32} (hd : decode cc pc = .ok (.iload 17, 2)) (kk : zAW E b G nL cells slots (pc + 2) (x0 :: x1 :: x2 :: x3 :: x4 :: x5 :: x6 :: x7 :: x8 :: x9 :: x10 :: x11 :: x12 :: x13 :: x14 :: x15 :: x16 :: some (.int v) :: r) (.int v :: st) t h) : zAW E b G nL cells slots pc (x0 :: x1 :: x2 :: x3 :: x4 :: x5 :: x6 :: x7 :: x8 :: x9 :: x10 :: x11 :: x12 :: x13 :: x14 :: x15 :: x16 :: some (.int v) :: r) st t h := by
  obtain ⟨p, l, e, R, s, m, args, below, meth, c, Q⟩ := G
  intro H locs la hH hS hl
  exact lv_iload C.1 C.2.1 hd (zLs_at (k := 17) hl rfl) (kk H locs la hH hS hl)
theorem zz_istore_17 {E : zE} {b : Nat} {G : zG} {own : String} {cc : ByteArray} {nL : Nat} {rt : Option FieldType} {cells slots pc : Nat} {t : zT} {h : zH} {x0 x1 x2 x3 x4 x5 x6 x7 x8 x9 x10 x11 x12 x13 x14 x15 x16 : Option Value} {y : Option Value} {r : List (Option Value)} {st : List Value} (C : zCx E b G own cc nL rt) {v : Int32} (hn : 17 < nL) (hok : zok x16 = true) (hd : decode cc pc = .ok (.istore 17, 2)) (kk : zAW E b G nL cells slots (pc + 2) (x0 :: x1 :: x2 :: x3 :: x4 :: x5 :: x6 :: x7 :: x8 :: x9 :: x10 :: x11 :: x12 :: x13 :: x14 :: x15 :: x16 :: some (.int v) :: r) st t h) : zAW E b G nL cells slots pc (x0 :: x1 :: x2 :: x3 :: x4 :: x5 :: x6 :: x7 :: x8 :: x9 :: x10 :: x11 :: x12 :: x13 :: x14 :: x15 :: x16 :: y :: r) (.int v :: st) t h := by
  obtain ⟨p, l, e, R, s, m, args, below, meth, c, Q⟩ := G
  intro H locs la hH hS hl
  exact lv_istore C.1 C.2.1 hd hl hn rfl (fun la2 hl2 => kk H locs la2 hH hS (zLs_st1 hl2 (fun j x hj hx => by cases hj; cases hx; exact hok)))
theorem zz_lload_17 {E : zE} {b : Nat} {G : zG} {own : String} {cc : ByteArray} {nL : Nat} {rt : Option FieldType} {cells slots pc : Nat} {t : zT} {h : zH} {x0 x1 x2 x3 x4 x5 x6 x7 x8 x9 x10 x11 x12 x13 x14 x15 x16 : Option Value} {r : List (Option Value)} {st : List Value} (C : zCx E b G own cc nL rt) {v : Int64} (hd : decode cc pc = .ok (.lload 17, 2)) (kk : zAW E b G nL cells slots (pc + 2) (x0 :: x1 :: x2 :: x3 :: x4 :: x5 :: x6 :: x7 :: x8 :: x9 :: x10 :: x11 :: x12 :: x13 :: x14 :: x15 :: x16 :: some (.long v) :: r) (.long v :: st) t h) : zAW E b G nL cells slots pc (x0 :: x1 :: x2 :: x3 :: x4 :: x5 :: x6 :: x7 :: x8 :: x9 :: x10 :: x11 :: x12 :: x13 :: x14 :: x15 :: x16 :: some (.long v) :: r) st t h := by
  obtain ⟨p, l, e, R, s, m, args, below, meth, c, Q⟩ := G
  intro H locs la hH hS hl
  exact lv_lload C.1 C.2.1 hd (zLs_at (k := 17) hl rfl) (kk H locs la hH hS hl)
theorem zz_lstore_17 {E : zE} {b : Nat} {G : zG} {own : String} {cc : ByteArray} {nL : Nat} {rt : Option FieldType} {cells slots pc : Nat} {t : zT} {h : zH} {x0 x1 x2 x3 x4 x5 x6 x7 x8 x9 x10 x11 x12 x13 x14 x15 x16 : Option Value} {y y2 : Option Value} {r : List (Option Value)} {st : List Value} (C : zCx E b G own cc nL rt) {v : Int64} (hn : 18 < nL) (hok : zok x16 = true) (hd : decode cc pc = .ok (.lstore 17, 2)) (kk : zAW E b G nL cells slots (pc + 2) (x0 :: x1 :: x2 :: x3 :: x4 :: x5 :: x6 :: x7 :: x8 :: x9 :: x10 :: x11 :: x12 :: x13 :: x14 :: x15 :: x16 :: some (.long v) :: none :: r) st t h) : zAW E b G nL cells slots pc (x0 :: x1 :: x2 :: x3 :: x4 :: x5 :: x6 :: x7 :: x8 :: x9 :: x10 :: x11 :: x12 :: x13 :: x14 :: x15 :: x16 :: y :: y2 :: r) (.long v :: st) t h := by
  obtain ⟨p, l, e, R, s, m, args, below, meth, c, Q⟩ := G
  intro H locs la hH hS hl
  exact lv_lstore C.1 C.2.1 hd hl hn rfl (fun la2 hl2 => kk H locs la2 hH hS (zLs_st2 hl2 (fun j x hj hx => by cases hj; cases hx; exact hok)))
theorem zz_aload_17 {E : zE} {b : Nat} {G : zG} {own : String} {cc : ByteArray} {nL : Nat} {rt : Option FieldType} {cells slots pc : Nat} {t : zT} {h : zH} {x0 x1 x2 x3 x4 x5 x6 x7 x8 x9 x10 x11 x12 x13 x14 x15 x16 : Option Value} {r : List (Option Value)} {st : List Value} (C : zCx E b G own cc nL rt) {v : Nat} (hd : decode cc pc = .ok (.aload 17, 2)) (kk : zAW E b G nL cells slots (pc + 2) (x0 :: x1 :: x2 :: x3 :: x4 :: x5 :: x6 :: x7 :: x8 :: x9 :: x10 :: x11 :: x12 :: x13 :: x14 :: x15 :: x16 :: some (.ref v) :: r) (.ref v :: st) t h) : zAW E b G nL cells slots pc (x0 :: x1 :: x2 :: x3 :: x4 :: x5 :: x6 :: x7 :: x8 :: x9 :: x10 :: x11 :: x12 :: x13 :: x14 :: x15 :: x16 :: some (.ref v) :: r) st t h := by
  obtain ⟨p, l, e, R, s, m, args, below, meth, c, Q⟩ := G
  intro H locs la hH hS hl
  exact lv_aload C.1 C.2.1 hd (zLs_at (k := 17) hl rfl) (kk H locs la hH hS hl)
theorem zz_astore_17 {E : zE} {b : Nat} {G : zG} {own : String} {cc : ByteArray} {nL : Nat} {rt : Option FieldType} {cells slots pc : Nat} {t : zT} {h : zH} {x0 x1 x2 x3 x4 x5 x6 x7 x8 x9 x10 x11 x12 x13 x14 x15 x16 : Option Value} {y : Option Value} {r : List (Option Value)} {st : List Value} (C : zCx E b G own cc nL rt) {v : Nat} (hn : 17 < nL) (hok : zok x16 = true) (hd : decode cc pc = .ok (.astore 17, 2)) (kk : zAW E b G nL cells slots (pc + 2) (x0 :: x1 :: x2 :: x3 :: x4 :: x5 :: x6 :: x7 :: x8 :: x9 :: x10 :: x11 :: x12 :: x13 :: x14 :: x15 :: x16 :: some (.ref v) :: r) st t h) : zAW E b G nL cells slots pc (x0 :: x1 :: x2 :: x3 :: x4 :: x5 :: x6 :: x7 :: x8 :: x9 :: x10 :: x11 :: x12 :: x13 :: x14 :: x15 :: x16 :: y :: r) (.ref v :: st) t h := by
  obtain ⟨p, l, e, R, s, m, args, below, meth, c, Q⟩ := G
  intro H locs la hH hS hl
  exact lv_astore C.1 C.2.1 hd hl hn rfl (fun la2 hl2 => kk H locs la2 hH hS (zLs_st1 hl2 (fun j x hj hx => by cases hj; cases hx; exact hok)))
theorem zz_iinc_17 {E : zE} {b : Nat} {G : zG} {own : String} {cc : ByteArray} {nL : Nat} {rt : Option FieldType} {cells slots pc : Nat} {t : zT} {h : zH} {x0 x1 x2 x3 x4 x5 x6 x7 x8 x9 x10 x11 x12 x13 x14 x15 x16 : Option Value} {r : List (Option Value)} {st : List Value} (C : zCx E b G own cc nL rt) {v : Int32} {n : Int} (w : Int32) (hn : 17 < nL) (hok : zok x16 = true) (hd : decode cc pc = .ok (.iinc 17 n, 3)) (hv : v + Int32.ofInt n = w) (kk : zAW E b G nL cells slots (pc + 3) (x0 :: x1 :: x2 :: x3 :: x4 :: x5 :: x6 :: x7 :: x8 :: x9 :: x10 :: x11 :: x12 :: x13 :: x14 :: x15 :: x16 :: some (.int w) :: r) st t h) : zAW E b G nL cells slots pc (x0 :: x1 :: x2 :: x3 :: x4 :: x5 :: x6 :: x7 :: x8 :: x9 :: x10 :: x11 :: x12 :: x13 :: x14 :: x15 :: x16 :: some (.int v) :: r) st t h := by
  obtain ⟨p, l, e, R, s, m, args, below, meth, c, Q⟩ := G
  intro H locs la hH hS hl
  obtain ⟨q, hq⟩ := List.getElem?_of_mem ((zAs_mem (x0 :: x1 :: x2 :: x3 :: x4 :: x5 :: x6 :: x7 :: x8 :: x9 :: x10 :: x11 :: x12 :: x13 :: x14 :: x15 :: x16 :: some (.int v) :: r) 0 17 (.int v)).mpr ⟨17, rfl, rfl⟩)
  exact lv_iinc C.1 C.2.1 hd hl hq hv hn rfl (fun la2 hl2 => kk H locs la2 hH hS (zLs_st1 hl2 (fun j x hj hx => by cases hj; cases hx; exact hok)))
theorem zz_iload_18 {E : zE} {b : Nat} {G : zG} {own : String} {cc : ByteArray} {nL : Nat} {rt : Option FieldType} {cells slots pc : Nat} {t : zT} {h : zH} {x0 x1 x2 x3 x4 x5 x6 x7 x8 x9 x10 x11 x12 x13 x14 x15 x16 x17 : Option Value} {r : List (Option Value)} {st : List Value} (C : zCx E b G own cc nL rt) {v : Int32} (hd : decode cc pc = .ok (.iload 18, 2)) (kk : zAW E b G nL cells slots (pc + 2) (x0 :: x1 :: x2 :: x3 :: x4 :: x5 :: x6 :: x7 :: x8 :: x9 :: x10 :: x11 :: x12 :: x13 :: x14 :: x15 :: x16 :: x17 :: some (.int v) :: r) (.int v :: st) t h) : zAW E b G nL cells slots pc (x0 :: x1 :: x2 :: x3 :: x4 :: x5 :: x6 :: x7 :: x8 :: x9 :: x10 :: x11 :: x12 :: x13 :: x14 :: x15 :: x16 :: x17 :: some (.int v) :: r) st t h := by
  obtain ⟨p, l, e, R, s, m, args, below, meth, c, Q⟩ := G
  intro H locs la hH hS hl
  exact lv_iload C.1 C.2.1 hd (zLs_at (k := 18) hl rfl) (kk H locs la hH hS hl)
theorem zz_istore_18 {E : zE} {b : Nat} {G : zG} {own : String} {cc : ByteArray} {nL : Nat} {rt : Option FieldType} {cells slots pc : Nat} {t : zT} {h : zH} {x0 x1 x2 x3 x4 x5 x6 x7 x8 x9 x10 x11 x12 x13 x14 x15 x16 x17 : Option Value} {y : Option Value} {r : List (Option Value)} {st : List Value} (C : zCx E b G own cc nL rt) {v : Int32} (hn : 18 < nL) (hok : zok x17 = true) (hd : decode cc pc = .ok (.istore 18, 2)) (kk : zAW E b G nL cells slots (pc + 2) (x0 :: x1 :: x2 :: x3 :: x4 :: x5 :: x6 :: x7 :: x8 :: x9 :: x10 :: x11 :: x12 :: x13 :: x14 :: x15 :: x16 :: x17 :: some (.int v) :: r) st t h) : zAW E b G nL cells slots pc (x0 :: x1 :: x2 :: x3 :: x4 :: x5 :: x6 :: x7 :: x8 :: x9 :: x10 :: x11 :: x12 :: x13 :: x14 :: x15 :: x16 :: x17 :: y :: r) (.int v :: st) t h := by
  obtain ⟨p, l, e, R, s, m, args, below, meth, c, Q⟩ := G
  intro H locs la hH hS hl
  exact lv_istore C.1 C.2.1 hd hl hn rfl (fun la2 hl2 => kk H locs la2 hH hS (zLs_st1 hl2 (fun j x hj hx => by cases hj; cases hx; exact hok)))
theorem zz_lload_18 {E : zE} {b : Nat} {G : zG} {own : String} {cc : ByteArray} {nL : Nat} {rt : Option FieldType} {cells slots pc : Nat} {t : zT} {h : zH} {x0 x1 x2 x3 x4 x5 x6 x7 x8 x9 x10 x11 x12 x13 x14 x15 x16 x17 : Option Value} {r : List (Option Value)} {st : List Value} (C : zCx E b G own cc nL rt) {v : Int64} (hd : decode cc pc = .ok (.lload 18, 2)) (kk : zAW E b G nL cells slots (pc + 2) (x0 :: x1 :: x2 :: x3 :: x4 :: x5 :: x6 :: x7 :: x8 :: x9 :: x10 :: x11 :: x12 :: x13 :: x14 :: x15 :: x16 :: x17 :: some (.long v) :: r) (.long v :: st) t h) : zAW E b G nL cells slots pc (x0 :: x1 :: x2 :: x3 :: x4 :: x5 :: x6 :: x7 :: x8 :: x9 :: x10 :: x11 :: x12 :: x13 :: x14 :: x15 :: x16 :: x17 :: some (.long v) :: r) st t h := by
  obtain ⟨p, l, e, R, s, m, args, below, meth, c, Q⟩ := G
  intro H locs la hH hS hl
  exact lv_lload C.1 C.2.1 hd (zLs_at (k := 18) hl rfl) (kk H locs la hH hS hl)
theorem zz_lstore_18 {E : zE} {b : Nat} {G : zG} {own : String} {cc : ByteArray} {nL : Nat} {rt : Option FieldType} {cells slots pc : Nat} {t : zT} {h : zH} {x0 x1 x2 x3 x4 x5 x6 x7 x8 x9 x10 x11 x12 x13 x14 x15 x16 x17 : Option Value} {y y2 : Option Value} {r : List (Option Value)} {st : List Value} (C : zCx E b G own cc nL rt) {v : Int64} (hn : 19 < nL) (hok : zok x17 = true) (hd : decode cc pc = .ok (.lstore 18, 2)) (kk : zAW E b G nL cells slots (pc + 2) (x0 :: x1 :: x2 :: x3 :: x4 :: x5 :: x6 :: x7 :: x8 :: x9 :: x10 :: x11 :: x12 :: x13 :: x14 :: x15 :: x16 :: x17 :: some (.long v) :: none :: r) st t h) : zAW E b G nL cells slots pc (x0 :: x1 :: x2 :: x3 :: x4 :: x5 :: x6 :: x7 :: x8 :: x9 :: x10 :: x11 :: x12 :: x13 :: x14 :: x15 :: x16 :: x17 :: y :: y2 :: r) (.long v :: st) t h := by
  obtain ⟨p, l, e, R, s, m, args, below, meth, c, Q⟩ := G
  intro H locs la hH hS hl
  exact lv_lstore C.1 C.2.1 hd hl hn rfl (fun la2 hl2 => kk H locs la2 hH hS (zLs_st2 hl2 (fun j x hj hx => by cases hj; cases hx; exact hok)))
theorem zz_aload_18 {E : zE} {b : Nat} {G : zG} {own : String} {cc : ByteArray} {nL : Nat} {rt : Option FieldType} {cells slots pc : Nat} {t : zT} {h : zH} {x0 x1 x2 x3 x4 x5 x6 x7 x8 x9 x10 x11 x12 x13 x14 x15 x16 x17 : Option Value} {r : List (Option Value)} {st : List Value} (C : zCx E b G own cc nL rt) {v : Nat} (hd : decode cc pc = .ok (.aload 18, 2)) (kk : zAW E b G nL cells slots (pc + 2) (x0 :: x1 :: x2 :: x3 :: x4 :: x5 :: x6 :: x7 :: x8 :: x9 :: x10 :: x11 :: x12 :: x13 :: x14 :: x15 :: x16 :: x17 :: some (.ref v) :: r) (.ref v :: st) t h) : zAW E b G nL cells slots pc (x0 :: x1 :: x2 :: x3 :: x4 :: x5 :: x6 :: x7 :: x8 :: x9 :: x10 :: x11 :: x12 :: x13 :: x14 :: x15 :: x16 :: x17 :: some (.ref v) :: r) st t h := by
  obtain ⟨p, l, e, R, s, m, args, below, meth, c, Q⟩ := G
  intro H locs la hH hS hl
  exact lv_aload C.1 C.2.1 hd (zLs_at (k := 18) hl rfl) (kk H locs la hH hS hl)
theorem zz_astore_18 {E : zE} {b : Nat} {G : zG} {own : String} {cc : ByteArray} {nL : Nat} {rt : Option FieldType} {cells slots pc : Nat} {t : zT} {h : zH} {x0 x1 x2 x3 x4 x5 x6 x7 x8 x9 x10 x11 x12 x13 x14 x15 x16 x17 : Option Value} {y : Option Value} {r : List (Option Value)} {st : List Value} (C : zCx E b G own cc nL rt) {v : Nat} (hn : 18 < nL) (hok : zok x17 = true) (hd : decode cc pc = .ok (.astore 18, 2)) (kk : zAW E b G nL cells slots (pc + 2) (x0 :: x1 :: x2 :: x3 :: x4 :: x5 :: x6 :: x7 :: x8 :: x9 :: x10 :: x11 :: x12 :: x13 :: x14 :: x15 :: x16 :: x17 :: some (.ref v) :: r) st t h) : zAW E b G nL cells slots pc (x0 :: x1 :: x2 :: x3 :: x4 :: x5 :: x6 :: x7 :: x8 :: x9 :: x10 :: x11 :: x12 :: x13 :: x14 :: x15 :: x16 :: x17 :: y :: r) (.ref v :: st) t h := by
  obtain ⟨p, l, e, R, s, m, args, below, meth, c, Q⟩ := G
  intro H locs la hH hS hl
  exact lv_astore C.1 C.2.1 hd hl hn rfl (fun la2 hl2 => kk H locs la2 hH hS (zLs_st1 hl2 (fun j x hj hx => by cases hj; cases hx; exact hok)))
theorem zz_iinc_18 {E : zE} {b : Nat} {G : zG} {own : String} {cc : ByteArray} {nL : Nat} {rt : Option FieldType} {cells slots pc : Nat} {t : zT} {h : zH} {x0 x1 x2 x3 x4 x5 x6 x7 x8 x9 x10 x11 x12 x13 x14 x15 x16 x17 : Option Value} {r : List (Option Value)} {st : List Value} (C : zCx E b G own cc nL rt) {v : Int32} {n : Int} (w : Int32) (hn : 18 < nL) (hok : zok x17 = true) (hd : decode cc pc = .ok (.iinc 18 n, 3)) (hv : v + Int32.ofInt n = w) (kk : zAW E b G nL cells slots (pc + 3) (x0 :: x1 :: x2 :: x3 :: x4 :: x5 :: x6 :: x7 :: x8 :: x9 :: x10 :: x11 :: x12 :: x13 :: x14 :: x15 :: x16 :: x17 :: some (.int w) :: r) st t h) : zAW E b G nL cells slots pc (x0 :: x1 :: x2 :: x3 :: x4 :: x5 :: x6 :: x7 :: x8 :: x9 :: x10 :: x11 :: x12 :: x13 :: x14 :: x15 :: x16 :: x17 :: some (.int v) :: r) st t h := by
  obtain ⟨p, l, e, R, s, m, args, below, meth, c, Q⟩ := G
  intro H locs la hH hS hl
  obtain ⟨q, hq⟩ := List.getElem?_of_mem ((zAs_mem (x0 :: x1 :: x2 :: x3 :: x4 :: x5 :: x6 :: x7 :: x8 :: x9 :: x10 :: x11 :: x12 :: x13 :: x14 :: x15 :: x16 :: x17 :: some (.int v) :: r) 0 18 (.int v)).mpr ⟨18, rfl, rfl⟩)
  exact lv_iinc C.1 C.2.1 hd hl hq hv hn rfl (fun la2 hl2 => kk H locs la2 hH hS (zLs_st1 hl2 (fun j x hj hx => by cases hj; cases hx; exact hok)))
theorem zz_iload_19 {E : zE} {b : Nat} {G : zG} {own : String} {cc : ByteArray} {nL : Nat} {rt : Option FieldType} {cells slots pc : Nat} {t : zT} {h : zH} {x0 x1 x2 x3 x4 x5 x6 x7 x8 x9 x10 x11 x12 x13 x14 x15 x16 x17 x18 : Option Value} {r : List (Option Value)} {st : List Value} (C : zCx E b G own cc nL rt) {v : Int32} (hd : decode cc pc = .ok (.iload 19, 2)) (kk : zAW E b G nL cells slots (pc + 2) (x0 :: x1 :: x2 :: x3 :: x4 :: x5 :: x6 :: x7 :: x8 :: x9 :: x10 :: x11 :: x12 :: x13 :: x14 :: x15 :: x16 :: x17 :: x18 :: some (.int v) :: r) (.int v :: st) t h) : zAW E b G nL cells slots pc (x0 :: x1 :: x2 :: x3 :: x4 :: x5 :: x6 :: x7 :: x8 :: x9 :: x10 :: x11 :: x12 :: x13 :: x14 :: x15 :: x16 :: x17 :: x18 :: some (.int v) :: r) st t h := by
  obtain ⟨p, l, e, R, s, m, args, below, meth, c, Q⟩ := G
  intro H locs la hH hS hl
  exact lv_iload C.1 C.2.1 hd (zLs_at (k := 19) hl rfl) (kk H locs la hH hS hl)
theorem zz_istore_19 {E : zE} {b : Nat} {G : zG} {own : String} {cc : ByteArray} {nL : Nat} {rt : Option FieldType} {cells slots pc : Nat} {t : zT} {h : zH} {x0 x1 x2 x3 x4 x5 x6 x7 x8 x9 x10 x11 x12 x13 x14 x15 x16 x17 x18 : Option Value} {y : Option Value} {r : List (Option Value)} {st : List Value} (C : zCx E b G own cc nL rt) {v : Int32} (hn : 19 < nL) (hok : zok x18 = true) (hd : decode cc pc = .ok (.istore 19, 2)) (kk : zAW E b G nL cells slots (pc + 2) (x0 :: x1 :: x2 :: x3 :: x4 :: x5 :: x6 :: x7 :: x8 :: x9 :: x10 :: x11 :: x12 :: x13 :: x14 :: x15 :: x16 :: x17 :: x18 :: some (.int v) :: r) st t h) : zAW E b G nL cells slots pc (x0 :: x1 :: x2 :: x3 :: x4 :: x5 :: x6 :: x7 :: x8 :: x9 :: x10 :: x11 :: x12 :: x13 :: x14 :: x15 :: x16 :: x17 :: x18 :: y :: r) (.int v :: st) t h := by
  obtain ⟨p, l, e, R, s, m, args, below, meth, c, Q⟩ := G
  intro H locs la hH hS hl
  exact lv_istore C.1 C.2.1 hd hl hn rfl (fun la2 hl2 => kk H locs la2 hH hS (zLs_st1 hl2 (fun j x hj hx => by cases hj; cases hx; exact hok)))
theorem zz_lload_19 {E : zE} {b : Nat} {G : zG} {own : String} {cc : ByteArray} {nL : Nat} {rt : Option FieldType} {cells slots pc : Nat} {t : zT} {h : zH} {x0 x1 x2 x3 x4 x5 x6 x7 x8 x9 x10 x11 x12 x13 x14 x15 x16 x17 x18 : Option Value} {r : List (Option Value)} {st : List Value} (C : zCx E b G own cc nL rt) {v : Int64} (hd : decode cc pc = .ok (.lload 19, 2)) (kk : zAW E b G nL cells slots (pc + 2) (x0 :: x1 :: x2 :: x3 :: x4 :: x5 :: x6 :: x7 :: x8 :: x9 :: x10 :: x11 :: x12 :: x13 :: x14 :: x15 :: x16 :: x17 :: x18 :: some (.long v) :: r) (.long v :: st) t h) : zAW E b G nL cells slots pc (x0 :: x1 :: x2 :: x3 :: x4 :: x5 :: x6 :: x7 :: x8 :: x9 :: x10 :: x11 :: x12 :: x13 :: x14 :: x15 :: x16 :: x17 :: x18 :: some (.long v) :: r) st t h := by
  obtain ⟨p, l, e, R, s, m, args, below, meth, c, Q⟩ := G
  intro H locs la hH hS hl
  exact lv_lload C.1 C.2.1 hd (zLs_at (k := 19) hl rfl) (kk H locs la hH hS hl)
theorem zz_lstore_19 {E : zE} {b : Nat} {G : zG} {own : String} {cc : ByteArray} {nL : Nat} {rt : Option FieldType} {cells slots pc : Nat} {t : zT} {h : zH} {x0 x1 x2 x3 x4 x5 x6 x7 x8 x9 x10 x11 x12 x13 x14 x15 x16 x17 x18 : Option Value} {y y2 : Option Value} {r : List (Option Value)} {st : List Value} (C : zCx E b G own cc nL rt) {v : Int64} (hn : 20 < nL) (hok : zok x18 = true) (hd : decode cc pc = .ok (.lstore 19, 2)) (kk : zAW E b G nL cells slots (pc + 2) (x0 :: x1 :: x2 :: x3 :: x4 :: x5 :: x6 :: x7 :: x8 :: x9 :: x10 :: x11 :: x12 :: x13 :: x14 :: x15 :: x16 :: x17 :: x18 :: some (.long v) :: none :: r) st t h) : zAW E b G nL cells slots pc (x0 :: x1 :: x2 :: x3 :: x4 :: x5 :: x6 :: x7 :: x8 :: x9 :: x10 :: x11 :: x12 :: x13 :: x14 :: x15 :: x16 :: x17 :: x18 :: y :: y2 :: r) (.long v :: st) t h := by
  obtain ⟨p, l, e, R, s, m, args, below, meth, c, Q⟩ := G
  intro H locs la hH hS hl
  exact lv_lstore C.1 C.2.1 hd hl hn rfl (fun la2 hl2 => kk H locs la2 hH hS (zLs_st2 hl2 (fun j x hj hx => by cases hj; cases hx; exact hok)))
theorem zz_aload_19 {E : zE} {b : Nat} {G : zG} {own : String} {cc : ByteArray} {nL : Nat} {rt : Option FieldType} {cells slots pc : Nat} {t : zT} {h : zH} {x0 x1 x2 x3 x4 x5 x6 x7 x8 x9 x10 x11 x12 x13 x14 x15 x16 x17 x18 : Option Value} {r : List (Option Value)} {st : List Value} (C : zCx E b G own cc nL rt) {v : Nat} (hd : decode cc pc = .ok (.aload 19, 2)) (kk : zAW E b G nL cells slots (pc + 2) (x0 :: x1 :: x2 :: x3 :: x4 :: x5 :: x6 :: x7 :: x8 :: x9 :: x10 :: x11 :: x12 :: x13 :: x14 :: x15 :: x16 :: x17 :: x18 :: some (.ref v) :: r) (.ref v :: st) t h) : zAW E b G nL cells slots pc (x0 :: x1 :: x2 :: x3 :: x4 :: x5 :: x6 :: x7 :: x8 :: x9 :: x10 :: x11 :: x12 :: x13 :: x14 :: x15 :: x16 :: x17 :: x18 :: some (.ref v) :: r) st t h := by
  obtain ⟨p, l, e, R, s, m, args, below, meth, c, Q⟩ := G
  intro H locs la hH hS hl
  exact lv_aload C.1 C.2.1 hd (zLs_at (k := 19) hl rfl) (kk H locs la hH hS hl)
theorem zz_astore_19 {E : zE} {b : Nat} {G : zG} {own : String} {cc : ByteArray} {nL : Nat} {rt : Option FieldType} {cells slots pc : Nat} {t : zT} {h : zH} {x0 x1 x2 x3 x4 x5 x6 x7 x8 x9 x10 x11 x12 x13 x14 x15 x16 x17 x18 : Option Value} {y : Option Value} {r : List (Option Value)} {st : List Value} (C : zCx E b G own cc nL rt) {v : Nat} (hn : 19 < nL) (hok : zok x18 = true) (hd : decode cc pc = .ok (.astore 19, 2)) (kk : zAW E b G nL cells slots (pc + 2) (x0 :: x1 :: x2 :: x3 :: x4 :: x5 :: x6 :: x7 :: x8 :: x9 :: x10 :: x11 :: x12 :: x13 :: x14 :: x15 :: x16 :: x17 :: x18 :: some (.ref v) :: r) st t h) : zAW E b G nL cells slots pc (x0 :: x1 :: x2 :: x3 :: x4 :: x5 :: x6 :: x7 :: x8 :: x9 :: x10 :: x11 :: x12 :: x13 :: x14 :: x15 :: x16 :: x17 :: x18 :: y :: r) (.ref v :: st) t h := by
  obtain ⟨p, l, e, R, s, m, args, below, meth, c, Q⟩ := G
  intro H locs la hH hS hl
  exact lv_astore C.1 C.2.1 hd hl hn rfl (fun la2 hl2 => kk H locs la2 hH hS (zLs_st1 hl2 (fun j x hj hx => by cases hj; cases hx; exact hok)))
theorem zz_iinc_19 {E : zE} {b : Nat} {G : zG} {own : String} {cc : ByteArray} {nL : Nat} {rt : Option FieldType} {cells slots pc : Nat} {t : zT} {h : zH} {x0 x1 x2 x3 x4 x5 x6 x7 x8 x9 x10 x11 x12 x13 x14 x15 x16 x17 x18 : Option Value} {r : List (Option Value)} {st : List Value} (C : zCx E b G own cc nL rt) {v : Int32} {n : Int} (w : Int32) (hn : 19 < nL) (hok : zok x18 = true) (hd : decode cc pc = .ok (.iinc 19 n, 3)) (hv : v + Int32.ofInt n = w) (kk : zAW E b G nL cells slots (pc + 3) (x0 :: x1 :: x2 :: x3 :: x4 :: x5 :: x6 :: x7 :: x8 :: x9 :: x10 :: x11 :: x12 :: x13 :: x14 :: x15 :: x16 :: x17 :: x18 :: some (.int w) :: r) st t h) : zAW E b G nL cells slots pc (x0 :: x1 :: x2 :: x3 :: x4 :: x5 :: x6 :: x7 :: x8 :: x9 :: x10 :: x11 :: x12 :: x13 :: x14 :: x15 :: x16 :: x17 :: x18 :: some (.int v) :: r) st t h := by
  obtain ⟨p, l, e, R, s, m, args, below, meth, c, Q⟩ := G
  intro H locs la hH hS hl
  obtain ⟨q, hq⟩ := List.getElem?_of_mem ((zAs_mem (x0 :: x1 :: x2 :: x3 :: x4 :: x5 :: x6 :: x7 :: x8 :: x9 :: x10 :: x11 :: x12 :: x13 :: x14 :: x15 :: x16 :: x17 :: x18 :: some (.int v) :: r) 0 19 (.int v)).mpr ⟨19, rfl, rfl⟩)
  exact lv_iinc C.1 C.2.1 hd hl hq hv hn rfl (fun la2 hl2 => kk H locs la2 hH hS (zLs_st1 hl2 (fun j x hj hx => by cases hj; cases hx; exact hok)))
end
section
/-! ===== fields and arrays ===== -/
def zFc (ty : FieldType) : Nat := match ty with
  | .long => 1
  | .object _ => 2
  | .array _ => 2
  | _ => 0
/-- a field by its pool place: class c, slot k, its kind f -/
def zFd (own : String) (idx c k f : Nat) : Prop := c < zNc ∧ k < zNf c ∧ Cond.fieldLink own idx (zTb c k).1 (zTb c k).2.1 (zTb c k).2.2.1 ∈ zW ∧ zFc (zTy c k) = f
theorem zFv_0 {b : Nat} {t : zT} {h : zH} {i k : Nat} {ty : FieldType} (hf : zFc ty = 0) : zFv b t h i k ty = .int (zI h i k) := by
  cases ty <;> first | rfl | (simp [zFc] at hf)
theorem zFv_1 {b : Nat} {t : zT} {h : zH} {i k : Nat} {ty : FieldType} (hf : zFc ty = 1) : zFv b t h i k ty = .long (zL h i k) := by
  cases ty <;> first | rfl | (simp [zFc] at hf)
theorem zFv_2 {b : Nat} {t : zT} {h : zH} {i k : Nat} {ty : FieldType} (hf : zFc ty = 2) : zFv b t h i k ty = va_rf (zRv b (zR t i k)) := by
  cases ty <;> first | rfl | (simp [zFc] at hf)
theorem zHp.lt {E : zE} {b : Nat} {t : zT} {h : zH} {H : Heap} (hH : zHp E b t h H) {i c n : Nat} (hK : zK t i = (c, n)) (hc : c < 16) : i < t.1.1 := hH.2.1 i (by rw [hK]; exact hc)
theorem zHp.at {E : zE} {b : Nat} {t : zT} {h : zH} {H : Heap} (hH : zHp E b t h H) {i c n : Nat} (hK : zK t i = (c, n)) (hc : c < 16) : ∃ k : Nat, (zWd E b t h)[k]? = some (b + i, zEnt E b t h i) := zWd_get (hH.lt hK hc) (by rw [hK]; exact hc)
/-- a store into the cell of i: what comes of the world -/
theorem zHp.put {E : zE} {b : Nat} {t t' : zT} {h h' : zH} {H H1 : Heap} {i c n k : Nat} {e : va_E} (hH : zHp E b t h H) (hK : zK t i = (c, n)) (hc : c < 16) (hg : (zWd E b t h)[k]? = some (b + i, zEnt E b t h i)) (ht : t'.1 = t.1) (htk : t'.2.1 = t.2.1) (he : zEnt E b t' h' i = e) (ho : ∀ j, j ≠ i → zEnt E b t' h' j = zEnt E b t h j) (hat : va_at E.1 vwCl (b + i, e) H1) (hz : H1.size = H.size) (oq : ∀ q : Nat, q ≠ b + i → H1[q]? = H[q]?) : zHp E b t' h' H1 := by
  refine ⟨by rw [hz, ht]; exact hH.1, fun j hj => ?_, ?_⟩
  · rw [ht]
    exact hH.2.1 j (by unfold zK at hj ⊢; rw [htk] at hj; exact hj)
  · have hD := zWd_D E b t h
    have h1 := hH.2.2.set hD hg hat oq
    rw [zWd_set (hH.lt hK hc) (by rw [hK]; exact hc) hg (by rw [ht]) htk he ho] at h1
    exact h1
section ZR
variable {E : zE} {b : Nat} {G : zG} {own : String} {cc : ByteArray} {nL : Nat} {rt : Option FieldType} {cells slots pc : Nat} {t : zT} {h : zH} {ls : List (Option Value)} {st : List Value}
theorem zz_getI (C : zCx E b G own cc nL rt) {idx c k i n : Nat} (F : zFd own idx c k 0) (hK : zK t i = (c, n)) (hd : decode cc pc = .ok (.getfield idx, 3)) (kk : zAW E b G nL cells slots (pc + 3) ls (.int (zI h i k) :: st) t h) : zAW E b G nL cells slots pc ls (.ref (b + i) :: st) t h := by
  obtain ⟨p, l, e, R, s, m, args, below, meth, cd, Q⟩ := G
  intro H locs la hH hS hl
  obtain ⟨hc, hk, hw, hf⟩ := F
  obtain ⟨q, hq⟩ := hH.at hK (by unfold zNc at hc; omega)
  rw [zEnt_obj hK hc] at hq
  have hv := zFs_at (b := b) (t := t) (h := h) (i := i) hk
  rw [zFv_0 hf] at hv
  exact va_get (C := zRn c) (T := zTb c) (N := zNf c) (ci := c) C.1 C.2.1 C.2.2.2.2.1 (zCl_ws c hc) C.2.2.2.1 C.2.2.2.2.2.2.2.1.K hH.2.2 q hq (zCl_at c hc) k hk (C.2.2.2.2.1 _ hw) (fun _ h9 => h9) hv hd (kk H locs la hH hS hl)
theorem zz_getL (C : zCx E b G own cc nL rt) {idx c k i n : Nat} (F : zFd own idx c k 1) (hK : zK t i = (c, n)) (hd : decode cc pc = .ok (.getfield idx, 3)) (kk : zAW E b G nL cells slots (pc + 3) ls (.long (zL h i k) :: st) t h) : zAW E b G nL cells slots pc ls (.ref (b + i) :: st) t h := by
  obtain ⟨p, l, e, R, s, m, args, below, meth, cd, Q⟩ := G
  intro H locs la hH hS hl
  obtain ⟨hc, hk, hw, hf⟩ := F
  obtain ⟨q, hq⟩ := hH.at hK (by unfold zNc at hc; omega)
  rw [zEnt_obj hK hc] at hq
  have hv := zFs_at (b := b) (t := t) (h := h) (i := i) hk
  rw [zFv_1 hf] at hv
  exact va_get (C := zRn c) (T := zTb c) (N := zNf c) (ci := c) C.1 C.2.1 C.2.2.2.2.1 (zCl_ws c hc) C.2.2.2.1 C.2.2.2.2.2.2.2.1.K hH.2.2 q hq (zCl_at c hc) k hk (C.2.2.2.2.1 _ hw) (fun _ h9 => h9) hv hd (kk H locs la hH hS hl)
theorem zz_getR (C : zCx E b G own cc nL rt) {idx c k i n j : Nat} (F : zFd own idx c k 2) (hK : zK t i = (c, n)) (hR : zR t i k = some j) (hd : decode cc pc = .ok (.getfield idx, 3)) (kk : zAW E b G nL cells slots (pc + 3) ls (.ref (b + j) :: st) t h) : zAW E b G nL cells slots pc ls (.ref (b + i) :: st) t h := by
  obtain ⟨p, l, e, R, s, m, args, below, meth, cd, Q⟩ := G
  intro H locs la hH hS hl
  obtain ⟨hc, hk, hw, hf⟩ := F
  obtain ⟨q, hq⟩ := hH.at hK (by unfold zNc at hc; omega)
  rw [zEnt_obj hK hc] at hq
  have hv := zFs_at (b := b) (t := t) (h := h) (i := i) hk
  rw [zFv_2 hf, hR] at hv
  exact va_get (C := zRn c) (T := zTb c) (N := zNf c) (ci := c) C.1 C.2.1 C.2.2.2.2.1 (zCl_ws c hc) C.2.2.2.1 C.2.2.2.2.2.2.2.1.K hH.2.2 q hq (zCl_at c hc) k hk (C.2.2.2.2.1 _ hw) (fun _ h9 => h9) hv hd (kk H locs la hH hS hl)
/-- the machine's part of a store into a field that isn't final -/
theorem zk_put {p : Program} {l : Launch} {e : Env} {R : Room} {s : State} {m : MethodId} {args : Array Value} {below : List Frame} {meth : Method} {cd : Code} {Q : State → Prop} (C : zCx E b (p, l, e, R, s, m, args, below, meth, cd, Q) own cc nL rt) {H : Heap} {locs : List Loc} {la : Array Slot} (hH : zHp E b t h H) (hS : va_S (fun q => b ≤ q) s.heap H locs) {idx c k i n f : Nat} {v : Value} (F : zFd own idx c k f) (hfin : (zTb c k).2.2.2 = false) (hK : zK t i = (c, n)) (hn : narrow (zTy c k) v = v) (hfit : fits (zTy c k) v = true) {t' : zT} {h' : zH} (ht : t'.1 = t.1) (htk : t'.2.1 = t.2.1) (hv : zFv b t' h' i k (zTy c k) = v) (hvo : ∀ j, j ≠ k → zFv b t' h' i j (zTy c j) = zFv b t h i j (zTy c j)) (ho : ∀ j, j ≠ i → zEnt E b t' h' j = zEnt E b t h j) (hd : decode cc pc = .ok (.putfield idx, 3)) (kk : ∀ (H1 : Heap) (locs1 : List Loc), zHp E b t' h' H1 → va_S (fun q => b ≤ q) s.heap H1 locs1 → W p l e R s m args below meth cd H1 locs1 cells slots Q (F0 m (pc + 3) la st)) : W p l e R s m args below meth cd H locs cells slots Q (F0 m pc la (v :: .ref (b + i) :: st)) := by
  obtain ⟨hc, hk, hw, hf⟩ := F
  have hc16 : c < 16 := by unfold zNc at hc; omega
  obtain ⟨q, hq⟩ := hH.at hK hc16
  have hq2 := hq
  rw [zEnt_obj hK hc] at hq2
  have hKs := C.2.2.2.2.2.2.2.1.K
  have hts := C.2.2.2.2.1
  have hcl := zCl_at c hc
  have hap := va_apart (own := own) hts (zCl_ws c hc) (zTy c) (zCl_ty c hc) (zCl_nm c hc) hKs hcl
  obtain ⟨r, h1, cell, q1, q2, q3, q4⟩ := hH.2.2 q _ hq2
  have hr : r = (zRn c, zTb c, zNf c) := Option.some.inj (h1.symm.trans hcl)
  subst hr
  obtain ⟨hSl, hfc, kC, hkC, hkind⟩ := hKs.1 c _ hcl
  obtain ⟨cf, kf, fi, fd, hi, hsl⟩ := hSl k hk
  have hlay := hts _ (zCl_ws c hc _ (u_in_lay hk))
  unfold u_lay at hlay
  rw [if_neg (by rw [hfin]; decide)] at hlay
  have hst := (u_facts hfc hkC (u_lays hts (zCl_ws c hc) hk) hi).1
  have h6 := u_store hfc hkC hkind hlay hi (zCl_ty c hc k hk) hn hfit
  refine W.putK C.1 C.2.1 (f := fd) ⟨C.2.2.2.1, hts _ hw, ⟨_, _, _, hi⟩, hst⟩ (by rw [q2]; exact h6) q1 q3 (by rw [hsl]; exact k2_hasslot (q4 k hk)) rfl rfl hd fun H1 e1 e2 e3 => ?_
  rw [hsl] at e1 ⊢
  have hK' : zK t' i = (c, n) := by unfold zK at hK ⊢; rw [htk]; exact hK
  refine kk H1 _ (hH.put hK hc16 hq ht htk (zEnt_obj hK' hc) ho ⟨_, hcl, t_OB.to (V := updV (vp_V (zFs b t h i c)) k v) ⟨_, e1, q2, q3, t_set q4 hap hk v⟩ (fun j hj => ?_)⟩ e2 e3) (hS.put e2 e3 (Nat.le_add_right b i))
  rw [← zFs_set hv hvo]
  exact vp_updV_set (by rw [zFs_len]; exact hk) v j
/-- the machine's part of a constructor's store into a final field of its own class -/
theorem zk_putF {p : Program} {l : Launch} {e : Env} {R : Room} {s : State} {m : MethodId} {args : Array Value} {below : List Frame} {meth : Method} {cd : Code} {Q : State → Prop} (C : zCx E b (p, l, e, R, s, m, args, below, meth, cd, Q) own cc nL rt) (hin2 : meth.name = "<init>") {H : Heap} {locs : List Loc} {la : Array Slot} (hH : zHp E b t h H) (hS : va_S (fun q => b ≤ q) s.heap H locs) {idx c k i n f : Nat} {v : Value} (F : zFd own idx c k f) (hfin : (zTb c k).2.2.2 = true) (hdecl : (zTb c k).1 = own) (hK : zK t i = (c, n)) (hn : narrow (zTy c k) v = v) (hfit : fits (zTy c k) v = true) {t' : zT} {h' : zH} (ht : t'.1 = t.1) (htk : t'.2.1 = t.2.1) (hv : zFv b t' h' i k (zTy c k) = v) (hvo : ∀ j, j ≠ k → zFv b t' h' i j (zTy c j) = zFv b t h i j (zTy c j)) (ho : ∀ j, j ≠ i → zEnt E b t' h' j = zEnt E b t h j) (hd : decode cc pc = .ok (.putfield idx, 3)) (kk : ∀ (H1 : Heap) (locs1 : List Loc), zHp E b t' h' H1 → va_S (fun q => b ≤ q) s.heap H1 locs1 → W p l e R s m args below meth cd H1 locs1 cells slots Q (F0 m (pc + 3) la st)) : W p l e R s m args below meth cd H locs cells slots Q (F0 m pc la (v :: .ref (b + i) :: st)) := by
  obtain ⟨hc, hk, hw, hf⟩ := F
  have hc16 : c < 16 := by unfold zNc at hc; omega
  obtain ⟨q, hq⟩ := hH.at hK hc16
  have hq2 := hq
  rw [zEnt_obj hK hc] at hq2
  have hKs := C.2.2.2.2.2.2.2.1.K
  have hts := C.2.2.2.2.1
  have hcl := zCl_at c hc
  have hap := va_apart (own := own) hts (zCl_ws c hc) (zTy c) (zCl_ty c hc) (zCl_nm c hc) hKs hcl
  obtain ⟨r, h1, cell, q1, q2, q3, q4⟩ := hH.2.2 q _ hq2
  have hr : r = (zRn c, zTb c, zNf c) := Option.some.inj (h1.symm.trans hcl)
  subst hr
  obtain ⟨hSl, hfc, kC, hkC, hkind⟩ := hKs.1 c _ hcl
  obtain ⟨cf, kf, fi, fd, hi, hsl⟩ := hSl k hk
  have hlay := hts _ (zCl_ws c hc _ (u_in_lay hk))
  unfold u_lay at hlay
  rw [if_pos hfin] at hlay
  have hst := (u_facts hfc hkC (u_lays hts (zCl_ws c hc) hk) hi).1
  have hcf : m.cls = cf := by
    obtain ⟨_, _, c', _, _, _, -, -, hf', -, -, -, hown2, -⟩ := Cond.laysFinal_spec hlay
    have e1 : c' = cf := by have := hi.symm.trans hf'; simp at this; exact this.1.symm
    rw [hdecl] at hown2
    rw [← e1]; exact Option.some.inj (C.2.2.2.1.symm.trans hown2)
  have h6 := u_fits hfc hkC hkind (Or.inr hlay) hi (zCl_ty c hc k hk) hn hfit
  refine W.putFinK C.1 C.2.1 C.2.2.2.1 (hts _ hw) hi hst hcf hin2 (by rw [q2]; exact h6) q1 q3 (by rw [hsl]; exact k2_hasslot (q4 k hk)) rfl rfl hd fun H1 e1 e2 e3 => ?_
  rw [hsl] at e1 ⊢
  have hK' : zK t' i = (c, n) := by unfold zK at hK ⊢; rw [htk]; exact hK
  refine kk H1 _ (hH.put hK hc16 hq ht htk (zEnt_obj hK' hc) ho ⟨_, hcl, t_OB.to (V := updV (vp_V (zFs b t h i c)) k v) ⟨_, e1, q2, q3, t_set q4 hap hk v⟩ (fun j hj => ?_)⟩ e2 e3) (hS.put e2 e3 (Nat.le_add_right b i))
  rw [← zFs_set hv hvo]
  exact vp_updV_set (by rw [zFs_len]; exact hk) v j
end ZR
end
