/-- a private method of a class that the tables say can be made, by its rows of tables_1 -/
def lw_okq (q : MethodName × Nat) : Prop := (q.1.cls ≠ "java/lang/invoke/MethodHandle" ∧ q.1.cls ≠ "java/lang/invoke/VarHandle") ∧ Cond.instantiable q.1.cls q.2 ∈ tables_1 ∧ Cond.privateMethod q.1 ∈ tables_1 ∧ Cond.instanceMethod q.1 ∈ tables_1
theorem lw_p0 : lw_okq (⟨"JobText$Words", "here", "()I"⟩, 13) := ⟨⟨by decide +kernel, by decide +kernel⟩, List.mem_of_getElem? (i := 416) (by decide +kernel), List.mem_of_getElem? (i := 694) (by decide +kernel), List.mem_of_getElem? (i := 695) (by decide +kernel)⟩
theorem lw_p1 : lw_okq (⟨"JobText$Words", "meetComment", "()V"⟩, 13) := ⟨⟨by decide +kernel, by decide +kernel⟩, List.mem_of_getElem? (i := 416) (by decide +kernel), List.mem_of_getElem? (i := 699) (by decide +kernel), List.mem_of_getElem? (i := 700) (by decide +kernel)⟩
theorem lw_p2 : lw_okq (⟨"JobText$Words", "lookAtName", "()V"⟩, 13) := ⟨⟨by decide +kernel, by decide +kernel⟩, List.mem_of_getElem? (i := 416) (by decide +kernel), List.mem_of_getElem? (i := 719) (by decide +kernel), List.mem_of_getElem? (i := 720) (by decide +kernel)⟩
theorem lw_p3 : lw_okq (⟨"JobText$Words", "lookAtNumber", "()V"⟩, 13) := ⟨⟨by decide +kernel, by decide +kernel⟩, List.mem_of_getElem? (i := 416) (by decide +kernel), List.mem_of_getElem? (i := 728) (by decide +kernel), List.mem_of_getElem? (i := 729) (by decide +kernel)⟩
theorem lw_p4 : lw_okq (⟨"JobText$Reader", "meetToken", "()V"⟩, 10) := ⟨⟨by decide +kernel, by decide +kernel⟩, List.mem_of_getElem? (i := 410) (by decide +kernel), List.mem_of_getElem? (i := 790) (by decide +kernel), List.mem_of_getElem? (i := 791) (by decide +kernel)⟩
theorem lw_p5 : lw_okq (⟨"JobText$Reader", "tellHere", "(I)V"⟩, 10) := ⟨⟨by decide +kernel, by decide +kernel⟩, List.mem_of_getElem? (i := 410) (by decide +kernel), List.mem_of_getElem? (i := 796) (by decide +kernel), List.mem_of_getElem? (i := 797) (by decide +kernel)⟩
theorem lw_p6 : lw_okq (⟨"JobText$Reader", "beginStatement", "()V"⟩, 10) := ⟨⟨by decide +kernel, by decide +kernel⟩, List.mem_of_getElem? (i := 410) (by decide +kernel), List.mem_of_getElem? (i := 801) (by decide +kernel), List.mem_of_getElem? (i := 802) (by decide +kernel)⟩
theorem lw_p7 : lw_okq (⟨"JobText$Reader", "goOnWithUse", "()V"⟩, 10) := ⟨⟨by decide +kernel, by decide +kernel⟩, List.mem_of_getElem? (i := 410) (by decide +kernel), List.mem_of_getElem? (i := 809) (by decide +kernel), List.mem_of_getElem? (i := 810) (by decide +kernel)⟩
theorem lw_p8 : lw_okq (⟨"JobText$Reader", "goOnWithLine", "()V"⟩, 10) := ⟨⟨by decide +kernel, by decide +kernel⟩, List.mem_of_getElem? (i := 410) (by decide +kernel), List.mem_of_getElem? (i := 819) (by decide +kernel), List.mem_of_getElem? (i := 820) (by decide +kernel)⟩
theorem lw_p9 : lw_okq (⟨"JobText$Reader", "beginSet", "()V"⟩, 10) := ⟨⟨by decide +kernel, by decide +kernel⟩, List.mem_of_getElem? (i := 410) (by decide +kernel), List.mem_of_getElem? (i := 823) (by decide +kernel), List.mem_of_getElem? (i := 824) (by decide +kernel)⟩
theorem lw_p10 : lw_okq (⟨"JobText$Reader", "beginLoop", "()V"⟩, 10) := ⟨⟨by decide +kernel, by decide +kernel⟩, List.mem_of_getElem? (i := 410) (by decide +kernel), List.mem_of_getElem? (i := 839) (by decide +kernel), List.mem_of_getElem? (i := 840) (by decide +kernel)⟩
theorem lw_p11 : lw_okq (⟨"JobText$Reader", "goOnWithOperator", "()V"⟩, 10) := ⟨⟨by decide +kernel, by decide +kernel⟩, List.mem_of_getElem? (i := 410) (by decide +kernel), List.mem_of_getElem? (i := 843) (by decide +kernel), List.mem_of_getElem? (i := 844) (by decide +kernel)⟩
theorem lw_p12 : lw_okq (⟨"JobText$Reader", "beginOperator", "()V"⟩, 10) := ⟨⟨by decide +kernel, by decide +kernel⟩, List.mem_of_getElem? (i := 410) (by decide +kernel), List.mem_of_getElem? (i := 847) (by decide +kernel), List.mem_of_getElem? (i := 848) (by decide +kernel)⟩
theorem lw_p13 : lw_okq (⟨"JobText$Reader", "tellKind", "(I)V"⟩, 10) := ⟨⟨by decide +kernel, by decide +kernel⟩, List.mem_of_getElem? (i := 410) (by decide +kernel), List.mem_of_getElem? (i := 859) (by decide +kernel), List.mem_of_getElem? (i := 860) (by decide +kernel)⟩
theorem lw_p14 : lw_okq (⟨"JobText$Reader", "addInput", "()V"⟩, 10) := ⟨⟨by decide +kernel, by decide +kernel⟩, List.mem_of_getElem? (i := 410) (by decide +kernel), List.mem_of_getElem? (i := 868) (by decide +kernel), List.mem_of_getElem? (i := 869) (by decide +kernel)⟩
theorem lw_p15 : lw_okq (⟨"JobText$Reader", "goOnWithProperty", "()V"⟩, 10) := ⟨⟨by decide +kernel, by decide +kernel⟩, List.mem_of_getElem? (i := 410) (by decide +kernel), List.mem_of_getElem? (i := 880) (by decide +kernel), List.mem_of_getElem? (i := 881) (by decide +kernel)⟩
def lw_privs_1 : List (MethodName × Nat) := [(⟨"JobText$Words", "here", "()I"⟩, 13), (⟨"JobText$Words", "meetComment", "()V"⟩, 13), (⟨"JobText$Words", "lookAtName", "()V"⟩, 13), (⟨"JobText$Words", "lookAtNumber", "()V"⟩, 13), (⟨"JobText$Reader", "meetToken", "()V"⟩, 10), (⟨"JobText$Reader", "tellHere", "(I)V"⟩, 10), (⟨"JobText$Reader", "beginStatement", "()V"⟩, 10), (⟨"JobText$Reader", "goOnWithUse", "()V"⟩, 10), (⟨"JobText$Reader", "goOnWithLine", "()V"⟩, 10), (⟨"JobText$Reader", "beginSet", "()V"⟩, 10), (⟨"JobText$Reader", "beginLoop", "()V"⟩, 10), (⟨"JobText$Reader", "goOnWithOperator", "()V"⟩, 10), (⟨"JobText$Reader", "beginOperator", "()V"⟩, 10), (⟨"JobText$Reader", "tellKind", "(I)V"⟩, 10), (⟨"JobText$Reader", "addInput", "()V"⟩, 10), (⟨"JobText$Reader", "goOnWithProperty", "()V"⟩, 10)]
theorem lw_r1 : ∀ q ∈ lw_privs_1, lw_okq q := List.forall_mem_cons.mpr ⟨lw_p0, List.forall_mem_cons.mpr ⟨lw_p1, List.forall_mem_cons.mpr ⟨lw_p2, List.forall_mem_cons.mpr ⟨lw_p3, List.forall_mem_cons.mpr ⟨lw_p4, List.forall_mem_cons.mpr ⟨lw_p5, List.forall_mem_cons.mpr ⟨lw_p6, List.forall_mem_cons.mpr ⟨lw_p7, List.forall_mem_cons.mpr ⟨lw_p8, List.forall_mem_cons.mpr ⟨lw_p9, List.forall_mem_cons.mpr ⟨lw_p10, List.forall_mem_cons.mpr ⟨lw_p11, List.forall_mem_cons.mpr ⟨lw_p12, List.forall_mem_cons.mpr ⟨lw_p13, List.forall_mem_cons.mpr ⟨lw_p14, List.forall_mem_cons.mpr ⟨lw_p15, fun _ h => absurd h List.not_mem_nil⟩⟩⟩⟩⟩⟩⟩⟩⟩⟩⟩⟩⟩⟩⟩⟩
theorem lw_p16 : lw_okq (⟨"JobText$Reader", "boundedNumber", "(II)I"⟩, 10) := ⟨⟨by decide +kernel, by decide +kernel⟩, List.mem_of_getElem? (i := 410) (by decide +kernel), List.mem_of_getElem? (i := 884) (by decide +kernel), List.mem_of_getElem? (i := 885) (by decide +kernel)⟩
theorem lw_p17 : lw_okq (⟨"JobText$Reader", "addSide", "()V"⟩, 10) := ⟨⟨by decide +kernel, by decide +kernel⟩, List.mem_of_getElem? (i := 410) (by decide +kernel), List.mem_of_getElem? (i := 889) (by decide +kernel), List.mem_of_getElem? (i := 890) (by decide +kernel)⟩
theorem lw_p18 : lw_okq (⟨"JobText$Reader", "goOnBehind", "()V"⟩, 10) := ⟨⟨by decide +kernel, by decide +kernel⟩, List.mem_of_getElem? (i := 410) (by decide +kernel), List.mem_of_getElem? (i := 897) (by decide +kernel), List.mem_of_getElem? (i := 898) (by decide +kernel)⟩
theorem lw_p19 : lw_okq (⟨"JobText$Judge", "judgeOperator", "(LJobText$Job;LJobText$Operator;)V"⟩, 2) := ⟨⟨by decide +kernel, by decide +kernel⟩, List.mem_of_getElem? (i := 567) (by decide +kernel), List.mem_of_getElem? (i := 908) (by decide +kernel), List.mem_of_getElem? (i := 909) (by decide +kernel)⟩
theorem lw_p20 : lw_okq (⟨"JobText$Judge", "judgeInput", "(LJobText$Job;LJobText$Operator;LJobText$Input;)V"⟩, 2) := ⟨⟨by decide +kernel, by decide +kernel⟩, List.mem_of_getElem? (i := 567) (by decide +kernel), List.mem_of_getElem? (i := 912) (by decide +kernel), List.mem_of_getElem? (i := 913) (by decide +kernel)⟩
theorem lw_p21 : lw_okq (⟨"JobText$Judge", "judgeLoop", "(LJobText$Job;LJobText$Pair;)V"⟩, 2) := ⟨⟨by decide +kernel, by decide +kernel⟩, List.mem_of_getElem? (i := 567) (by decide +kernel), List.mem_of_getElem? (i := 923) (by decide +kernel), List.mem_of_getElem? (i := 924) (by decide +kernel)⟩
theorem lw_p22 : lw_okq (⟨"JobText$Judge", "findOrigins", "(LJobText$Job;)V"⟩, 2) := ⟨⟨by decide +kernel, by decide +kernel⟩, List.mem_of_getElem? (i := 567) (by decide +kernel), List.mem_of_getElem? (i := 927) (by decide +kernel), List.mem_of_getElem? (i := 928) (by decide +kernel)⟩
theorem lw_p23 : lw_okq (⟨"JobText$Judge", "comesFrom", "(II)Z"⟩, 2) := ⟨⟨by decide +kernel, by decide +kernel⟩, List.mem_of_getElem? (i := 567) (by decide +kernel), List.mem_of_getElem? (i := 931) (by decide +kernel), List.mem_of_getElem? (i := 932) (by decide +kernel)⟩
theorem lw_p24 : lw_okq (⟨"JobText$Judge", "judgeCycles", "(LJobText$Job;)V"⟩, 2) := ⟨⟨by decide +kernel, by decide +kernel⟩, List.mem_of_getElem? (i := 567) (by decide +kernel), List.mem_of_getElem? (i := 935) (by decide +kernel), List.mem_of_getElem? (i := 936) (by decide +kernel)⟩
theorem lw_p25 : lw_okq (⟨"JobText$Judge", "judgeLoopBack", "(LJobText$Pair;)V"⟩, 2) := ⟨⟨by decide +kernel, by decide +kernel⟩, List.mem_of_getElem? (i := 567) (by decide +kernel), List.mem_of_getElem? (i := 939) (by decide +kernel), List.mem_of_getElem? (i := 940) (by decide +kernel)⟩
theorem lw_p26 : lw_okq (⟨"JobText$Layout", "firstReady", "(LJobText$Job;)I"⟩, 15) := ⟨⟨by decide +kernel, by decide +kernel⟩, List.mem_of_getElem? (i := 261) (by decide +kernel), List.mem_of_getElem? (i := 947) (by decide +kernel), List.mem_of_getElem? (i := 948) (by decide +kernel)⟩
theorem lw_p27 : lw_okq (⟨"JobText$Layout", "inputsStand", "(LJobText$Operator;)Z"⟩, 15) := ⟨⟨by decide +kernel, by decide +kernel⟩, List.mem_of_getElem? (i := 261) (by decide +kernel), List.mem_of_getElem? (i := 951) (by decide +kernel), List.mem_of_getElem? (i := 952) (by decide +kernel)⟩
theorem lw_p28 : lw_okq (⟨"JobText$Layout", "levelOf", "(LJobText$Operator;)I"⟩, 15) := ⟨⟨by decide +kernel, by decide +kernel⟩, List.mem_of_getElem? (i := 261) (by decide +kernel), List.mem_of_getElem? (i := 955) (by decide +kernel), List.mem_of_getElem? (i := 956) (by decide +kernel)⟩
theorem lw_p29 : lw_okq (⟨"JobText$Layout", "keyOf", "(LJobText$Operator;)J"⟩, 15) := ⟨⟨by decide +kernel, by decide +kernel⟩, List.mem_of_getElem? (i := 261) (by decide +kernel), List.mem_of_getElem? (i := 960) (by decide +kernel), List.mem_of_getElem? (i := 961) (by decide +kernel)⟩
theorem lw_p30 : lw_okq (⟨"JobText$Judge", "judgeKeys", "(LJobText$Job;)V"⟩, 2) := ⟨⟨by decide +kernel, by decide +kernel⟩, List.mem_of_getElem? (i := 567) (by decide +kernel), List.mem_of_getElem? (i := 968) (by decide +kernel), List.mem_of_getElem? (i := 969) (by decide +kernel)⟩
theorem lw_p31 : lw_okq (⟨"JobText", "newNames", "(LJobText$Job;)I"⟩, 12) := ⟨⟨by decide +kernel, by decide +kernel⟩, List.mem_of_getElem? (i := 21) (by decide +kernel), List.mem_of_getElem? (i := 977) (by decide +kernel), List.mem_of_getElem? (i := 978) (by decide +kernel)⟩
def lw_privs_2 : List (MethodName × Nat) := [(⟨"JobText$Reader", "boundedNumber", "(II)I"⟩, 10), (⟨"JobText$Reader", "addSide", "()V"⟩, 10), (⟨"JobText$Reader", "goOnBehind", "()V"⟩, 10), (⟨"JobText$Judge", "judgeOperator", "(LJobText$Job;LJobText$Operator;)V"⟩, 2), (⟨"JobText$Judge", "judgeInput", "(LJobText$Job;LJobText$Operator;LJobText$Input;)V"⟩, 2), (⟨"JobText$Judge", "judgeLoop", "(LJobText$Job;LJobText$Pair;)V"⟩, 2), (⟨"JobText$Judge", "findOrigins", "(LJobText$Job;)V"⟩, 2), (⟨"JobText$Judge", "comesFrom", "(II)Z"⟩, 2), (⟨"JobText$Judge", "judgeCycles", "(LJobText$Job;)V"⟩, 2), (⟨"JobText$Judge", "judgeLoopBack", "(LJobText$Pair;)V"⟩, 2), (⟨"JobText$Layout", "firstReady", "(LJobText$Job;)I"⟩, 15), (⟨"JobText$Layout", "inputsStand", "(LJobText$Operator;)Z"⟩, 15), (⟨"JobText$Layout", "levelOf", "(LJobText$Operator;)I"⟩, 15), (⟨"JobText$Layout", "keyOf", "(LJobText$Operator;)J"⟩, 15), (⟨"JobText$Judge", "judgeKeys", "(LJobText$Job;)V"⟩, 2), (⟨"JobText", "newNames", "(LJobText$Job;)I"⟩, 12)]
theorem lw_r2 : ∀ q ∈ lw_privs_2, lw_okq q := List.forall_mem_cons.mpr ⟨lw_p16, List.forall_mem_cons.mpr ⟨lw_p17, List.forall_mem_cons.mpr ⟨lw_p18, List.forall_mem_cons.mpr ⟨lw_p19, List.forall_mem_cons.mpr ⟨lw_p20, List.forall_mem_cons.mpr ⟨lw_p21, List.forall_mem_cons.mpr ⟨lw_p22, List.forall_mem_cons.mpr ⟨lw_p23, List.forall_mem_cons.mpr ⟨lw_p24, List.forall_mem_cons.mpr ⟨lw_p25, List.forall_mem_cons.mpr ⟨lw_p26, List.forall_mem_cons.mpr ⟨lw_p27, List.forall_mem_cons.mpr ⟨lw_p28, List.forall_mem_cons.mpr ⟨lw_p29, List.forall_mem_cons.mpr ⟨lw_p30, List.forall_mem_cons.mpr ⟨lw_p31, fun _ h => absurd h List.not_mem_nil⟩⟩⟩⟩⟩⟩⟩⟩⟩⟩⟩⟩⟩⟩⟩⟩
theorem lw_p32 : lw_okq (⟨"JobText", "numberOf", "(J)I"⟩, 12) := ⟨⟨by decide +kernel, by decide +kernel⟩, List.mem_of_getElem? (i := 21) (by decide +kernel), List.mem_of_getElem? (i := 981) (by decide +kernel), List.mem_of_getElem? (i := 982) (by decide +kernel)⟩
theorem lw_p33 : lw_okq (⟨"JobText", "giveNumbers", "(LJobText$Job;)V"⟩, 12) := ⟨⟨by decide +kernel, by decide +kernel⟩, List.mem_of_getElem? (i := 21) (by decide +kernel), List.mem_of_getElem? (i := 985) (by decide +kernel), List.mem_of_getElem? (i := 986) (by decide +kernel)⟩
theorem lw_p34 : lw_okq (⟨"JobText$Layout", "reckonFlow", "(LJobText$Operator;I)V"⟩, 15) := ⟨⟨by decide +kernel, by decide +kernel⟩, List.mem_of_getElem? (i := 261) (by decide +kernel), List.mem_of_getElem? (i := 993) (by decide +kernel), List.mem_of_getElem? (i := 994) (by decide +kernel)⟩
theorem lw_p35 : lw_okq (⟨"JobText$Layout", "findWhatComes", "(LJobText$Operator;)V"⟩, 15) := ⟨⟨by decide +kernel, by decide +kernel⟩, List.mem_of_getElem? (i := 261) (by decide +kernel), List.mem_of_getElem? (i := 997) (by decide +kernel), List.mem_of_getElem? (i := 998) (by decide +kernel)⟩
theorem lw_p36 : lw_okq (⟨"JobText$Layout", "flowOf", "(LJobText$Input;)LJobText$Flow;"⟩, 15) := ⟨⟨by decide +kernel, by decide +kernel⟩, List.mem_of_getElem? (i := 261) (by decide +kernel), List.mem_of_getElem? (i := 1009) (by decide +kernel), List.mem_of_getElem? (i := 1010) (by decide +kernel)⟩
theorem lw_p37 : lw_okq (⟨"JobText$Layout", "countReaders", "(LJobText$Job;)V"⟩, 15) := ⟨⟨by decide +kernel, by decide +kernel⟩, List.mem_of_getElem? (i := 261) (by decide +kernel), List.mem_of_getElem? (i := 1031) (by decide +kernel), List.mem_of_getElem? (i := 1032) (by decide +kernel)⟩
theorem lw_p38 : lw_okq (⟨"JobText$Layout", "findChains", "(LJobText$Job;)V"⟩, 15) := ⟨⟨by decide +kernel, by decide +kernel⟩, List.mem_of_getElem? (i := 261) (by decide +kernel), List.mem_of_getElem? (i := 1035) (by decide +kernel), List.mem_of_getElem? (i := 1036) (by decide +kernel)⟩
theorem lw_p39 : lw_okq (⟨"JobText$Layout", "isFused", "(LJobText$Job;LJobText$Operator;)Z"⟩, 15) := ⟨⟨by decide +kernel, by decide +kernel⟩, List.mem_of_getElem? (i := 261) (by decide +kernel), List.mem_of_getElem? (i := 1039) (by decide +kernel), List.mem_of_getElem? (i := 1040) (by decide +kernel)⟩
theorem lw_p40 : lw_okq (⟨"JobText$Layout", "countChannels", "(LJobText$Job;)V"⟩, 15) := ⟨⟨by decide +kernel, by decide +kernel⟩, List.mem_of_getElem? (i := 261) (by decide +kernel), List.mem_of_getElem? (i := 1047) (by decide +kernel), List.mem_of_getElem? (i := 1048) (by decide +kernel)⟩
theorem lw_p41 : lw_okq (⟨"JobText$Layout", "channelsBetween", "(LJobText$Job;II)I"⟩, 15) := ⟨⟨by decide +kernel, by decide +kernel⟩, List.mem_of_getElem? (i := 261) (by decide +kernel), List.mem_of_getElem? (i := 1051) (by decide +kernel), List.mem_of_getElem? (i := 1052) (by decide +kernel)⟩
theorem lw_p42 : lw_okq (⟨"JobText", "putJob", "(I)V"⟩, 12) := ⟨⟨by decide +kernel, by decide +kernel⟩, List.mem_of_getElem? (i := 21) (by decide +kernel), List.mem_of_getElem? (i := 1055) (by decide +kernel), List.mem_of_getElem? (i := 1056) (by decide +kernel)⟩
theorem lw_p43 : lw_okq (⟨"JobText", "refusal", "(III)I"⟩, 12) := ⟨⟨by decide +kernel, by decide +kernel⟩, List.mem_of_getElem? (i := 21) (by decide +kernel), List.mem_of_getElem? (i := 1071) (by decide +kernel), List.mem_of_getElem? (i := 1072) (by decide +kernel)⟩
theorem lw_p44 : lw_okq (⟨"JobText", "operatorRefusal", "(IIII)I"⟩, 12) := ⟨⟨by decide +kernel, by decide +kernel⟩, List.mem_of_getElem? (i := 21) (by decide +kernel), List.mem_of_getElem? (i := 1083) (by decide +kernel), List.mem_of_getElem? (i := 1084) (by decide +kernel)⟩
theorem lw_p45 : lw_okq (⟨"JobText$Job", "printComment", "(LJobText$Bytes;I)V"⟩, 14) := ⟨⟨by decide +kernel, by decide +kernel⟩, List.mem_of_getElem? (i := 78) (by decide +kernel), List.mem_of_getElem? (i := 1136) (by decide +kernel), List.mem_of_getElem? (i := 1137) (by decide +kernel)⟩
theorem lw_p46 : lw_okq (⟨"JobText$Job", "printStatement", "(LJobText$Bytes;I)V"⟩, 14) := ⟨⟨by decide +kernel, by decide +kernel⟩, List.mem_of_getElem? (i := 78) (by decide +kernel), List.mem_of_getElem? (i := 1145) (by decide +kernel), List.mem_of_getElem? (i := 1146) (by decide +kernel)⟩
theorem lw_p47 : lw_okq (⟨"JobText$Operator", "kindWord", "()Ljava/lang/String;"⟩, 16) := ⟨⟨by decide +kernel, by decide +kernel⟩, List.mem_of_getElem? (i := 85) (by decide +kernel), List.mem_of_getElem? (i := 1168) (by decide +kernel), List.mem_of_getElem? (i := 1169) (by decide +kernel)⟩
def lw_privs_3 : List (MethodName × Nat) := [(⟨"JobText", "numberOf", "(J)I"⟩, 12), (⟨"JobText", "giveNumbers", "(LJobText$Job;)V"⟩, 12), (⟨"JobText$Layout", "reckonFlow", "(LJobText$Operator;I)V"⟩, 15), (⟨"JobText$Layout", "findWhatComes", "(LJobText$Operator;)V"⟩, 15), (⟨"JobText$Layout", "flowOf", "(LJobText$Input;)LJobText$Flow;"⟩, 15), (⟨"JobText$Layout", "countReaders", "(LJobText$Job;)V"⟩, 15), (⟨"JobText$Layout", "findChains", "(LJobText$Job;)V"⟩, 15), (⟨"JobText$Layout", "isFused", "(LJobText$Job;LJobText$Operator;)Z"⟩, 15), (⟨"JobText$Layout", "countChannels", "(LJobText$Job;)V"⟩, 15), (⟨"JobText$Layout", "channelsBetween", "(LJobText$Job;II)I"⟩, 15), (⟨"JobText", "putJob", "(I)V"⟩, 12), (⟨"JobText", "refusal", "(III)I"⟩, 12), (⟨"JobText", "operatorRefusal", "(IIII)I"⟩, 12), (⟨"JobText$Job", "printComment", "(LJobText$Bytes;I)V"⟩, 14), (⟨"JobText$Job", "printStatement", "(LJobText$Bytes;I)V"⟩, 14), (⟨"JobText$Operator", "kindWord", "()Ljava/lang/String;"⟩, 16)]
theorem lw_r3 : ∀ q ∈ lw_privs_3, lw_okq q := List.forall_mem_cons.mpr ⟨lw_p32, List.forall_mem_cons.mpr ⟨lw_p33, List.forall_mem_cons.mpr ⟨lw_p34, List.forall_mem_cons.mpr ⟨lw_p35, List.forall_mem_cons.mpr ⟨lw_p36, List.forall_mem_cons.mpr ⟨lw_p37, List.forall_mem_cons.mpr ⟨lw_p38, List.forall_mem_cons.mpr ⟨lw_p39, List.forall_mem_cons.mpr ⟨lw_p40, List.forall_mem_cons.mpr ⟨lw_p41, List.forall_mem_cons.mpr ⟨lw_p42, List.forall_mem_cons.mpr ⟨lw_p43, List.forall_mem_cons.mpr ⟨lw_p44, List.forall_mem_cons.mpr ⟨lw_p45, List.forall_mem_cons.mpr ⟨lw_p46, List.forall_mem_cons.mpr ⟨lw_p47, fun _ h => absurd h List.not_mem_nil⟩⟩⟩⟩⟩⟩⟩⟩⟩⟩⟩⟩⟩⟩⟩⟩
theorem lw_p48 : lw_okq (⟨"JobText$Operator", "printInputs", "(LJobText$Bytes;)V"⟩, 16) := ⟨⟨by decide +kernel, by decide +kernel⟩, List.mem_of_getElem? (i := 85) (by decide +kernel), List.mem_of_getElem? (i := 1181) (by decide +kernel), List.mem_of_getElem? (i := 1182) (by decide +kernel)⟩
theorem lw_p49 : lw_okq (⟨"JobText$Operator", "printSides", "(LJobText$Bytes;)V"⟩, 16) := ⟨⟨by decide +kernel, by decide +kernel⟩, List.mem_of_getElem? (i := 85) (by decide +kernel), List.mem_of_getElem? (i := 1199) (by decide +kernel), List.mem_of_getElem? (i := 1200) (by decide +kernel)⟩
theorem lw_p50 : lw_okq (⟨"JobText", "compareFirst", "()V"⟩, 12) := ⟨⟨by decide +kernel, by decide +kernel⟩, List.mem_of_getElem? (i := 21) (by decide +kernel), List.mem_of_getElem? (i := 1234) (by decide +kernel), List.mem_of_getElem? (i := 1235) (by decide +kernel)⟩
theorem lw_p51 : lw_okq (⟨"JobText", "addDifference", "(III)V"⟩, 12) := ⟨⟨by decide +kernel, by decide +kernel⟩, List.mem_of_getElem? (i := 21) (by decide +kernel), List.mem_of_getElem? (i := 1239) (by decide +kernel), List.mem_of_getElem? (i := 1240) (by decide +kernel)⟩
theorem lw_p52 : lw_okq (⟨"JobText$Operator", "hasInputsOf", "(LJobText$Operator;)Z"⟩, 16) := ⟨⟨by decide +kernel, by decide +kernel⟩, List.mem_of_getElem? (i := 85) (by decide +kernel), List.mem_of_getElem? (i := 1247) (by decide +kernel), List.mem_of_getElem? (i := 1248) (by decide +kernel)⟩
theorem lw_p53 : lw_okq (⟨"JobText$Operator", "hasSidesOf", "(LJobText$Operator;)Z"⟩, 16) := ⟨⟨by decide +kernel, by decide +kernel⟩, List.mem_of_getElem? (i := 85) (by decide +kernel), List.mem_of_getElem? (i := 1255) (by decide +kernel), List.mem_of_getElem? (i := 1256) (by decide +kernel)⟩
theorem lw_p54 : lw_okq (⟨"JobText", "findNew", "()V"⟩, 12) := ⟨⟨by decide +kernel, by decide +kernel⟩, List.mem_of_getElem? (i := 21) (by decide +kernel), List.mem_of_getElem? (i := 1259) (by decide +kernel), List.mem_of_getElem? (i := 1260) (by decide +kernel)⟩
theorem lw_p55 : lw_okq (⟨"JobTextModel", "readText", "(I)Z"⟩, 82) := ⟨⟨by decide +kernel, by decide +kernel⟩, List.mem_of_getElem? (i := 1275) (by decide +kernel), List.mem_of_getElem? (i := 1552) (by decide +kernel), List.mem_of_getElem? (i := 1553) (by decide +kernel)⟩
theorem lw_p56 : lw_okq (⟨"JobTextModel", "empty", "()V"⟩, 82) := ⟨⟨by decide +kernel, by decide +kernel⟩, List.mem_of_getElem? (i := 1275) (by decide +kernel), List.mem_of_getElem? (i := 1556) (by decide +kernel), List.mem_of_getElem? (i := 1557) (by decide +kernel)⟩
theorem lw_p57 : lw_okq (⟨"JobTextModel", "want", "(I)Z"⟩, 82) := ⟨⟨by decide +kernel, by decide +kernel⟩, List.mem_of_getElem? (i := 1275) (by decide +kernel), List.mem_of_getElem? (i := 1560) (by decide +kernel), List.mem_of_getElem? (i := 1561) (by decide +kernel)⟩
theorem lw_p58 : lw_okq (⟨"JobTextModel", "look", "()Z"⟩, 82) := ⟨⟨by decide +kernel, by decide +kernel⟩, List.mem_of_getElem? (i := 1275) (by decide +kernel), List.mem_of_getElem? (i := 1564) (by decide +kernel), List.mem_of_getElem? (i := 1565) (by decide +kernel)⟩
theorem lw_p59 : lw_okq (⟨"JobTextModel", "pass", "()Z"⟩, 82) := ⟨⟨by decide +kernel, by decide +kernel⟩, List.mem_of_getElem? (i := 1275) (by decide +kernel), List.mem_of_getElem? (i := 1568) (by decide +kernel), List.mem_of_getElem? (i := 1569) (by decide +kernel)⟩
theorem lw_p60 : lw_okq (⟨"JobTextModel", "byteAt", "(I)I"⟩, 82) := ⟨⟨by decide +kernel, by decide +kernel⟩, List.mem_of_getElem? (i := 1275) (by decide +kernel), List.mem_of_getElem? (i := 1572) (by decide +kernel), List.mem_of_getElem? (i := 1573) (by decide +kernel)⟩
theorem lw_p61 : lw_okq (⟨"JobTextModel", "keepComment", "(II)Z"⟩, 82) := ⟨⟨by decide +kernel, by decide +kernel⟩, List.mem_of_getElem? (i := 1275) (by decide +kernel), List.mem_of_getElem? (i := 1576) (by decide +kernel), List.mem_of_getElem? (i := 1577) (by decide +kernel)⟩
theorem lw_p62 : lw_okq (⟨"JobTextModel", "wrong", "(III)Z"⟩, 82) := ⟨⟨by decide +kernel, by decide +kernel⟩, List.mem_of_getElem? (i := 1275) (by decide +kernel), List.mem_of_getElem? (i := 1580) (by decide +kernel), List.mem_of_getElem? (i := 1581) (by decide +kernel)⟩
theorem lw_p63 : lw_okq (⟨"JobTextModel", "readUse", "()Z"⟩, 82) := ⟨⟨by decide +kernel, by decide +kernel⟩, List.mem_of_getElem? (i := 1275) (by decide +kernel), List.mem_of_getElem? (i := 1600) (by decide +kernel), List.mem_of_getElem? (i := 1601) (by decide +kernel)⟩
def lw_privs_4 : List (MethodName × Nat) := [(⟨"JobText$Operator", "printInputs", "(LJobText$Bytes;)V"⟩, 16), (⟨"JobText$Operator", "printSides", "(LJobText$Bytes;)V"⟩, 16), (⟨"JobText", "compareFirst", "()V"⟩, 12), (⟨"JobText", "addDifference", "(III)V"⟩, 12), (⟨"JobText$Operator", "hasInputsOf", "(LJobText$Operator;)Z"⟩, 16), (⟨"JobText$Operator", "hasSidesOf", "(LJobText$Operator;)Z"⟩, 16), (⟨"JobText", "findNew", "()V"⟩, 12), (⟨"JobTextModel", "readText", "(I)Z"⟩, 82), (⟨"JobTextModel", "empty", "()V"⟩, 82), (⟨"JobTextModel", "want", "(I)Z"⟩, 82), (⟨"JobTextModel", "look", "()Z"⟩, 82), (⟨"JobTextModel", "pass", "()Z"⟩, 82), (⟨"JobTextModel", "byteAt", "(I)I"⟩, 82), (⟨"JobTextModel", "keepComment", "(II)Z"⟩, 82), (⟨"JobTextModel", "wrong", "(III)Z"⟩, 82), (⟨"JobTextModel", "readUse", "()Z"⟩, 82)]
theorem lw_r4 : ∀ q ∈ lw_privs_4, lw_okq q := List.forall_mem_cons.mpr ⟨lw_p48, List.forall_mem_cons.mpr ⟨lw_p49, List.forall_mem_cons.mpr ⟨lw_p50, List.forall_mem_cons.mpr ⟨lw_p51, List.forall_mem_cons.mpr ⟨lw_p52, List.forall_mem_cons.mpr ⟨lw_p53, List.forall_mem_cons.mpr ⟨lw_p54, List.forall_mem_cons.mpr ⟨lw_p55, List.forall_mem_cons.mpr ⟨lw_p56, List.forall_mem_cons.mpr ⟨lw_p57, List.forall_mem_cons.mpr ⟨lw_p58, List.forall_mem_cons.mpr ⟨lw_p59, List.forall_mem_cons.mpr ⟨lw_p60, List.forall_mem_cons.mpr ⟨lw_p61, List.forall_mem_cons.mpr ⟨lw_p62, List.forall_mem_cons.mpr ⟨lw_p63, fun _ h => absurd h List.not_mem_nil⟩⟩⟩⟩⟩⟩⟩⟩⟩⟩⟩⟩⟩⟩⟩⟩
theorem lw_p64 : lw_okq (⟨"JobTextModel", "bounded", "(II)Z"⟩, 82) := ⟨⟨by decide +kernel, by decide +kernel⟩, List.mem_of_getElem? (i := 1275) (by decide +kernel), List.mem_of_getElem? (i := 1604) (by decide +kernel), List.mem_of_getElem? (i := 1605) (by decide +kernel)⟩
theorem lw_p65 : lw_okq (⟨"JobTextModel", "readSet", "()Z"⟩, 82) := ⟨⟨by decide +kernel, by decide +kernel⟩, List.mem_of_getElem? (i := 1275) (by decide +kernel), List.mem_of_getElem? (i := 1608) (by decide +kernel), List.mem_of_getElem? (i := 1609) (by decide +kernel)⟩
theorem lw_p66 : lw_okq (⟨"JobTextModel", "begin", "(II)V"⟩, 82) := ⟨⟨by decide +kernel, by decide +kernel⟩, List.mem_of_getElem? (i := 1275) (by decide +kernel), List.mem_of_getElem? (i := 1612) (by decide +kernel), List.mem_of_getElem? (i := 1613) (by decide +kernel)⟩
theorem lw_p67 : lw_okq (⟨"JobTextModel", "readLoop", "()Z"⟩, 82) := ⟨⟨by decide +kernel, by decide +kernel⟩, List.mem_of_getElem? (i := 1275) (by decide +kernel), List.mem_of_getElem? (i := 1616) (by decide +kernel), List.mem_of_getElem? (i := 1617) (by decide +kernel)⟩
theorem lw_p68 : lw_okq (⟨"JobTextModel", "readSource", "()Z"⟩, 82) := ⟨⟨by decide +kernel, by decide +kernel⟩, List.mem_of_getElem? (i := 1275) (by decide +kernel), List.mem_of_getElem? (i := 1621) (by decide +kernel), List.mem_of_getElem? (i := 1622) (by decide +kernel)⟩
theorem lw_p69 : lw_okq (⟨"JobTextModel", "readName", "()Z"⟩, 82) := ⟨⟨by decide +kernel, by decide +kernel⟩, List.mem_of_getElem? (i := 1275) (by decide +kernel), List.mem_of_getElem? (i := 1625) (by decide +kernel), List.mem_of_getElem? (i := 1626) (by decide +kernel)⟩
theorem lw_p70 : lw_okq (⟨"JobTextModel", "operatorOf", "(IJ)I"⟩, 82) := ⟨⟨by decide +kernel, by decide +kernel⟩, List.mem_of_getElem? (i := 1275) (by decide +kernel), List.mem_of_getElem? (i := 1629) (by decide +kernel), List.mem_of_getElem? (i := 1630) (by decide +kernel)⟩
theorem lw_p71 : lw_okq (⟨"JobTextModel", "readRest", "(IZ)Z"⟩, 82) := ⟨⟨by decide +kernel, by decide +kernel⟩, List.mem_of_getElem? (i := 1275) (by decide +kernel), List.mem_of_getElem? (i := 1633) (by decide +kernel), List.mem_of_getElem? (i := 1634) (by decide +kernel)⟩
theorem lw_p72 : lw_okq (⟨"JobTextModel", "readInputSide", "(I)Z"⟩, 82) := ⟨⟨by decide +kernel, by decide +kernel⟩, List.mem_of_getElem? (i := 1275) (by decide +kernel), List.mem_of_getElem? (i := 1646) (by decide +kernel), List.mem_of_getElem? (i := 1647) (by decide +kernel)⟩
theorem lw_p73 : lw_okq (⟨"JobTextModel", "readInput", "(I)Z"⟩, 82) := ⟨⟨by decide +kernel, by decide +kernel⟩, List.mem_of_getElem? (i := 1275) (by decide +kernel), List.mem_of_getElem? (i := 1650) (by decide +kernel), List.mem_of_getElem? (i := 1651) (by decide +kernel)⟩
theorem lw_p74 : lw_okq (⟨"JobTextModel", "readSide", "(I)Z"⟩, 82) := ⟨⟨by decide +kernel, by decide +kernel⟩, List.mem_of_getElem? (i := 1275) (by decide +kernel), List.mem_of_getElem? (i := 1654) (by decide +kernel), List.mem_of_getElem? (i := 1655) (by decide +kernel)⟩
theorem lw_p75 : lw_okq (⟨"JobTextModel", "readProperty", "(II)Z"⟩, 82) := ⟨⟨by decide +kernel, by decide +kernel⟩, List.mem_of_getElem? (i := 1275) (by decide +kernel), List.mem_of_getElem? (i := 1658) (by decide +kernel), List.mem_of_getElem? (i := 1659) (by decide +kernel)⟩
theorem lw_p76 : lw_okq (⟨"JobTextModel", "readNumber", "(II)Z"⟩, 82) := ⟨⟨by decide +kernel, by decide +kernel⟩, List.mem_of_getElem? (i := 1275) (by decide +kernel), List.mem_of_getElem? (i := 1662) (by decide +kernel), List.mem_of_getElem? (i := 1663) (by decide +kernel)⟩
theorem lw_p77 : lw_okq (⟨"JobTextModel", "readOperator", "()Z"⟩, 82) := ⟨⟨by decide +kernel, by decide +kernel⟩, List.mem_of_getElem? (i := 1275) (by decide +kernel), List.mem_of_getElem? (i := 1667) (by decide +kernel), List.mem_of_getElem? (i := 1668) (by decide +kernel)⟩
theorem lw_p78 : lw_okq (⟨"JobTextModel", "judge", "()Z"⟩, 82) := ⟨⟨by decide +kernel, by decide +kernel⟩, List.mem_of_getElem? (i := 1275) (by decide +kernel), List.mem_of_getElem? (i := 1672) (by decide +kernel), List.mem_of_getElem? (i := 1673) (by decide +kernel)⟩
theorem lw_p79 : lw_okq (⟨"JobTextModel", "judgeOperators", "()Z"⟩, 82) := ⟨⟨by decide +kernel, by decide +kernel⟩, List.mem_of_getElem? (i := 1275) (by decide +kernel), List.mem_of_getElem? (i := 1676) (by decide +kernel), List.mem_of_getElem? (i := 1677) (by decide +kernel)⟩
def lw_privs_5 : List (MethodName × Nat) := [(⟨"JobTextModel", "bounded", "(II)Z"⟩, 82), (⟨"JobTextModel", "readSet", "()Z"⟩, 82), (⟨"JobTextModel", "begin", "(II)V"⟩, 82), (⟨"JobTextModel", "readLoop", "()Z"⟩, 82), (⟨"JobTextModel", "readSource", "()Z"⟩, 82), (⟨"JobTextModel", "readName", "()Z"⟩, 82), (⟨"JobTextModel", "operatorOf", "(IJ)I"⟩, 82), (⟨"JobTextModel", "readRest", "(IZ)Z"⟩, 82), (⟨"JobTextModel", "readInputSide", "(I)Z"⟩, 82), (⟨"JobTextModel", "readInput", "(I)Z"⟩, 82), (⟨"JobTextModel", "readSide", "(I)Z"⟩, 82), (⟨"JobTextModel", "readProperty", "(II)Z"⟩, 82), (⟨"JobTextModel", "readNumber", "(II)Z"⟩, 82), (⟨"JobTextModel", "readOperator", "()Z"⟩, 82), (⟨"JobTextModel", "judge", "()Z"⟩, 82), (⟨"JobTextModel", "judgeOperators", "()Z"⟩, 82)]
theorem lw_r5 : ∀ q ∈ lw_privs_5, lw_okq q := List.forall_mem_cons.mpr ⟨lw_p64, List.forall_mem_cons.mpr ⟨lw_p65, List.forall_mem_cons.mpr ⟨lw_p66, List.forall_mem_cons.mpr ⟨lw_p67, List.forall_mem_cons.mpr ⟨lw_p68, List.forall_mem_cons.mpr ⟨lw_p69, List.forall_mem_cons.mpr ⟨lw_p70, List.forall_mem_cons.mpr ⟨lw_p71, List.forall_mem_cons.mpr ⟨lw_p72, List.forall_mem_cons.mpr ⟨lw_p73, List.forall_mem_cons.mpr ⟨lw_p74, List.forall_mem_cons.mpr ⟨lw_p75, List.forall_mem_cons.mpr ⟨lw_p76, List.forall_mem_cons.mpr ⟨lw_p77, List.forall_mem_cons.mpr ⟨lw_p78, List.forall_mem_cons.mpr ⟨lw_p79, fun _ h => absurd h List.not_mem_nil⟩⟩⟩⟩⟩⟩⟩⟩⟩⟩⟩⟩⟩⟩⟩⟩
theorem lw_p80 : lw_okq (⟨"JobTextModel", "judgeInput", "(I)Z"⟩, 82) := ⟨⟨by decide +kernel, by decide +kernel⟩, List.mem_of_getElem? (i := 1275) (by decide +kernel), List.mem_of_getElem? (i := 1680) (by decide +kernel), List.mem_of_getElem? (i := 1681) (by decide +kernel)⟩
theorem lw_p81 : lw_okq (⟨"JobTextModel", "sideOf", "(IJ)I"⟩, 82) := ⟨⟨by decide +kernel, by decide +kernel⟩, List.mem_of_getElem? (i := 1275) (by decide +kernel), List.mem_of_getElem? (i := 1684) (by decide +kernel), List.mem_of_getElem? (i := 1685) (by decide +kernel)⟩
theorem lw_p82 : lw_okq (⟨"JobTextModel", "judgeLoops", "()Z"⟩, 82) := ⟨⟨by decide +kernel, by decide +kernel⟩, List.mem_of_getElem? (i := 1275) (by decide +kernel), List.mem_of_getElem? (i := 1688) (by decide +kernel), List.mem_of_getElem? (i := 1689) (by decide +kernel)⟩
theorem lw_p83 : lw_okq (⟨"JobTextModel", "judgeRings", "()Z"⟩, 82) := ⟨⟨by decide +kernel, by decide +kernel⟩, List.mem_of_getElem? (i := 1275) (by decide +kernel), List.mem_of_getElem? (i := 1692) (by decide +kernel), List.mem_of_getElem? (i := 1693) (by decide +kernel)⟩
theorem lw_p84 : lw_okq (⟨"JobTextModel", "findComes", "()V"⟩, 82) := ⟨⟨by decide +kernel, by decide +kernel⟩, List.mem_of_getElem? (i := 1275) (by decide +kernel), List.mem_of_getElem? (i := 1696) (by decide +kernel), List.mem_of_getElem? (i := 1697) (by decide +kernel)⟩
theorem lw_p85 : lw_okq (⟨"JobTextModel", "layOut", "()V"⟩, 82) := ⟨⟨by decide +kernel, by decide +kernel⟩, List.mem_of_getElem? (i := 1275) (by decide +kernel), List.mem_of_getElem? (i := 1700) (by decide +kernel), List.mem_of_getElem? (i := 1701) (by decide +kernel)⟩
theorem lw_p86 : lw_okq (⟨"JobTextModel", "isReady", "(I)Z"⟩, 82) := ⟨⟨by decide +kernel, by decide +kernel⟩, List.mem_of_getElem? (i := 1275) (by decide +kernel), List.mem_of_getElem? (i := 1704) (by decide +kernel), List.mem_of_getElem? (i := 1705) (by decide +kernel)⟩
theorem lw_p87 : lw_okq (⟨"JobTextModel", "judgeKeys", "()Z"⟩, 82) := ⟨⟨by decide +kernel, by decide +kernel⟩, List.mem_of_getElem? (i := 1275) (by decide +kernel), List.mem_of_getElem? (i := 1708) (by decide +kernel), List.mem_of_getElem? (i := 1709) (by decide +kernel)⟩
theorem lw_p88 : lw_okq (⟨"JobTextModel", "keyedAt", "(II)J"⟩, 82) := ⟨⟨by decide +kernel, by decide +kernel⟩, List.mem_of_getElem? (i := 1275) (by decide +kernel), List.mem_of_getElem? (i := 1712) (by decide +kernel), List.mem_of_getElem? (i := 1713) (by decide +kernel)⟩
theorem lw_p89 : lw_okq (⟨"JobTextModel", "findKey", "(I)V"⟩, 82) := ⟨⟨by decide +kernel, by decide +kernel⟩, List.mem_of_getElem? (i := 1275) (by decide +kernel), List.mem_of_getElem? (i := 1716) (by decide +kernel), List.mem_of_getElem? (i := 1717) (by decide +kernel)⟩
theorem lw_p90 : lw_okq (⟨"JobTextModel", "findFlow", "(I)V"⟩, 82) := ⟨⟨by decide +kernel, by decide +kernel⟩, List.mem_of_getElem? (i := 1275) (by decide +kernel), List.mem_of_getElem? (i := 1720) (by decide +kernel), List.mem_of_getElem? (i := 1721) (by decide +kernel)⟩
theorem lw_p91 : lw_okq (⟨"JobTextModel", "comesTo", "(I)V"⟩, 82) := ⟨⟨by decide +kernel, by decide +kernel⟩, List.mem_of_getElem? (i := 1275) (by decide +kernel), List.mem_of_getElem? (i := 1724) (by decide +kernel), List.mem_of_getElem? (i := 1725) (by decide +kernel)⟩
theorem lw_p92 : lw_okq (⟨"JobTextModel", "big", "()V"⟩, 82) := ⟨⟨by decide +kernel, by decide +kernel⟩, List.mem_of_getElem? (i := 1275) (by decide +kernel), List.mem_of_getElem? (i := 1728) (by decide +kernel), List.mem_of_getElem? (i := 1729) (by decide +kernel)⟩
theorem lw_p93 : lw_okq (⟨"JobTextModel", "fraction", "(JJ)V"⟩, 82) := ⟨⟨by decide +kernel, by decide +kernel⟩, List.mem_of_getElem? (i := 1275) (by decide +kernel), List.mem_of_getElem? (i := 1733) (by decide +kernel), List.mem_of_getElem? (i := 1734) (by decide +kernel)⟩
theorem lw_p94 : lw_okq (⟨"JobTextModel", "findChains", "()V"⟩, 82) := ⟨⟨by decide +kernel, by decide +kernel⟩, List.mem_of_getElem? (i := 1275) (by decide +kernel), List.mem_of_getElem? (i := 1738) (by decide +kernel), List.mem_of_getElem? (i := 1739) (by decide +kernel)⟩
theorem lw_p95 : lw_okq (⟨"JobTextModel", "findFused", "(I)V"⟩, 82) := ⟨⟨by decide +kernel, by decide +kernel⟩, List.mem_of_getElem? (i := 1275) (by decide +kernel), List.mem_of_getElem? (i := 1742) (by decide +kernel), List.mem_of_getElem? (i := 1743) (by decide +kernel)⟩
def lw_privs_6 : List (MethodName × Nat) := [(⟨"JobTextModel", "judgeInput", "(I)Z"⟩, 82), (⟨"JobTextModel", "sideOf", "(IJ)I"⟩, 82), (⟨"JobTextModel", "judgeLoops", "()Z"⟩, 82), (⟨"JobTextModel", "judgeRings", "()Z"⟩, 82), (⟨"JobTextModel", "findComes", "()V"⟩, 82), (⟨"JobTextModel", "layOut", "()V"⟩, 82), (⟨"JobTextModel", "isReady", "(I)Z"⟩, 82), (⟨"JobTextModel", "judgeKeys", "()Z"⟩, 82), (⟨"JobTextModel", "keyedAt", "(II)J"⟩, 82), (⟨"JobTextModel", "findKey", "(I)V"⟩, 82), (⟨"JobTextModel", "findFlow", "(I)V"⟩, 82), (⟨"JobTextModel", "comesTo", "(I)V"⟩, 82), (⟨"JobTextModel", "big", "()V"⟩, 82), (⟨"JobTextModel", "fraction", "(JJ)V"⟩, 82), (⟨"JobTextModel", "findChains", "()V"⟩, 82), (⟨"JobTextModel", "findFused", "(I)V"⟩, 82)]
theorem lw_r6 : ∀ q ∈ lw_privs_6, lw_okq q := List.forall_mem_cons.mpr ⟨lw_p80, List.forall_mem_cons.mpr ⟨lw_p81, List.forall_mem_cons.mpr ⟨lw_p82, List.forall_mem_cons.mpr ⟨lw_p83, List.forall_mem_cons.mpr ⟨lw_p84, List.forall_mem_cons.mpr ⟨lw_p85, List.forall_mem_cons.mpr ⟨lw_p86, List.forall_mem_cons.mpr ⟨lw_p87, List.forall_mem_cons.mpr ⟨lw_p88, List.forall_mem_cons.mpr ⟨lw_p89, List.forall_mem_cons.mpr ⟨lw_p90, List.forall_mem_cons.mpr ⟨lw_p91, List.forall_mem_cons.mpr ⟨lw_p92, List.forall_mem_cons.mpr ⟨lw_p93, List.forall_mem_cons.mpr ⟨lw_p94, List.forall_mem_cons.mpr ⟨lw_p95, fun _ h => absurd h List.not_mem_nil⟩⟩⟩⟩⟩⟩⟩⟩⟩⟩⟩⟩⟩⟩⟩⟩
theorem lw_p96 : lw_okq (⟨"JobTextModel", "parOf", "(I)I"⟩, 82) := ⟨⟨by decide +kernel, by decide +kernel⟩, List.mem_of_getElem? (i := 1275) (by decide +kernel), List.mem_of_getElem? (i := 1746) (by decide +kernel), List.mem_of_getElem? (i := 1747) (by decide +kernel)⟩
theorem lw_p97 : lw_okq (⟨"JobTextModel", "readersOf", "(IIZ)I"⟩, 82) := ⟨⟨by decide +kernel, by decide +kernel⟩, List.mem_of_getElem? (i := 1275) (by decide +kernel), List.mem_of_getElem? (i := 1750) (by decide +kernel), List.mem_of_getElem? (i := 1751) (by decide +kernel)⟩
theorem lw_p98 : lw_okq (⟨"JobTextModel", "channelsOf", "(II)I"⟩, 82) := ⟨⟨by decide +kernel, by decide +kernel⟩, List.mem_of_getElem? (i := 1275) (by decide +kernel), List.mem_of_getElem? (i := 1754) (by decide +kernel), List.mem_of_getElem? (i := 1755) (by decide +kernel)⟩
theorem lw_p99 : lw_okq (⟨"JobTextModel", "numberOf", "(J)I"⟩, 82) := ⟨⟨by decide +kernel, by decide +kernel⟩, List.mem_of_getElem? (i := 1275) (by decide +kernel), List.mem_of_getElem? (i := 1758) (by decide +kernel), List.mem_of_getElem? (i := 1759) (by decide +kernel)⟩
theorem lw_p100 : lw_okq (⟨"JobTextModel", "keep", "(I)V"⟩, 82) := ⟨⟨by decide +kernel, by decide +kernel⟩, List.mem_of_getElem? (i := 1275) (by decide +kernel), List.mem_of_getElem? (i := 1762) (by decide +kernel), List.mem_of_getElem? (i := 1763) (by decide +kernel)⟩
theorem lw_p101 : lw_okq (⟨"JobTextModel", "keepOperator", "(II)V"⟩, 82) := ⟨⟨by decide +kernel, by decide +kernel⟩, List.mem_of_getElem? (i := 1275) (by decide +kernel), List.mem_of_getElem? (i := 1766) (by decide +kernel), List.mem_of_getElem? (i := 1767) (by decide +kernel)⟩
theorem lw_p102 : lw_okq (⟨"JobTextModel", "keepInputs", "(II)V"⟩, 82) := ⟨⟨by decide +kernel, by decide +kernel⟩, List.mem_of_getElem? (i := 1275) (by decide +kernel), List.mem_of_getElem? (i := 1770) (by decide +kernel), List.mem_of_getElem? (i := 1771) (by decide +kernel)⟩
theorem lw_p103 : lw_okq (⟨"JobTextModel", "against", "(IZ)I"⟩, 82) := ⟨⟨by decide +kernel, by decide +kernel⟩, List.mem_of_getElem? (i := 1275) (by decide +kernel), List.mem_of_getElem? (i := 1778) (by decide +kernel), List.mem_of_getElem? (i := 1779) (by decide +kernel)⟩
theorem lw_p104 : lw_okq (⟨"JobTextModel", "countOf", "([II)I"⟩, 82) := ⟨⟨by decide +kernel, by decide +kernel⟩, List.mem_of_getElem? (i := 1275) (by decide +kernel), List.mem_of_getElem? (i := 1794) (by decide +kernel), List.mem_of_getElem? (i := 1795) (by decide +kernel)⟩
theorem lw_p105 : lw_okq (⟨"JobTextModel", "againstOne", "(IZII)I"⟩, 82) := ⟨⟨by decide +kernel, by decide +kernel⟩, List.mem_of_getElem? (i := 1275) (by decide +kernel), List.mem_of_getElem? (i := 1798) (by decide +kernel), List.mem_of_getElem? (i := 1799) (by decide +kernel)⟩
theorem lw_p106 : lw_okq (⟨"JobTextModel", "putComments", "(II)V"⟩, 82) := ⟨⟨by decide +kernel, by decide +kernel⟩, List.mem_of_getElem? (i := 1275) (by decide +kernel), List.mem_of_getElem? (i := 1836) (by decide +kernel), List.mem_of_getElem? (i := 1837) (by decide +kernel)⟩
theorem lw_p107 : lw_okq (⟨"JobTextModel", "put", "(I)V"⟩, 82) := ⟨⟨by decide +kernel, by decide +kernel⟩, List.mem_of_getElem? (i := 1275) (by decide +kernel), List.mem_of_getElem? (i := 1840) (by decide +kernel), List.mem_of_getElem? (i := 1841) (by decide +kernel)⟩
theorem lw_p108 : lw_okq (⟨"JobTextModel", "putStatement", "(II)V"⟩, 82) := ⟨⟨by decide +kernel, by decide +kernel⟩, List.mem_of_getElem? (i := 1275) (by decide +kernel), List.mem_of_getElem? (i := 1844) (by decide +kernel), List.mem_of_getElem? (i := 1845) (by decide +kernel)⟩
theorem lw_p109 : lw_okq (⟨"JobTextModel", "putOperator", "(I)V"⟩, 82) := ⟨⟨by decide +kernel, by decide +kernel⟩, List.mem_of_getElem? (i := 1275) (by decide +kernel), List.mem_of_getElem? (i := 1848) (by decide +kernel), List.mem_of_getElem? (i := 1849) (by decide +kernel)⟩
theorem lw_p110 : lw_okq (⟨"JobTextModel", "putKey", "(I)V"⟩, 82) := ⟨⟨by decide +kernel, by decide +kernel⟩, List.mem_of_getElem? (i := 1275) (by decide +kernel), List.mem_of_getElem? (i := 1852) (by decide +kernel), List.mem_of_getElem? (i := 1853) (by decide +kernel)⟩
theorem lw_p111 : lw_okq (⟨"JobTextModel", "putName", "(J)V"⟩, 82) := ⟨⟨by decide +kernel, by decide +kernel⟩, List.mem_of_getElem? (i := 1275) (by decide +kernel), List.mem_of_getElem? (i := 1856) (by decide +kernel), List.mem_of_getElem? (i := 1857) (by decide +kernel)⟩
def lw_privs_7 : List (MethodName × Nat) := [(⟨"JobTextModel", "parOf", "(I)I"⟩, 82), (⟨"JobTextModel", "readersOf", "(IIZ)I"⟩, 82), (⟨"JobTextModel", "channelsOf", "(II)I"⟩, 82), (⟨"JobTextModel", "numberOf", "(J)I"⟩, 82), (⟨"JobTextModel", "keep", "(I)V"⟩, 82), (⟨"JobTextModel", "keepOperator", "(II)V"⟩, 82), (⟨"JobTextModel", "keepInputs", "(II)V"⟩, 82), (⟨"JobTextModel", "against", "(IZ)I"⟩, 82), (⟨"JobTextModel", "countOf", "([II)I"⟩, 82), (⟨"JobTextModel", "againstOne", "(IZII)I"⟩, 82), (⟨"JobTextModel", "putComments", "(II)V"⟩, 82), (⟨"JobTextModel", "put", "(I)V"⟩, 82), (⟨"JobTextModel", "putStatement", "(II)V"⟩, 82), (⟨"JobTextModel", "putOperator", "(I)V"⟩, 82), (⟨"JobTextModel", "putKey", "(I)V"⟩, 82), (⟨"JobTextModel", "putName", "(J)V"⟩, 82)]
theorem lw_r7 : ∀ q ∈ lw_privs_7, lw_okq q := List.forall_mem_cons.mpr ⟨lw_p96, List.forall_mem_cons.mpr ⟨lw_p97, List.forall_mem_cons.mpr ⟨lw_p98, List.forall_mem_cons.mpr ⟨lw_p99, List.forall_mem_cons.mpr ⟨lw_p100, List.forall_mem_cons.mpr ⟨lw_p101, List.forall_mem_cons.mpr ⟨lw_p102, List.forall_mem_cons.mpr ⟨lw_p103, List.forall_mem_cons.mpr ⟨lw_p104, List.forall_mem_cons.mpr ⟨lw_p105, List.forall_mem_cons.mpr ⟨lw_p106, List.forall_mem_cons.mpr ⟨lw_p107, List.forall_mem_cons.mpr ⟨lw_p108, List.forall_mem_cons.mpr ⟨lw_p109, List.forall_mem_cons.mpr ⟨lw_p110, List.forall_mem_cons.mpr ⟨lw_p111, fun _ h => absurd h List.not_mem_nil⟩⟩⟩⟩⟩⟩⟩⟩⟩⟩⟩⟩⟩⟩⟩⟩
theorem lw_p112 : lw_okq (⟨"JobTextModel", "putProperties", "(I)V"⟩, 82) := ⟨⟨by decide +kernel, by decide +kernel⟩, List.mem_of_getElem? (i := 1275) (by decide +kernel), List.mem_of_getElem? (i := 1860) (by decide +kernel), List.mem_of_getElem? (i := 1861) (by decide +kernel)⟩
theorem lw_p113 : lw_okq (⟨"JobTextModel", "putNumberProperty", "(II)V"⟩, 82) := ⟨⟨by decide +kernel, by decide +kernel⟩, List.mem_of_getElem? (i := 1275) (by decide +kernel), List.mem_of_getElem? (i := 1864) (by decide +kernel), List.mem_of_getElem? (i := 1865) (by decide +kernel)⟩
theorem lw_p114 : lw_okq (⟨"JobTextModel", "putNumber", "(I)V"⟩, 82) := ⟨⟨by decide +kernel, by decide +kernel⟩, List.mem_of_getElem? (i := 1275) (by decide +kernel), List.mem_of_getElem? (i := 1868) (by decide +kernel), List.mem_of_getElem? (i := 1869) (by decide +kernel)⟩
theorem lw_p115 : lw_okq (⟨"JobTextModel", "bitsOf", "(II)I"⟩, 82) := ⟨⟨by decide +kernel, by decide +kernel⟩, List.mem_of_getElem? (i := 1275) (by decide +kernel), List.mem_of_getElem? (i := 1884) (by decide +kernel), List.mem_of_getElem? (i := 1885) (by decide +kernel)⟩
theorem lw_p116 : lw_okq (⟨"JobTextModel", "haveLikeInputs", "(II)Z"⟩, 82) := ⟨⟨by decide +kernel, by decide +kernel⟩, List.mem_of_getElem? (i := 1275) (by decide +kernel), List.mem_of_getElem? (i := 1888) (by decide +kernel), List.mem_of_getElem? (i := 1889) (by decide +kernel)⟩
theorem lw_p117 : lw_okq (⟨"JobTextModel", "haveLikeSides", "(II)Z"⟩, 82) := ⟨⟨by decide +kernel, by decide +kernel⟩, List.mem_of_getElem? (i := 1275) (by decide +kernel), List.mem_of_getElem? (i := 1892) (by decide +kernel), List.mem_of_getElem? (i := 1893) (by decide +kernel)⟩
theorem lw_p118 : lw_okq (⟨"JobTextModel", "note", "(III)V"⟩, 82) := ⟨⟨by decide +kernel, by decide +kernel⟩, List.mem_of_getElem? (i := 1275) (by decide +kernel), List.mem_of_getElem? (i := 1896) (by decide +kernel), List.mem_of_getElem? (i := 1897) (by decide +kernel)⟩
def lw_privs_8 : List (MethodName × Nat) := [(⟨"JobTextModel", "putProperties", "(I)V"⟩, 82), (⟨"JobTextModel", "putNumberProperty", "(II)V"⟩, 82), (⟨"JobTextModel", "putNumber", "(I)V"⟩, 82), (⟨"JobTextModel", "bitsOf", "(II)I"⟩, 82), (⟨"JobTextModel", "haveLikeInputs", "(II)Z"⟩, 82), (⟨"JobTextModel", "haveLikeSides", "(II)Z"⟩, 82), (⟨"JobTextModel", "note", "(III)V"⟩, 82)]
theorem lw_r8 : ∀ q ∈ lw_privs_8, lw_okq q := List.forall_mem_cons.mpr ⟨lw_p112, List.forall_mem_cons.mpr ⟨lw_p113, List.forall_mem_cons.mpr ⟨lw_p114, List.forall_mem_cons.mpr ⟨lw_p115, List.forall_mem_cons.mpr ⟨lw_p116, List.forall_mem_cons.mpr ⟨lw_p117, List.forall_mem_cons.mpr ⟨lw_p118, fun _ h => absurd h List.not_mem_nil⟩⟩⟩⟩⟩⟩⟩
def lw_privs : List (MethodName × Nat) := lw_privs_1 ++ (lw_privs_2 ++ (lw_privs_3 ++ (lw_privs_4 ++ (lw_privs_5 ++ (lw_privs_6 ++ (lw_privs_7 ++ (lw_privs_8)))))))
def lw_tbl : List Cond := k2_sels lw_privs ++ tables_1
theorem lw_privs_ok : ∀ q ∈ lw_privs, lw_okq q := by
  show ∀ q ∈ lw_privs_1 ++ (lw_privs_2 ++ (lw_privs_3 ++ (lw_privs_4 ++ (lw_privs_5 ++ (lw_privs_6 ++ (lw_privs_7 ++ (lw_privs_8))))))), lw_okq q
  exact List.forall_mem_append.mpr ⟨lw_r1, List.forall_mem_append.mpr ⟨lw_r2, List.forall_mem_append.mpr ⟨lw_r3, List.forall_mem_append.mpr ⟨lw_r4, List.forall_mem_append.mpr ⟨lw_r5, List.forall_mem_append.mpr ⟨lw_r6, List.forall_mem_append.mpr ⟨lw_r7, lw_r8⟩⟩⟩⟩⟩⟩⟩
def RX0 : String := "JobText$Bytes"
def TX0 : u_T := fun k => match k with
  | 0 => ("JobText$Bytes", "row", "[B", true)
  | _ => ("JobText$Bytes", "size", "I", false)
def tyX0 : Nat → FieldType := fun k => match k with
  | 0 => .array .byte
  | _ => .int
abbrev wsX00 : List Cond := u_ws RX0 TX0 2
theorem nmX0 : ∀ a, a < 2 → ∀ b, b < 2 → a ≠ b → (TX0 a).2.1 ≠ (TX0 b).2.1 := by decide +kernel
theorem tyX0_ok : ∀ k, k < 2 → parseFieldDescriptor (TX0 k).2.2.1 = some (tyX0 k) := by decide +kernel
def RX1 : String := "JobText$Fault"
def TX1 : u_T := fun k => match k with
  | 0 => ("JobText$Fault", "what", "I", false)
  | 1 => ("JobText$Fault", "file", "I", false)
  | 2 => ("JobText$Fault", "place", "I", false)
  | _ => ("JobText$Fault", "expected", "I", false)
def tyX1 : Nat → FieldType := fun k => match k with
  | 0 => .int
  | 1 => .int
  | 2 => .int
  | _ => .int
abbrev wsX10 : List Cond := u_ws RX1 TX1 4
theorem nmX1 : ∀ a, a < 4 → ∀ b, b < 4 → a ≠ b → (TX1 a).2.1 ≠ (TX1 b).2.1 := by decide +kernel
theorem tyX1_ok : ∀ k, k < 4 → parseFieldDescriptor (TX1 k).2.2.1 = some (tyX1 k) := by decide +kernel
def RX2 : String := "JobText$Flow"
def TX2 : u_T := fun k => match k with
  | 0 => ("JobText$Flow", "upper", "J", false)
  | 1 => ("JobText$Flow", "lower", "J", false)
  | _ => ("JobText$Flow", "big", "Z", false)
def tyX2 : Nat → FieldType := fun k => match k with
  | 0 => .long
  | 1 => .long
  | _ => .boolean
abbrev wsX20 : List Cond := u_ws RX2 TX2 3
theorem nmX2 : ∀ a, a < 3 → ∀ b, b < 3 → a ≠ b → (TX2 a).2.1 ≠ (TX2 b).2.1 := by decide +kernel
theorem tyX2_ok : ∀ k, k < 3 → parseFieldDescriptor (TX2 k).2.2.1 = some (tyX2 k) := by decide +kernel
def RX3 : String := "JobText$Input"
def TX3 : u_T := fun k => match k with
  | 0 => ("JobText$Input", "name", "J", false)
  | 1 => ("JobText$Input", "place", "I", false)
  | 2 => ("JobText$Input", "sideName", "J", false)
  | 3 => ("JobText$Input", "sidePlace", "I", false)
  | 4 => ("JobText$Input", "from", "I", false)
  | _ => ("JobText$Input", "side", "I", false)
def tyX3 : Nat → FieldType := fun k => match k with
  | 0 => .long
  | 1 => .int
  | 2 => .long
  | 3 => .int
  | 4 => .int
  | _ => .int
abbrev wsX30 : List Cond := u_ws RX3 TX3 6
theorem nmX3 : ∀ a, a < 6 → ∀ b, b < 6 → a ≠ b → (TX3 a).2.1 ≠ (TX3 b).2.1 := by decide +kernel
theorem tyX3_ok : ∀ k, k < 6 → parseFieldDescriptor (TX3 k).2.2.1 = some (tyX3 k) := by decide +kernel
def RX4 : String := "JobText$Job"
def TX4 : u_T := fun k => match k with
  | 0 => ("JobText$Job", "isRead", "Z", false)
  | 1 => ("JobText$Job", "operators", "[LJobText$Operator;", true)
  | 2 => ("JobText$Job", "operatorCount", "I", false)
  | 3 => ("JobText$Job", "sets", "[LJobText$Pair;", true)
  | 4 => ("JobText$Job", "setCount", "I", false)
  | 5 => ("JobText$Job", "loops", "[LJobText$Pair;", true)
  | 6 => ("JobText$Job", "loopCount", "I", false)
  | 7 => ("JobText$Job", "comments", "[LJobText$Bytes;", true)
  | 8 => ("JobText$Job", "commentOwners", "[I", true)
  | 9 => ("JobText$Job", "commentCount", "I", false)
  | 10 => ("JobText$Job", "statementSorts", "[I", true)
  | 11 => ("JobText$Job", "statementRows", "[I", true)
  | 12 => ("JobText$Job", "statementCount", "I", false)
  | _ => ("JobText$Job", "layout", "LJobText$Layout;", true)
def tyX4 : Nat → FieldType := fun k => match k with
  | 0 => .boolean
  | 1 => .array (.object "JobText$Operator")
  | 2 => .int
  | 3 => .array (.object "JobText$Pair")
  | 4 => .int
  | 5 => .array (.object "JobText$Pair")
  | 6 => .int
  | 7 => .array (.object "JobText$Bytes")
  | 8 => .array .int
  | 9 => .int
  | 10 => .array .int
  | 11 => .array .int
  | 12 => .int
  | _ => .object "JobText$Layout"
abbrev wsX40 : List Cond := u_ws RX4 TX4 14
theorem nmX4 : ∀ a, a < 14 → ∀ b, b < 14 → a ≠ b → (TX4 a).2.1 ≠ (TX4 b).2.1 := by decide +kernel
theorem tyX4_ok : ∀ k, k < 14 → parseFieldDescriptor (TX4 k).2.2.1 = some (tyX4 k) := by decide +kernel
def RX5 : String := "JobText$Judge"
def TX5 : u_T := fun k => match k with
  | 0 => ("JobText$Judge", "fault", "LJobText$Fault;", true)
  | _ => ("JobText$Judge", "origins", "[J", true)
def tyX5 : Nat → FieldType := fun k => match k with
  | 0 => .object "JobText$Fault"
  | _ => .array .long
abbrev wsX50 : List Cond := u_ws RX5 TX5 2
theorem nmX5 : ∀ a, a < 2 → ∀ b, b < 2 → a ≠ b → (TX5 a).2.1 ≠ (TX5 b).2.1 := by decide +kernel
theorem tyX5_ok : ∀ k, k < 2 → parseFieldDescriptor (TX5 k).2.2.1 = some (tyX5 k) := by decide +kernel
def RX6 : String := "JobText$Layout"
def TX6 : u_T := fun k => match k with
  | 0 => ("JobText$Layout", "order", "[I", true)
  | 1 => ("JobText$Layout", "position", "[I", true)
  | 2 => ("JobText$Layout", "level", "[I", true)
  | 3 => ("JobText$Layout", "keyedBy", "[J", true)
  | 4 => ("JobText$Layout", "mainFlow", "[LJobText$Flow;", true)
  | 5 => ("JobText$Layout", "sideFlow", "[LJobText$Flow;", true)
  | 6 => ("JobText$Layout", "comes", "LJobText$Flow;", true)
  | 7 => ("JobText$Layout", "readers", "[I", true)
  | 8 => ("JobText$Layout", "mainReaders", "[I", true)
  | 9 => ("JobText$Layout", "fused", "[Z", true)
  | 10 => ("JobText$Layout", "chain", "[I", true)
  | 11 => ("JobText$Layout", "levels", "I", false)
  | 12 => ("JobText$Layout", "chains", "I", false)
  | 13 => ("JobText$Layout", "tasks", "I", false)
  | _ => ("JobText$Layout", "channels", "I", false)
def tyX6 : Nat → FieldType := fun k => match k with
  | 0 => .array .int
  | 1 => .array .int
  | 2 => .array .int
  | 3 => .array .long
  | 4 => .array (.object "JobText$Flow")
  | 5 => .array (.object "JobText$Flow")
  | 6 => .object "JobText$Flow"
  | 7 => .array .int
  | 8 => .array .int
  | 9 => .array .boolean
  | 10 => .array .int
  | 11 => .int
  | 12 => .int
  | 13 => .int
  | _ => .int
abbrev wsX60 : List Cond := u_ws RX6 TX6 15
theorem nmX6 : ∀ a, a < 15 → ∀ b, b < 15 → a ≠ b → (TX6 a).2.1 ≠ (TX6 b).2.1 := by decide +kernel
theorem tyX6_ok : ∀ k, k < 15 → parseFieldDescriptor (TX6 k).2.2.1 = some (tyX6 k) := by decide +kernel
def RX7 : String := "JobText$Operator"
def TX7 : u_T := fun k => match k with
  | 0 => ("JobText$Operator", "name", "J", false)
  | 1 => ("JobText$Operator", "kind", "I", false)
  | 2 => ("JobText$Operator", "par", "I", false)
  | 3 => ("JobText$Operator", "rate", "I", false)
  | 4 => ("JobText$Operator", "passUpper", "I", false)
  | 5 => ("JobText$Operator", "passLower", "I", false)
  | 6 => ("JobText$Operator", "key", "J", false)
  | 7 => ("JobText$Operator", "keep", "I", false)
  | 8 => ("JobText$Operator", "inputs", "[LJobText$Input;", true)
  | 9 => ("JobText$Operator", "inputCount", "I", false)
  | 10 => ("JobText$Operator", "sides", "[J", true)
  | 11 => ("JobText$Operator", "sideCount", "I", false)
  | 12 => ("JobText$Operator", "number", "I", false)
  | 13 => ("JobText$Operator", "file", "I", false)
  | 14 => ("JobText$Operator", "place", "I", false)
  | _ => ("JobText$Operator", "kindPlace", "I", false)
def tyX7 : Nat → FieldType := fun k => match k with
  | 0 => .long
  | 1 => .int
  | 2 => .int
  | 3 => .int
  | 4 => .int
  | 5 => .int
  | 6 => .long
  | 7 => .int
  | 8 => .array (.object "JobText$Input")
  | 9 => .int
  | 10 => .array .long
  | 11 => .int
  | 12 => .int
  | 13 => .int
  | 14 => .int
  | _ => .int
abbrev wsX70 : List Cond := u_ws RX7 TX7 16
theorem nmX7 : ∀ a, a < 16 → ∀ b, b < 16 → a ≠ b → (TX7 a).2.1 ≠ (TX7 b).2.1 := by decide +kernel
theorem tyX7_ok : ∀ k, k < 16 → parseFieldDescriptor (TX7 k).2.2.1 = some (tyX7 k) := by decide +kernel
def RX8 : String := "JobText$Pair"
def TX8 : u_T := fun k => match k with
  | 0 => ("JobText$Pair", "first", "J", false)
  | 1 => ("JobText$Pair", "second", "J", false)
  | 2 => ("JobText$Pair", "number", "I", false)
  | 3 => ("JobText$Pair", "file", "I", false)
  | 4 => ("JobText$Pair", "firstPlace", "I", false)
  | 5 => ("JobText$Pair", "secondPlace", "I", false)
  | 6 => ("JobText$Pair", "firstOperator", "I", false)
  | _ => ("JobText$Pair", "secondOperator", "I", false)
def tyX8 : Nat → FieldType := fun k => match k with
  | 0 => .long
  | 1 => .long
  | 2 => .int
  | 3 => .int
  | 4 => .int
  | 5 => .int
  | 6 => .int
  | _ => .int
abbrev wsX80 : List Cond := u_ws RX8 TX8 8
theorem nmX8 : ∀ a, a < 8 → ∀ b, b < 8 → a ≠ b → (TX8 a).2.1 ≠ (TX8 b).2.1 := by decide +kernel
theorem tyX8_ok : ∀ k, k < 8 → parseFieldDescriptor (TX8 k).2.2.1 = some (tyX8 k) := by decide +kernel
def RX9 : String := "JobText$Reader"
def TX9 : u_T := fun k => match k with
  | 0 => ("JobText$Reader", "words", "LJobText$Words;", true)
  | 1 => ("JobText$Reader", "fault", "LJobText$Fault;", true)
  | 2 => ("JobText$Reader", "job", "LJobText$Job;", false)
  | 3 => ("JobText$Reader", "state", "I", false)
  | 4 => ("JobText$Reader", "uses", "I", false)
  | 5 => ("JobText$Reader", "usePlace", "I", false)
  | 6 => ("JobText$Reader", "useFile", "I", false)
  | 7 => ("JobText$Reader", "operator", "LJobText$Operator;", false)
  | 8 => ("JobText$Reader", "line", "LJobText$Pair;", false)
  | _ => ("JobText$Reader", "propertiesLeft", "I", false)
def tyX9 : Nat → FieldType := fun k => match k with
  | 0 => .object "JobText$Words"
  | 1 => .object "JobText$Fault"
  | 2 => .object "JobText$Job"
  | 3 => .int
  | 4 => .int
  | 5 => .int
  | 6 => .int
  | 7 => .object "JobText$Operator"
  | 8 => .object "JobText$Pair"
  | _ => .int
abbrev wsX90 : List Cond := u_ws RX9 TX9 10
theorem nmX9 : ∀ a, a < 10 → ∀ b, b < 10 → a ≠ b → (TX9 a).2.1 ≠ (TX9 b).2.1 := by decide +kernel
theorem tyX9_ok : ∀ k, k < 10 → parseFieldDescriptor (TX9 k).2.2.1 = some (tyX9 k) := by decide +kernel
def RX10 : String := "JobText$Words"
def TX10 : u_T := fun k => match k with
  | 0 => ("JobText$Words", "keys", "[J", true)
  | 1 => ("JobText$Words", "files", "[LJobText$Bytes;", true)
  | 2 => ("JobText$Words", "fault", "LJobText$Fault;", true)
  | 3 => ("JobText$Words", "job", "LJobText$Job;", false)
  | 4 => ("JobText$Words", "openFiles", "[I", true)
  | 5 => ("JobText$Words", "openPlaces", "[I", true)
  | 6 => ("JobText$Words", "depth", "I", false)
  | 7 => ("JobText$Words", "next", "I", false)
  | 8 => ("JobText$Words", "thing", "I", false)
  | 9 => ("JobText$Words", "file", "I", false)
  | 10 => ("JobText$Words", "place", "I", false)
  | 11 => ("JobText$Words", "value", "I", false)
  | _ => ("JobText$Words", "name", "J", false)
def tyX10 : Nat → FieldType := fun k => match k with
  | 0 => .array .long
  | 1 => .array (.object "JobText$Bytes")
  | 2 => .object "JobText$Fault"
  | 3 => .object "JobText$Job"
  | 4 => .array .int
  | 5 => .array .int
  | 6 => .int
  | 7 => .int
  | 8 => .int
  | 9 => .int
  | 10 => .int
  | 11 => .int
  | _ => .long
abbrev wsX100 : List Cond := u_ws RX10 TX10 13
theorem nmX10 : ∀ a, a < 13 → ∀ b, b < 13 → a ≠ b → (TX10 a).2.1 ≠ (TX10 b).2.1 := by decide +kernel
theorem tyX10_ok : ∀ k, k < 13 → parseFieldDescriptor (TX10 k).2.2.1 = some (tyX10 k) := by decide +kernel
def RX11 : String := "JobText"
def TX11 : u_T := fun k => match k with
  | 0 => ("JobText", "tape", "LJobText$Bytes;", true)
  | 1 => ("JobText", "files", "[LJobText$Bytes;", true)
  | 2 => ("JobText", "page", "LJobText$Bytes;", true)
  | 3 => ("JobText", "jobs", "[LJobText$Job;", true)
  | 4 => ("JobText", "spare", "LJobText$Job;", false)
  | 5 => ("JobText", "latest", "LJobText$Fault;", true)
  | 6 => ("JobText", "reader", "LJobText$Reader;", true)
  | 7 => ("JobText", "judge", "LJobText$Judge;", true)
  | 8 => ("JobText", "numberNames", "[J", true)
  | 9 => ("JobText", "numberCount", "I", false)
  | 10 => ("JobText", "differences", "[I", true)
  | _ => ("JobText", "differenceCount", "I", false)
def tyX11 : Nat → FieldType := fun k => match k with
  | 0 => .object "JobText$Bytes"
  | 1 => .array (.object "JobText$Bytes")
  | 2 => .object "JobText$Bytes"
  | 3 => .array (.object "JobText$Job")
  | 4 => .object "JobText$Job"
  | 5 => .object "JobText$Fault"
  | 6 => .object "JobText$Reader"
  | 7 => .object "JobText$Judge"
  | 8 => .array .long
  | 9 => .int
  | 10 => .array .int
  | _ => .int
abbrev wsX110 : List Cond := u_ws RX11 TX11 12
theorem nmX11 : ∀ a, a < 12 → ∀ b, b < 12 → a ≠ b → (TX11 a).2.1 ≠ (TX11 b).2.1 := by decide +kernel
theorem tyX11_ok : ∀ k, k < 12 → parseFieldDescriptor (TX11 k).2.2.1 = some (tyX11 k) := by decide +kernel
def RX12 : String := "JobTextModel"
def TX12 : u_T := fun k => match k with
  | 0 => ("JobTextModel", "tape", "[I", true)
  | 1 => ("JobTextModel", "taped", "I", false)
  | 2 => ("JobTextModel", "files", "[I", true)
  | 3 => ("JobTextModel", "sizes", "[I", true)
  | 4 => ("JobTextModel", "thing", "I", false)
  | 5 => ("JobTextModel", "tokenName", "J", false)
  | 6 => ("JobTextModel", "tokenNumber", "I", false)
  | 7 => ("JobTextModel", "tokenFile", "I", false)
  | 8 => ("JobTextModel", "tokenPlace", "I", false)
  | 9 => ("JobTextModel", "depth", "I", false)
  | 10 => ("JobTextModel", "openFile", "[I", true)
  | 11 => ("JobTextModel", "openAt", "[I", true)
  | 12 => ("JobTextModel", "faulty", "I", false)
  | 13 => ("JobTextModel", "faultFile", "I", false)
  | 14 => ("JobTextModel", "faultPlace", "I", false)
  | 15 => ("JobTextModel", "expected", "I", false)
  | 16 => ("JobTextModel", "isRead", "[Z", true)
  | 17 => ("JobTextModel", "operators", "[I", true)
  | 18 => ("JobTextModel", "sets", "[I", true)
  | 19 => ("JobTextModel", "loops", "[I", true)
  | 20 => ("JobTextModel", "statements", "[I", true)
  | 21 => ("JobTextModel", "comments", "[I", true)
  | 22 => ("JobTextModel", "uses", "I", false)
  | 23 => ("JobTextModel", "names", "[J", true)
  | 24 => ("JobTextModel", "kinds", "[I", true)
  | 25 => ("JobTextModel", "pars", "[I", true)
  | 26 => ("JobTextModel", "rates", "[I", true)
  | 27 => ("JobTextModel", "passUp", "[I", true)
  | 28 => ("JobTextModel", "passDown", "[I", true)
  | 29 => ("JobTextModel", "keeps", "[I", true)
  | 30 => ("JobTextModel", "keys", "[J", true)
  | 31 => ("JobTextModel", "inputs", "[I", true)
  | 32 => ("JobTextModel", "sides", "[I", true)
  | 33 => ("JobTextModel", "fileOf", "[I", true)
  | 34 => ("JobTextModel", "placeOf", "[I", true)
  | 35 => ("JobTextModel", "kindFile", "[I", true)
  | 36 => ("JobTextModel", "kindPlace", "[I", true)
  | 37 => ("JobTextModel", "inName", "[J", true)
  | 38 => ("JobTextModel", "inSide", "[J", true)
  | 39 => ("JobTextModel", "inFile", "[I", true)
  | 40 => ("JobTextModel", "inPlace", "[I", true)
  | 41 => ("JobTextModel", "inSideFile", "[I", true)
  | 42 => ("JobTextModel", "inSidePlace", "[I", true)
  | 43 => ("JobTextModel", "inOf", "[I", true)
  | 44 => ("JobTextModel", "inWhich", "[I", true)
  | 45 => ("JobTextModel", "sideNames", "[J", true)
  | 46 => ("JobTextModel", "setNames", "[J", true)
  | 47 => ("JobTextModel", "setValues", "[J", true)
  | 48 => ("JobTextModel", "setNumbers", "[I", true)
  | 49 => ("JobTextModel", "setFile", "[I", true)
  | 50 => ("JobTextModel", "setPlace", "[I", true)
  | 51 => ("JobTextModel", "loopNames", "[J", true)
  | 52 => ("JobTextModel", "loopFile", "[I", true)
  | 53 => ("JobTextModel", "loopPlace", "[I", true)
  | 54 => ("JobTextModel", "loopOf", "[I", true)
  | 55 => ("JobTextModel", "what", "[I", true)
  | 56 => ("JobTextModel", "which", "[I", true)
  | 57 => ("JobTextModel", "commentOwner", "[I", true)
  | 58 => ("JobTextModel", "commentSize", "[I", true)
  | 59 => ("JobTextModel", "commentText", "[I", true)
  | 60 => ("JobTextModel", "levels", "[I", true)
  | 61 => ("JobTextModel", "layoutAt", "[I", true)
  | 62 => ("JobTextModel", "layout", "[I", true)
  | 63 => ("JobTextModel", "chains", "[I", true)
  | 64 => ("JobTextModel", "isFused", "[Z", true)
  | 65 => ("JobTextModel", "keyed", "[J", true)
  | 66 => ("JobTextModel", "flowUp", "[J", true)
  | 67 => ("JobTextModel", "flowDown", "[J", true)
  | 68 => ("JobTextModel", "sideUp", "[J", true)
  | 69 => ("JobTextModel", "sideDown", "[J", true)
  | 70 => ("JobTextModel", "chainCount", "[I", true)
  | 71 => ("JobTextModel", "tasks", "[I", true)
  | 72 => ("JobTextModel", "channels", "[I", true)
  | 73 => ("JobTextModel", "comes", "[Z", true)
  | 74 => ("JobTextModel", "up", "J", false)
  | 75 => ("JobTextModel", "down", "J", false)
  | 76 => ("JobTextModel", "numbers", "I", false)
  | 77 => ("JobTextModel", "numberNames", "[J", true)
  | 78 => ("JobTextModel", "out", "[I", true)
  | 79 => ("JobTextModel", "printed", "I", false)
  | 80 => ("JobTextModel", "differences", "I", false)
  | _ => ("JobTextModel", "differs", "[I", true)
def tyX12 : Nat → FieldType := fun k => match k with
  | 0 => .array .int
  | 1 => .int
  | 2 => .array .int
  | 3 => .array .int
  | 4 => .int
  | 5 => .long
  | 6 => .int
  | 7 => .int
  | 8 => .int
  | 9 => .int
  | 10 => .array .int
  | 11 => .array .int
  | 12 => .int
  | 13 => .int
  | 14 => .int
  | 15 => .int
  | 16 => .array .boolean
  | 17 => .array .int
  | 18 => .array .int
  | 19 => .array .int
  | 20 => .array .int
  | 21 => .array .int
  | 22 => .int
  | 23 => .array .long
  | 24 => .array .int
  | 25 => .array .int
  | 26 => .array .int
  | 27 => .array .int
  | 28 => .array .int
  | 29 => .array .int
  | 30 => .array .long
  | 31 => .array .int
  | 32 => .array .int
  | 33 => .array .int
  | 34 => .array .int
  | 35 => .array .int
  | 36 => .array .int
  | 37 => .array .long
  | 38 => .array .long
  | 39 => .array .int
  | 40 => .array .int
  | 41 => .array .int
  | 42 => .array .int
  | 43 => .array .int
  | 44 => .array .int
  | 45 => .array .long
  | 46 => .array .long
  | 47 => .array .long
  | 48 => .array .int
  | 49 => .array .int
  | 50 => .array .int
  | 51 => .array .long
  | 52 => .array .int
  | 53 => .array .int
  | 54 => .array .int
  | 55 => .array .int
  | 56 => .array .int
  | 57 => .array .int
  | 58 => .array .int
  | 59 => .array .int
  | 60 => .array .int
  | 61 => .array .int
  | 62 => .array .int
  | 63 => .array .int
  | 64 => .array .boolean
  | 65 => .array .long
  | 66 => .array .long
  | 67 => .array .long
  | 68 => .array .long
  | 69 => .array .long
  | 70 => .array .int
  | 71 => .array .int
  | 72 => .array .int
  | 73 => .array .boolean
  | 74 => .long
  | 75 => .long
  | 76 => .int
  | 77 => .array .long
  | 78 => .array .int
  | 79 => .int
  | 80 => .int
  | _ => .array .int
abbrev wsX120 : List Cond := u_ws RX12 TX12 82
theorem nmX12 : ∀ a, a < 82 → ∀ b, b < 82 → a ≠ b → (TX12 a).2.1 ≠ (TX12 b).2.1 := by decide +kernel
theorem tyX12_ok : ∀ k, k < 82 → parseFieldDescriptor (TX12 k).2.2.1 = some (tyX12 k) := by decide +kernel
