section
/-- a private method of a class that the tables say can be made, by its rows of tables_1 -/
def lw_okq (q : MethodName × Nat) : Prop := (q.1.cls ≠ "java/lang/invoke/MethodHandle" ∧ q.1.cls ≠ "java/lang/invoke/VarHandle") ∧ Cond.instantiable q.1.cls q.2 ∈ tables_1 ∧ Cond.privateMethod q.1 ∈ tables_1 ∧ Cond.instanceMethod q.1 ∈ tables_1
theorem lw_p0 : lw_okq (⟨"JobText$Words", "here", "()I"⟩, 13) := ⟨⟨by decide +kernel, by decide +kernel⟩, List.mem_of_getElem? (i := 416) (by decide +kernel), List.mem_of_getElem? (i := 694) (by decide +kernel), List.mem_of_getElem? (i := 695) (by decide +kernel)⟩
theorem lw_p1 : lw_okq (⟨"JobText$Words", "meetComment", "()V"⟩, 13) := ⟨⟨by decide +kernel, by decide +kernel⟩, List.mem_of_getElem? (i := 416) (by decide +kernel), List.mem_of_getElem? (i := 699) (by decide +kernel), List.mem_of_getElem? (i := 700) (by decide +kernel)⟩
theorem lw_p2 : lw_okq (⟨"JobText$Words", "lookAtName", "()V"⟩, 13) := ⟨⟨by decide +kernel, by decide +kernel⟩, List.mem_of_getElem? (i := 416) (by decide +kernel), List.mem_of_getElem? (i := 719) (by decide +kernel), List.mem_of_getElem? (i := 720) (by decide +kernel)⟩
theorem lw_p3 : lw_okq (⟨"JobText$Words", "lookAtNumber", "()V"⟩, 13) := ⟨⟨by decide +kernel, by decide +kernel⟩, List.mem_of_getElem? (i := 416) (by decide +kernel), List.mem_of_getElem? (i := 728) (by decide +kernel), List.mem_of_getElem? (i := 729) (by decide +kernel)⟩
theorem lw_p4 : lw_okq (⟨"JobText$Reader", "meetToken", "()V"⟩, 10) := ⟨⟨by decide +kernel, by decide +kernel⟩, List.mem_of_getElem? (i := 410) (by decide +kernel), List.mem_of_getElem? (i := 790) (by decide +kernel), List.mem_of_getElem? (i := 791) (by decide +kernel)⟩
theorem lw_p5 : lw_okq (⟨"JobText$Reader", "tellHere", "(I)V"⟩, 10) := ⟨⟨by decide +kernel, by decide +kernel⟩, List.mem_of_getElem? (i := 410) (by decide +kernel), List.mem_of_getElem? (i := 796) (by decide +kernel), List.mem_of_getElem? (i := 797) (by decide +kernel)⟩
theorem lw_p6 : lw_okq (⟨"JobText$Reader", "beginStatement", "()V"⟩, 10) := ⟨⟨by decide +kernel, by decide +kernel⟩, List.mem_of_getElem? (i := 410) (by decide +kernel), List.mem_of_getElem? (i := 801) (by decide +kernel), List.mem_of_getElem? (i := 802) (by decide +kernel)⟩
theorem lw_p7 : lw_okq (⟨"JobText$Reader", "goOnWithUse", "()V"⟩, 10) := ⟨⟨by decide +kernel, by decide +kernel⟩, List.mem_of_getElem? (i := 410) (by decide +kernel), List.mem_of_getElem? (i := 809) (by decide +kernel), List.mem_of_getElem? (i := 810) (by decide +kernel)⟩
theorem lw_p8 : lw_okq (⟨"JobText$Reader", "goOnWithLine", "()V"⟩, 10) := ⟨⟨by decide +kernel, by decide +kernel⟩, List.mem_of_getElem? (i := 410) (by decide +kernel), List.mem_of_getElem? (i := 819) (by decide +kernel), List.mem_of_getElem? (i := 820) (by decide +kernel)⟩
theorem lw_p9 : lw_okq (⟨"JobText$Reader", "beginSet", "()V"⟩, 10) := ⟨⟨by decide +kernel, by decide +kernel⟩, List.mem_of_getElem? (i := 410) (by decide +kernel), List.mem_of_getElem? (i := 823) (by decide +kernel), List.mem_of_getElem? (i := 824) (by decide +kernel)⟩
theorem lw_p10 : lw_okq (⟨"JobText$Reader", "beginLoop", "()V"⟩, 10) := ⟨⟨by decide +kernel, by decide +kernel⟩, List.mem_of_getElem? (i := 410) (by decide +kernel), List.mem_of_getElem? (i := 839) (by decide +kernel), List.mem_of_getElem? (i := 840) (by decide +kernel)⟩
theorem lw_p11 : lw_okq (⟨"JobText$Reader", "goOnWithOperator", "()V"⟩, 10) := ⟨⟨by decide +kernel, by decide +kernel⟩, List.mem_of_getElem? (i := 410) (by decide +kernel), List.mem_of_getElem? (i := 843) (by decide +kernel), List.mem_of_getElem? (i := 844) (by decide +kernel)⟩
theorem lw_p12 : lw_okq (⟨"JobText$Reader", "beginOperator", "()V"⟩, 10) := ⟨⟨by decide +kernel, by decide +kernel⟩, List.mem_of_getElem? (i := 410) (by decide +kernel), List.mem_of_getElem? (i := 847) (by decide +kernel), List.mem_of_getElem? (i := 848) (by decide +kernel)⟩
theorem lw_p13 : lw_okq (⟨"JobText$Reader", "tellKind", "(I)V"⟩, 10) := ⟨⟨by decide +kernel, by decide +kernel⟩, List.mem_of_getElem? (i := 410) (by decide +kernel), List.mem_of_getElem? (i := 859) (by decide +kernel), List.mem_of_getElem? (i := 860) (by decide +kernel)⟩
theorem lw_p14 : lw_okq (⟨"JobText$Reader", "addInput", "()V"⟩, 10) := ⟨⟨by decide +kernel, by decide +kernel⟩, List.mem_of_getElem? (i := 410) (by decide +kernel), List.mem_of_getElem? (i := 868) (by decide +kernel), List.mem_of_getElem? (i := 869) (by decide +kernel)⟩
theorem lw_p15 : lw_okq (⟨"JobText$Reader", "goOnWithProperty", "()V"⟩, 10) := ⟨⟨by decide +kernel, by decide +kernel⟩, List.mem_of_getElem? (i := 410) (by decide +kernel), List.mem_of_getElem? (i := 880) (by decide +kernel), List.mem_of_getElem? (i := 881) (by decide +kernel)⟩
def lw_privs_1 : List (MethodName × Nat) := [(⟨"JobText$Words", "here", "()I"⟩, 13), (⟨"JobText$Words", "meetComment", "()V"⟩, 13), (⟨"JobText$Words", "lookAtName", "()V"⟩, 13), (⟨"JobText$Words", "lookAtNumber", "()V"⟩, 13), (⟨"JobText$Reader", "meetToken", "()V"⟩, 10), (⟨"JobText$Reader", "tellHere", "(I)V"⟩, 10), (⟨"JobText$Reader", "beginStatement", "()V"⟩, 10), (⟨"JobText$Reader", "goOnWithUse", "()V"⟩, 10), (⟨"JobText$Reader", "goOnWithLine", "()V"⟩, 10), (⟨"JobText$Reader", "beginSet", "()V"⟩, 10), (⟨"JobText$Reader", "beginLoop", "()V"⟩, 10), (⟨"JobText$Reader", "goOnWithOperator", "()V"⟩, 10), (⟨"JobText$Reader", "beginOperator", "()V"⟩, 10), (⟨"JobText$Reader", "tellKind", "(I)V"⟩, 10), (⟨"JobText$Reader", "addInput", "()V"⟩, 10), (⟨"JobText$Reader", "goOnWithProperty", "()V"⟩, 10)]
theorem lw_r1 : ∀ q ∈ lw_privs_1, lw_okq q := List.forall_mem_cons.mpr ⟨lw_p0, List.forall_mem_cons.mpr ⟨lw_p1, List.forall_mem_cons.mpr ⟨lw_p2, List.forall_mem_cons.mpr ⟨lw_p3, List.forall_mem_cons.mpr ⟨lw_p4, List.forall_mem_cons.mpr ⟨lw_p5, List.forall_mem_cons.mpr ⟨lw_p6, List.forall_mem_cons.mpr ⟨lw_p7, List.forall_mem_cons.mpr ⟨lw_p8, List.forall_mem_cons.mpr ⟨lw_p9, List.forall_mem_cons.mpr ⟨lw_p10, List.forall_mem_cons.mpr ⟨lw_p11, List.forall_mem_cons.mpr ⟨lw_p12, List.forall_mem_cons.mpr ⟨lw_p13, List.forall_mem_cons.mpr ⟨lw_p14, List.forall_mem_cons.mpr ⟨lw_p15, fun _ h => absurd h List.not_mem_nil⟩⟩⟩⟩⟩⟩⟩⟩⟩⟩⟩⟩⟩⟩⟩⟩
theorem lw_p16 : lw_okq (⟨"JobText$Reader", "boundedNumber", "(II)I"⟩, 10) := ⟨⟨by decide +kernel, by decide +kernel⟩, List.mem_of_getElem? (i := 410) (by decide +kernel), List.mem_of_getElem? (i := 884) (by decide +kernel), List.mem_of_getElem? (i := 885) (by decide +kernel)⟩
theorem lw_p17 : lw_okq (⟨"JobText$Reader", "addSide", "()V"⟩, 10) := ⟨⟨by decide +kernel, by decide +kernel⟩, List.mem_of_getElem? (i := 410) (by decide +kernel), List.mem_of_getElem? (i := 889) (by decide +kernel), List.mem_of_getElem? (i := 890) (by decide +kernel)⟩
theorem lw_p18 : lw_okq (⟨"JobText$Reader", "goOnBehind", "()V"⟩, 10) := ⟨⟨by decide +kernel, by decide +kernel⟩, List.mem_of_getElem? (i := 410) (by decide +kernel), List.mem_of_getElem? (i := 897) (by decide +kernel), List.mem_of_getElem? (i := 898) (by decide +kernel)⟩
theorem lw_p19 : lw_okq (⟨"JobText$Judge", "judgeOperator", "(LJobText$Job;LJobText$Operator;)V"⟩, 2) := ⟨⟨by decide +kernel, by decide +kernel⟩, List.mem_of_getElem? (i := 567) (by decide +kernel), List.mem_of_getElem? (i := 908) (by decide +kernel), List.mem_of_getElem? (i := 909) (by decide +kernel)⟩
theorem lw_p20 : lw_okq (⟨"JobText$Judge", "judgeInput", "(LJobText$Job;LJobText$Operator;LJobText$Input;)V"⟩, 2) := ⟨⟨by decide +kernel, by decide +kernel⟩, List.mem_of_getElem? (i := 567) (by decide +kernel), List.mem_of_getElem? (i := 912) (by decide +kernel), List.mem_of_getElem? (i := 913) (by decide +kernel)⟩
theorem lw_p21 : lw_okq (⟨"JobText$Judge", "judgeLoop", "(LJobText$Job;LJobText$Pair;)V"⟩, 2) := ⟨⟨by decide +kernel, by decide +kernel⟩, List.mem_of_getElem? (i := 567) (by decide +kernel), List.mem_of_getElem? (i := 923) (by decide +kernel), List.mem_of_getElem? (i := 924) (by decide +kernel)⟩
theorem lw_p22 : lw_okq (⟨"JobText$Judge", "findOrigins", "(LJobText$Job;)V"⟩, 2) := ⟨⟨by decide +kernel, by decide +kernel⟩, List.mem_of_getElem? (i := 567) (by decide +kernel), List.mem_of_getElem? (i := 927) (by decide +kernel), List.mem_of_getElem? (i := 928) (by decide +kernel)⟩
theorem lw_p23 : lw_okq (⟨"JobText$Judge", "comesFrom", "(II)Z"⟩, 2) := ⟨⟨by decide +kernel, by decide +kernel⟩, List.mem_of_getElem? (i := 567) (by decide +kernel), List.mem_of_getElem? (i := 931) (by decide +kernel), List.mem_of_getElem? (i := 932) (by decide +kernel)⟩
theorem lw_p24 : lw_okq (⟨"JobText$Judge", "judgeCycles", "(LJobText$Job;)V"⟩, 2) := ⟨⟨by decide +kernel, by decide +kernel⟩, List.mem_of_getElem? (i := 567) (by decide +kernel), List.mem_of_getElem? (i := 935) (by decide +kernel), List.mem_of_getElem? (i := 936) (by decide +kernel)⟩
theorem lw_p25 : lw_okq (⟨"JobText$Judge", "judgeLoopBack", "(LJobText$Pair;)V"⟩, 2) := ⟨⟨by decide +kernel, by decide +kernel⟩, List.mem_of_getElem? (i := 567) (by decide +kernel), List.mem_of_getElem? (i := 939) (by decide +kernel), List.mem_of_getElem? (i := 940) (by decide +kernel)⟩
theorem lw_p26 : lw_okq (⟨"JobText$Layout", "firstReady", "(LJobText$Job;)I"⟩, 15) := ⟨⟨by decide +kernel, by decide +kernel⟩, List.mem_of_getElem? (i := 261) (by decide +kernel), List.mem_of_getElem? (i := 947) (by decide +kernel), List.mem_of_getElem? (i := 948) (by decide +kernel)⟩
theorem lw_p27 : lw_okq (⟨"JobText$Layout", "inputsStand", "(LJobText$Operator;)Z"⟩, 15) := ⟨⟨by decide +kernel, by decide +kernel⟩, List.mem_of_getElem? (i := 261) (by decide +kernel), List.mem_of_getElem? (i := 951) (by decide +kernel), List.mem_of_getElem? (i := 952) (by decide +kernel)⟩
theorem lw_p28 : lw_okq (⟨"JobText$Layout", "levelOf", "(LJobText$Operator;)I"⟩, 15) := ⟨⟨by decide +kernel, by decide +kernel⟩, List.mem_of_getElem? (i := 261) (by decide +kernel), List.mem_of_getElem? (i := 955) (by decide +kernel), List.mem_of_getElem? (i := 956) (by decide +kernel)⟩
theorem lw_p29 : lw_okq (⟨"JobText$Layout", "keyOf", "(LJobText$Operator;)J"⟩, 15) := ⟨⟨by decide +kernel, by decide +kernel⟩, List.mem_of_getElem? (i := 261) (by decide +kernel), List.mem_of_getElem? (i := 960) (by decide +kernel), List.mem_of_getElem? (i := 961) (by decide +kernel)⟩
theorem lw_p30 : lw_okq (⟨"JobText$Judge", "judgeKeys", "(LJobText$Job;)V"⟩, 2) := ⟨⟨by decide +kernel, by decide +kernel⟩, List.mem_of_getElem? (i := 567) (by decide +kernel), List.mem_of_getElem? (i := 968) (by decide +kernel), List.mem_of_getElem? (i := 969) (by decide +kernel)⟩
theorem lw_p31 : lw_okq (⟨"JobText", "newNames", "(LJobText$Job;)I"⟩, 12) := ⟨⟨by decide +kernel, by decide +kernel⟩, List.mem_of_getElem? (i := 21) (by decide +kernel), List.mem_of_getElem? (i := 977) (by decide +kernel), List.mem_of_getElem? (i := 978) (by decide +kernel)⟩
def lw_privs_2 : List (MethodName × Nat) := [(⟨"JobText$Reader", "boundedNumber", "(II)I"⟩, 10), (⟨"JobText$Reader", "addSide", "()V"⟩, 10), (⟨"JobText$Reader", "goOnBehind", "()V"⟩, 10), (⟨"JobText$Judge", "judgeOperator", "(LJobText$Job;LJobText$Operator;)V"⟩, 2), (⟨"JobText$Judge", "judgeInput", "(LJobText$Job;LJobText$Operator;LJobText$Input;)V"⟩, 2), (⟨"JobText$Judge", "judgeLoop", "(LJobText$Job;LJobText$Pair;)V"⟩, 2), (⟨"JobText$Judge", "findOrigins", "(LJobText$Job;)V"⟩, 2), (⟨"JobText$Judge", "comesFrom", "(II)Z"⟩, 2), (⟨"JobText$Judge", "judgeCycles", "(LJobText$Job;)V"⟩, 2), (⟨"JobText$Judge", "judgeLoopBack", "(LJobText$Pair;)V"⟩, 2), (⟨"JobText$Layout", "firstReady", "(LJobText$Job;)I"⟩, 15), (⟨"JobText$Layout", "inputsStand", "(LJobText$Operator;)Z"⟩, 15), (⟨"JobText$Layout", "levelOf", "(LJobText$Operator;)I"⟩, 15), (⟨"JobText$Layout", "keyOf", "(LJobText$Operator;)J"⟩, 15), (⟨"JobText$Judge", "judgeKeys", "(LJobText$Job;)V"⟩, 2), (⟨"JobText", "newNames", "(LJobText$Job;)I"⟩, 12)]
theorem lw_r2 : ∀ q ∈ lw_privs_2, lw_okq q := List.forall_mem_cons.mpr ⟨lw_p16, List.forall_mem_cons.mpr ⟨lw_p17, List.forall_mem_cons.mpr ⟨lw_p18, List.forall_mem_cons.mpr ⟨lw_p19, List.forall_mem_cons.mpr ⟨lw_p20, List.forall_mem_cons.mpr ⟨lw_p21, List.forall_mem_cons.mpr ⟨lw_p22, List.forall_mem_cons.mpr ⟨lw_p23, List.forall_mem_cons.mpr ⟨lw_p24, List.forall_mem_cons.mpr ⟨lw_p25, List.forall_mem_cons.mpr ⟨lw_p26, List.forall_mem_cons.mpr ⟨lw_p27, List.forall_mem_cons.mpr ⟨lw_p28, List.forall_mem_cons.mpr ⟨lw_p29, List.forall_mem_cons.mpr ⟨lw_p30, List.forall_mem_cons.mpr ⟨lw_p31, fun _ h => absurd h List.not_mem_nil⟩⟩⟩⟩⟩⟩⟩⟩⟩⟩⟩⟩⟩⟩⟩⟩
theorem lw_p32 : lw_okq (⟨"JobText", "numberOf", "(J)I"⟩, 12) := ⟨⟨by decide +kernel, by decide +kernel⟩, List.mem_of_getElem? (i := 21) (by decide +kernel), List.mem_of_getElem? (i := 981) (by decide +kernel), List.mem_of_getElem? (i := 982) (by decide +kernel)⟩
theorem lw_p33 : lw_okq (⟨"JobText", "giveNumbers", "(LJobText$Job;)V"⟩, 12) := ⟨⟨by decide +kernel, by decide +kernel⟩, List.mem_of_getElem? (i := 21) (by decide +kernel), List.mem_of_getElem? (i := 985) (by decide +kernel), List.mem_of_getElem? (i := 986) (by decide +kernel)⟩
theorem lw_p34 : lw_okq (⟨"JobText$Layout", "reckonFlow", "(LJobText$Operator;I)V"⟩, 15) := ⟨⟨by decide +kernel, by decide +kernel⟩, List.mem_of_getElem? (i := 261) (by decide +kernel), List.mem_of_getElem? (i := 993) (by decide +kernel), List.mem_of_getElem? (i := 994) (by decide +kernel)⟩
theorem lw_p35 : lw_okq (⟨"JobText$Layout", "findWhatComes", "(LJobText$Operator;)V"⟩, 15) := ⟨⟨by decide +kernel, by decide +kernel⟩, List.mem_of_getElem? (i := 261) (by decide +kernel), List.mem_of_getElem? (i := 997) (by decide +kernel), List.mem_of_getElem? (i := 998) (by decide +kernel)⟩
theorem lw_p36 : lw_okq (⟨"JobText$Layout", "flowOf", "(LJobText$Input;)LJobText$Flow;"⟩, 15) := ⟨⟨by decide +kernel, by decide +kernel⟩, List.mem_of_getElem? (i := 261) (by decide +kernel), List.mem_of_getElem? (i := 1009) (by decide +kernel), List.mem_of_getElem? (i := 1010) (by decide +kernel)⟩
theorem lw_p37 : lw_okq (⟨"JobText$Layout", "countReaders", "(LJobText$Job;)V"⟩, 15) := ⟨⟨by decide +kernel, by decide +kernel⟩, List.mem_of_getElem? (i := 261) (by decide +kernel), List.mem_of_getElem? (i := 1031) (by decide +kernel), List.mem_of_getElem? (i := 1032) (by decide +kernel)⟩
theorem lw_p38 : lw_okq (⟨"JobText$Layout", "findChains", "(LJobText$Job;)V"⟩, 15) := ⟨⟨by decide +kernel, by decide +kernel⟩, List.mem_of_getElem? (i := 261) (by decide +kernel), List.mem_of_getElem? (i := 1035) (by decide +kernel), List.mem_of_getElem? (i := 1036) (by decide +kernel)⟩
theorem lw_p39 : lw_okq (⟨"JobText$Layout", "isFused", "(LJobText$Job;LJobText$Operator;)Z"⟩, 15) := ⟨⟨by decide +kernel, by decide +kernel⟩, List.mem_of_getElem? (i := 261) (by decide +kernel), List.mem_of_getElem? (i := 1039) (by decide +kernel), List.mem_of_getElem? (i := 1040) (by decide +kernel)⟩
theorem lw_p40 : lw_okq (⟨"JobText$Layout", "countChannels", "(LJobText$Job;)V"⟩, 15) := ⟨⟨by decide +kernel, by decide +kernel⟩, List.mem_of_getElem? (i := 261) (by decide +kernel), List.mem_of_getElem? (i := 1047) (by decide +kernel), List.mem_of_getElem? (i := 1048) (by decide +kernel)⟩
theorem lw_p41 : lw_okq (⟨"JobText$Layout", "channelsBetween", "(LJobText$Job;II)I"⟩, 15) := ⟨⟨by decide +kernel, by decide +kernel⟩, List.mem_of_getElem? (i := 261) (by decide +kernel), List.mem_of_getElem? (i := 1051) (by decide +kernel), List.mem_of_getElem? (i := 1052) (by decide +kernel)⟩
theorem lw_p42 : lw_okq (⟨"JobText", "putJob", "(I)V"⟩, 12) := ⟨⟨by decide +kernel, by decide +kernel⟩, List.mem_of_getElem? (i := 21) (by decide +kernel), List.mem_of_getElem? (i := 1055) (by decide +kernel), List.mem_of_getElem? (i := 1056) (by decide +kernel)⟩
theorem lw_p43 : lw_okq (⟨"JobText", "refusal", "(III)I"⟩, 12) := ⟨⟨by decide +kernel, by decide +kernel⟩, List.mem_of_getElem? (i := 21) (by decide +kernel), List.mem_of_getElem? (i := 1071) (by decide +kernel), List.mem_of_getElem? (i := 1072) (by decide +kernel)⟩
theorem lw_p44 : lw_okq (⟨"JobText", "operatorRefusal", "(IIII)I"⟩, 12) := ⟨⟨by decide +kernel, by decide +kernel⟩, List.mem_of_getElem? (i := 21) (by decide +kernel), List.mem_of_getElem? (i := 1083) (by decide +kernel), List.mem_of_getElem? (i := 1084) (by decide +kernel)⟩
theorem lw_p45 : lw_okq (⟨"JobText$Job", "printComment", "(LJobText$Bytes;I)V"⟩, 14) := ⟨⟨by decide +kernel, by decide +kernel⟩, List.mem_of_getElem? (i := 78) (by decide +kernel), List.mem_of_getElem? (i := 1136) (by decide +kernel), List.mem_of_getElem? (i := 1137) (by decide +kernel)⟩
theorem lw_p46 : lw_okq (⟨"JobText$Job", "printStatement", "(LJobText$Bytes;I)V"⟩, 14) := ⟨⟨by decide +kernel, by decide +kernel⟩, List.mem_of_getElem? (i := 78) (by decide +kernel), List.mem_of_getElem? (i := 1145) (by decide +kernel), List.mem_of_getElem? (i := 1146) (by decide +kernel)⟩
theorem lw_p47 : lw_okq (⟨"JobText$Operator", "kindWord", "()Ljava/lang/String;"⟩, 16) := ⟨⟨by decide +kernel, by decide +kernel⟩, List.mem_of_getElem? (i := 85) (by decide +kernel), List.mem_of_getElem? (i := 1168) (by decide +kernel), List.mem_of_getElem? (i := 1169) (by decide +kernel)⟩
def lw_privs_3 : List (MethodName × Nat) := [(⟨"JobText", "numberOf", "(J)I"⟩, 12), (⟨"JobText", "giveNumbers", "(LJobText$Job;)V"⟩, 12), (⟨"JobText$Layout", "reckonFlow", "(LJobText$Operator;I)V"⟩, 15), (⟨"JobText$Layout", "findWhatComes", "(LJobText$Operator;)V"⟩, 15), (⟨"JobText$Layout", "flowOf", "(LJobText$Input;)LJobText$Flow;"⟩, 15), (⟨"JobText$Layout", "countReaders", "(LJobText$Job;)V"⟩, 15), (⟨"JobText$Layout", "findChains", "(LJobText$Job;)V"⟩, 15), (⟨"JobText$Layout", "isFused", "(LJobText$Job;LJobText$Operator;)Z"⟩, 15), (⟨"JobText$Layout", "countChannels", "(LJobText$Job;)V"⟩, 15), (⟨"JobText$Layout", "channelsBetween", "(LJobText$Job;II)I"⟩, 15), (⟨"JobText", "putJob", "(I)V"⟩, 12), (⟨"JobText", "refusal", "(III)I"⟩, 12), (⟨"JobText", "operatorRefusal", "(IIII)I"⟩, 12), (⟨"JobText$Job", "printComment", "(LJobText$Bytes;I)V"⟩, 14), (⟨"JobText$Job", "printStatement", "(LJobText$Bytes;I)V"⟩, 14), (⟨"JobText$Operator", "kindWord", "()Ljava/lang/String;"⟩, 16)]
theorem lw_r3 : ∀ q ∈ lw_privs_3, lw_okq q := List.forall_mem_cons.mpr ⟨lw_p32, List.forall_mem_cons.mpr ⟨lw_p33, List.forall_mem_cons.mpr ⟨lw_p34, List.forall_mem_cons.mpr ⟨lw_p35, List.forall_mem_cons.mpr ⟨lw_p36, List.forall_mem_cons.mpr ⟨lw_p37, List.forall_mem_cons.mpr ⟨lw_p38, List.forall_mem_cons.mpr ⟨lw_p39, List.forall_mem_cons.mpr ⟨lw_p40, List.forall_mem_cons.mpr ⟨lw_p41, List.forall_mem_cons.mpr ⟨lw_p42, List.forall_mem_cons.mpr ⟨lw_p43, List.forall_mem_cons.mpr ⟨lw_p44, List.forall_mem_cons.mpr ⟨lw_p45, List.forall_mem_cons.mpr ⟨lw_p46, List.forall_mem_cons.mpr ⟨lw_p47, fun _ h => absurd h List.not_mem_nil⟩⟩⟩⟩⟩⟩⟩⟩⟩⟩⟩⟩⟩⟩⟩⟩
theorem lw_p48 : lw_okq (⟨"JobText$Operator", "printInputs", "(LJobText$Bytes;)V"⟩, 16) := ⟨⟨by decide +kernel, by decide +kernel⟩, List.mem_of_getElem? (i := 85) (by decide +kernel), List.mem_of_getElem? (i := 1181) (by decide +kernel), List.mem_of_getElem? (i := 1182) (by decide +kernel)⟩
theorem lw_p49 : lw_okq (⟨"JobText$Operator", "printSides", "(LJobText$Bytes;)V"⟩, 16) := ⟨⟨by decide +kernel, by decide +kernel⟩, List.mem_of_getElem? (i := 85) (by decide +kernel), List.mem_of_getElem? (i := 1199) (by decide +kernel), List.mem_of_getElem? (i := 1200) (by decide +kernel)⟩
theorem lw_p50 : lw_okq (⟨"JobText", "compareFirst", "()V"⟩, 12) := ⟨⟨by decide +kernel, by decide +kernel⟩, List.mem_of_getElem? (i := 21) (by decide +kernel), List.mem_of_getElem? (i := 1234) (by decide +kernel), List.mem_of_getElem? (i := 1235) (by decide +kernel)⟩
theorem lw_p51 : lw_okq (⟨"JobText", "addDifference", "(III)V"⟩, 12) := ⟨⟨by decide +kernel, by decide +kernel⟩, List.mem_of_getElem? (i := 21) (by decide +kernel), List.mem_of_getElem? (i := 1239) (by decide +kernel), List.mem_of_getElem? (i := 1240) (by decide +kernel)⟩
theorem lw_p52 : lw_okq (⟨"JobText$Operator", "hasInputsOf", "(LJobText$Operator;)Z"⟩, 16) := ⟨⟨by decide +kernel, by decide +kernel⟩, List.mem_of_getElem? (i := 85) (by decide +kernel), List.mem_of_getElem? (i := 1247) (by decide +kernel), List.mem_of_getElem? (i := 1248) (by decide +kernel)⟩
theorem lw_p53 : lw_okq (⟨"JobText$Operator", "hasSidesOf", "(LJobText$Operator;)Z"⟩, 16) := ⟨⟨by decide +kernel, by decide +kernel⟩, List.mem_of_getElem? (i := 85) (by decide +kernel), List.mem_of_getElem? (i := 1255) (by decide +kernel), List.mem_of_getElem? (i := 1256) (by decide +kernel)⟩
theorem lw_p54 : lw_okq (⟨"JobText", "findNew", "()V"⟩, 12) := ⟨⟨by decide +kernel, by decide +kernel⟩, List.mem_of_getElem? (i := 21) (by decide +kernel), List.mem_of_getElem? (i := 1259) (by decide +kernel), List.mem_of_getElem? (i := 1260) (by decide +kernel)⟩
theorem lw_p55 : lw_okq (⟨"JobTextModel", "readText", "(I)Z"⟩, 82) := ⟨⟨by decide +kernel, by decide +kernel⟩, List.mem_of_getElem? (i := 1275) (by decide +kernel), List.mem_of_getElem? (i := 1552) (by decide +kernel), List.mem_of_getElem? (i := 1553) (by decide +kernel)⟩
theorem lw_p56 : lw_okq (⟨"JobTextModel", "empty", "()V"⟩, 82) := ⟨⟨by decide +kernel, by decide +kernel⟩, List.mem_of_getElem? (i := 1275) (by decide +kernel), List.mem_of_getElem? (i := 1556) (by decide +kernel), List.mem_of_getElem? (i := 1557) (by decide +kernel)⟩
theorem lw_p57 : lw_okq (⟨"JobTextModel", "want", "(I)Z"⟩, 82) := ⟨⟨by decide +kernel, by decide +kernel⟩, List.mem_of_getElem? (i := 1275) (by decide +kernel), List.mem_of_getElem? (i := 1560) (by decide +kernel), List.mem_of_getElem? (i := 1561) (by decide +kernel)⟩
theorem lw_p58 : lw_okq (⟨"JobTextModel", "look", "()Z"⟩, 82) := ⟨⟨by decide +kernel, by decide +kernel⟩, List.mem_of_getElem? (i := 1275) (by decide +kernel), List.mem_of_getElem? (i := 1564) (by decide +kernel), List.mem_of_getElem? (i := 1565) (by decide +kernel)⟩
theorem lw_p59 : lw_okq (⟨"JobTextModel", "pass", "()Z"⟩, 82) := ⟨⟨by decide +kernel, by decide +kernel⟩, List.mem_of_getElem? (i := 1275) (by decide +kernel), List.mem_of_getElem? (i := 1568) (by decide +kernel), List.mem_of_getElem? (i := 1569) (by decide +kernel)⟩
theorem lw_p60 : lw_okq (⟨"JobTextModel", "byteAt", "(I)I"⟩, 82) := ⟨⟨by decide +kernel, by decide +kernel⟩, List.mem_of_getElem? (i := 1275) (by decide +kernel), List.mem_of_getElem? (i := 1572) (by decide +kernel), List.mem_of_getElem? (i := 1573) (by decide +kernel)⟩
theorem lw_p61 : lw_okq (⟨"JobTextModel", "keepComment", "(II)Z"⟩, 82) := ⟨⟨by decide +kernel, by decide +kernel⟩, List.mem_of_getElem? (i := 1275) (by decide +kernel), List.mem_of_getElem? (i := 1576) (by decide +kernel), List.mem_of_getElem? (i := 1577) (by decide +kernel)⟩
theorem lw_p62 : lw_okq (⟨"JobTextModel", "wrong", "(III)Z"⟩, 82) := ⟨⟨by decide +kernel, by decide +kernel⟩, List.mem_of_getElem? (i := 1275) (by decide +kernel), List.mem_of_getElem? (i := 1580) (by decide +kernel), List.mem_of_getElem? (i := 1581) (by decide +kernel)⟩
theorem lw_p63 : lw_okq (⟨"JobTextModel", "readUse", "()Z"⟩, 82) := ⟨⟨by decide +kernel, by decide +kernel⟩, List.mem_of_getElem? (i := 1275) (by decide +kernel), List.mem_of_getElem? (i := 1600) (by decide +kernel), List.mem_of_getElem? (i := 1601) (by decide +kernel)⟩
def lw_privs_4 : List (MethodName × Nat) := [(⟨"JobText$Operator", "printInputs", "(LJobText$Bytes;)V"⟩, 16), (⟨"JobText$Operator", "printSides", "(LJobText$Bytes;)V"⟩, 16), (⟨"JobText", "compareFirst", "()V"⟩, 12), (⟨"JobText", "addDifference", "(III)V"⟩, 12), (⟨"JobText$Operator", "hasInputsOf", "(LJobText$Operator;)Z"⟩, 16), (⟨"JobText$Operator", "hasSidesOf", "(LJobText$Operator;)Z"⟩, 16), (⟨"JobText", "findNew", "()V"⟩, 12), (⟨"JobTextModel", "readText", "(I)Z"⟩, 82), (⟨"JobTextModel", "empty", "()V"⟩, 82), (⟨"JobTextModel", "want", "(I)Z"⟩, 82), (⟨"JobTextModel", "look", "()Z"⟩, 82), (⟨"JobTextModel", "pass", "()Z"⟩, 82), (⟨"JobTextModel", "byteAt", "(I)I"⟩, 82), (⟨"JobTextModel", "keepComment", "(II)Z"⟩, 82), (⟨"JobTextModel", "wrong", "(III)Z"⟩, 82), (⟨"JobTextModel", "readUse", "()Z"⟩, 82)]
theorem lw_r4 : ∀ q ∈ lw_privs_4, lw_okq q := List.forall_mem_cons.mpr ⟨lw_p48, List.forall_mem_cons.mpr ⟨lw_p49, List.forall_mem_cons.mpr ⟨lw_p50, List.forall_mem_cons.mpr ⟨lw_p51, List.forall_mem_cons.mpr ⟨lw_p52, List.forall_mem_cons.mpr ⟨lw_p53, List.forall_mem_cons.mpr ⟨lw_p54, List.forall_mem_cons.mpr ⟨lw_p55, List.forall_mem_cons.mpr ⟨lw_p56, List.forall_mem_cons.mpr ⟨lw_p57, List.forall_mem_cons.mpr ⟨lw_p58, List.forall_mem_cons.mpr ⟨lw_p59, List.forall_mem_cons.mpr ⟨lw_p60, List.forall_mem_cons.mpr ⟨lw_p61, List.forall_mem_cons.mpr ⟨lw_p62, List.forall_mem_cons.mpr ⟨lw_p63, fun _ h => absurd h List.not_mem_nil⟩⟩⟩⟩⟩⟩⟩⟩⟩⟩⟩⟩⟩⟩⟩⟩
theorem lw_p64 : lw_okq (⟨"JobTextModel", "bounded", "(II)Z"⟩, 82) := ⟨⟨by decide +kernel, by decide +kernel⟩, List.mem_of_getElem? (i := 1275) (by decide +kernel), List.mem_of_getElem? (i := 1604) (by decide +kernel), List.mem_of_getElem? (i := 1605) (by decide +kernel)⟩
theorem lw_p65 : lw_okq (⟨"JobTextModel", "readSet", "()Z"⟩, 82) := ⟨⟨by decide +kernel, by decide +kernel⟩, List.mem_of_getElem? (i := 1275) (by decide +kernel), List.mem_of_getElem? (i := 1608) (by decide +kernel), List.mem_of_getElem? (i := 1609) (by decide +kernel)⟩
theorem lw_p66 : lw_okq (⟨"JobTextModel", "begin", "(II)V"⟩, 82) := ⟨⟨by decide +kernel, by decide +kernel⟩, List.mem_of_getElem? (i := 1275) (by decide +kernel), List.mem_of_getElem? (i := 1612) (by decide +kernel), List.mem_of_getElem? (i := 1613) (by decide +kernel)⟩
theorem lw_p67 : lw_okq (⟨"JobTextModel", "readLoop", "()Z"⟩, 82) := ⟨⟨by decide +kernel, by decide +kernel⟩, List.mem_of_getElem? (i := 1275) (by decide +kernel), List.mem_of_getElem? (i := 1616) (by decide +kernel), List.mem_of_getElem? (i := 1617) (by decide +kernel)⟩
theorem lw_p68 : lw_okq (⟨"JobTextModel", "readSource", "()Z"⟩, 82) := ⟨⟨by decide +kernel, by decide +kernel⟩, List.mem_of_getElem? (i := 1275) (by decide +kernel), List.mem_of_getElem? (i := 1621) (by decide +kernel), List.mem_of_getElem? (i := 1622) (by decide +kernel)⟩
theorem lw_p69 : lw_okq (⟨"JobTextModel", "readName", "()Z"⟩, 82) := ⟨⟨by decide +kernel, by decide +kernel⟩, List.mem_of_getElem? (i := 1275) (by decide +kernel), List.mem_of_getElem? (i := 1625) (by decide +kernel), List.mem_of_getElem? (i := 1626) (by decide +kernel)⟩
theorem lw_p70 : lw_okq (⟨"JobTextModel", "operatorOf", "(IJ)I"⟩, 82) := ⟨⟨by decide +kernel, by decide +kernel⟩, List.mem_of_getElem? (i := 1275) (by decide +kernel), List.mem_of_getElem? (i := 1629) (by decide +kernel), List.mem_of_getElem? (i := 1630) (by decide +kernel)⟩
theorem lw_p71 : lw_okq (⟨"JobTextModel", "readRest", "(IZ)Z"⟩, 82) := ⟨⟨by decide +kernel, by decide +kernel⟩, List.mem_of_getElem? (i := 1275) (by decide +kernel), List.mem_of_getElem? (i := 1633) (by decide +kernel), List.mem_of_getElem? (i := 1634) (by decide +kernel)⟩
theorem lw_p72 : lw_okq (⟨"JobTextModel", "readInputSide", "(I)Z"⟩, 82) := ⟨⟨by decide +kernel, by decide +kernel⟩, List.mem_of_getElem? (i := 1275) (by decide +kernel), List.mem_of_getElem? (i := 1646) (by decide +kernel), List.mem_of_getElem? (i := 1647) (by decide +kernel)⟩
theorem lw_p73 : lw_okq (⟨"JobTextModel", "readInput", "(I)Z"⟩, 82) := ⟨⟨by decide +kernel, by decide +kernel⟩, List.mem_of_getElem? (i := 1275) (by decide +kernel), List.mem_of_getElem? (i := 1650) (by decide +kernel), List.mem_of_getElem? (i := 1651) (by decide +kernel)⟩
theorem lw_p74 : lw_okq (⟨"JobTextModel", "readSide", "(I)Z"⟩, 82) := ⟨⟨by decide +kernel, by decide +kernel⟩, List.mem_of_getElem? (i := 1275) (by decide +kernel), List.mem_of_getElem? (i := 1654) (by decide +kernel), List.mem_of_getElem? (i := 1655) (by decide +kernel)⟩
theorem lw_p75 : lw_okq (⟨"JobTextModel", "readProperty", "(II)Z"⟩, 82) := ⟨⟨by decide +kernel, by decide +kernel⟩, List.mem_of_getElem? (i := 1275) (by decide +kernel), List.mem_of_getElem? (i := 1658) (by decide +kernel), List.mem_of_getElem? (i := 1659) (by decide +kernel)⟩
theorem lw_p76 : lw_okq (⟨"JobTextModel", "readNumber", "(II)Z"⟩, 82) := ⟨⟨by decide +kernel, by decide +kernel⟩, List.mem_of_getElem? (i := 1275) (by decide +kernel), List.mem_of_getElem? (i := 1662) (by decide +kernel), List.mem_of_getElem? (i := 1663) (by decide +kernel)⟩
theorem lw_p77 : lw_okq (⟨"JobTextModel", "readOperator", "()Z"⟩, 82) := ⟨⟨by decide +kernel, by decide +kernel⟩, List.mem_of_getElem? (i := 1275) (by decide +kernel), List.mem_of_getElem? (i := 1667) (by decide +kernel), List.mem_of_getElem? (i := 1668) (by decide +kernel)⟩
theorem lw_p78 : lw_okq (⟨"JobTextModel", "judge", "()Z"⟩, 82) := ⟨⟨by decide +kernel, by decide +kernel⟩, List.mem_of_getElem? (i := 1275) (by decide +kernel), List.mem_of_getElem? (i := 1672) (by decide +kernel), List.mem_of_getElem? (i := 1673) (by decide +kernel)⟩
theorem lw_p79 : lw_okq (⟨"JobTextModel", "judgeOperators", "()Z"⟩, 82) := ⟨⟨by decide +kernel, by decide +kernel⟩, List.mem_of_getElem? (i := 1275) (by decide +kernel), List.mem_of_getElem? (i := 1676) (by decide +kernel), List.mem_of_getElem? (i := 1677) (by decide +kernel)⟩
def lw_privs_5 : List (MethodName × Nat) := [(⟨"JobTextModel", "bounded", "(II)Z"⟩, 82), (⟨"JobTextModel", "readSet", "()Z"⟩, 82), (⟨"JobTextModel", "begin", "(II)V"⟩, 82), (⟨"JobTextModel", "readLoop", "()Z"⟩, 82), (⟨"JobTextModel", "readSource", "()Z"⟩, 82), (⟨"JobTextModel", "readName", "()Z"⟩, 82), (⟨"JobTextModel", "operatorOf", "(IJ)I"⟩, 82), (⟨"JobTextModel", "readRest", "(IZ)Z"⟩, 82), (⟨"JobTextModel", "readInputSide", "(I)Z"⟩, 82), (⟨"JobTextModel", "readInput", "(I)Z"⟩, 82), (⟨"JobTextModel", "readSide", "(I)Z"⟩, 82), (⟨"JobTextModel", "readProperty", "(II)Z"⟩, 82), (⟨"JobTextModel", "readNumber", "(II)Z"⟩, 82), (⟨"JobTextModel", "readOperator", "()Z"⟩, 82), (⟨"JobTextModel", "judge", "()Z"⟩, 82), (⟨"JobTextModel", "judgeOperators", "()Z"⟩, 82)]
theorem lw_r5 : ∀ q ∈ lw_privs_5, lw_okq q := List.forall_mem_cons.mpr ⟨lw_p64, List.forall_mem_cons.mpr ⟨lw_p65, List.forall_mem_cons.mpr ⟨lw_p66, List.forall_mem_cons.mpr ⟨lw_p67, List.forall_mem_cons.mpr ⟨lw_p68, List.forall_mem_cons.mpr ⟨lw_p69, List.forall_mem_cons.mpr ⟨lw_p70, List.forall_mem_cons.mpr ⟨lw_p71, List.forall_mem_cons.mpr ⟨lw_p72, List.forall_mem_cons.mpr ⟨lw_p73, List.forall_mem_cons.mpr ⟨lw_p74, List.forall_mem_cons.mpr ⟨lw_p75, List.forall_mem_cons.mpr ⟨lw_p76, List.forall_mem_cons.mpr ⟨lw_p77, List.forall_mem_cons.mpr ⟨lw_p78, List.forall_mem_cons.mpr ⟨lw_p79, fun _ h => absurd h List.not_mem_nil⟩⟩⟩⟩⟩⟩⟩⟩⟩⟩⟩⟩⟩⟩⟩⟩
theorem lw_p80 : lw_okq (⟨"JobTextModel", "judgeInput", "(I)Z"⟩, 82) := ⟨⟨by decide +kernel, by decide +kernel⟩, List.mem_of_getElem? (i := 1275) (by decide +kernel), List.mem_of_getElem? (i := 1680) (by decide +kernel), List.mem_of_getElem? (i := 1681) (by decide +kernel)⟩
theorem lw_p81 : lw_okq (⟨"JobTextModel", "sideOf", "(IJ)I"⟩, 82) := ⟨⟨by decide +kernel, by decide +kernel⟩, List.mem_of_getElem? (i := 1275) (by decide +kernel), List.mem_of_getElem? (i := 1684) (by decide +kernel), List.mem_of_getElem? (i := 1685) (by decide +kernel)⟩
theorem lw_p82 : lw_okq (⟨"JobTextModel", "judgeLoops", "()Z"⟩, 82) := ⟨⟨by decide +kernel, by decide +kernel⟩, List.mem_of_getElem? (i := 1275) (by decide +kernel), List.mem_of_getElem? (i := 1688) (by decide +kernel), List.mem_of_getElem? (i := 1689) (by decide +kernel)⟩
theorem lw_p83 : lw_okq (⟨"JobTextModel", "judgeRings", "()Z"⟩, 82) := ⟨⟨by decide +kernel, by decide +kernel⟩, List.mem_of_getElem? (i := 1275) (by decide +kernel), List.mem_of_getElem? (i := 1692) (by decide +kernel), List.mem_of_getElem? (i := 1693) (by decide +kernel)⟩
theorem lw_p84 : lw_okq (⟨"JobTextModel", "findComes", "()V"⟩, 82) := ⟨⟨by decide +kernel, by decide +kernel⟩, List.mem_of_getElem? (i := 1275) (by decide +kernel), List.mem_of_getElem? (i := 1696) (by decide +kernel), List.mem_of_getElem? (i := 1697) (by decide +kernel)⟩
theorem lw_p85 : lw_okq (⟨"JobTextModel", "layOut", "()V"⟩, 82) := ⟨⟨by decide +kernel, by decide +kernel⟩, List.mem_of_getElem? (i := 1275) (by decide +kernel), List.mem_of_getElem? (i := 1700) (by decide +kernel), List.mem_of_getElem? (i := 1701) (by decide +kernel)⟩
theorem lw_p86 : lw_okq (⟨"JobTextModel", "isReady", "(I)Z"⟩, 82) := ⟨⟨by decide +kernel, by decide +kernel⟩, List.mem_of_getElem? (i := 1275) (by decide +kernel), List.mem_of_getElem? (i := 1704) (by decide +kernel), List.mem_of_getElem? (i := 1705) (by decide +kernel)⟩
theorem lw_p87 : lw_okq (⟨"JobTextModel", "judgeKeys", "()Z"⟩, 82) := ⟨⟨by decide +kernel, by decide +kernel⟩, List.mem_of_getElem? (i := 1275) (by decide +kernel), List.mem_of_getElem? (i := 1708) (by decide +kernel), List.mem_of_getElem? (i := 1709) (by decide +kernel)⟩
theorem lw_p88 : lw_okq (⟨"JobTextModel", "keyedAt", "(II)J"⟩, 82) := ⟨⟨by decide +kernel, by decide +kernel⟩, List.mem_of_getElem? (i := 1275) (by decide +kernel), List.mem_of_getElem? (i := 1712) (by decide +kernel), List.mem_of_getElem? (i := 1713) (by decide +kernel)⟩
theorem lw_p89 : lw_okq (⟨"JobTextModel", "findKey", "(I)V"⟩, 82) := ⟨⟨by decide +kernel, by decide +kernel⟩, List.mem_of_getElem? (i := 1275) (by decide +kernel), List.mem_of_getElem? (i := 1716) (by decide +kernel), List.mem_of_getElem? (i := 1717) (by decide +kernel)⟩
theorem lw_p90 : lw_okq (⟨"JobTextModel", "findFlow", "(I)V"⟩, 82) := ⟨⟨by decide +kernel, by decide +kernel⟩, List.mem_of_getElem? (i := 1275) (by decide +kernel), List.mem_of_getElem? (i := 1720) (by decide +kernel), List.mem_of_getElem? (i := 1721) (by decide +kernel)⟩
theorem lw_p91 : lw_okq (⟨"JobTextModel", "comesTo", "(I)V"⟩, 82) := ⟨⟨by decide +kernel, by decide +kernel⟩, List.mem_of_getElem? (i := 1275) (by decide +kernel), List.mem_of_getElem? (i := 1724) (by decide +kernel), List.mem_of_getElem? (i := 1725) (by decide +kernel)⟩
theorem lw_p92 : lw_okq (⟨"JobTextModel", "big", "()V"⟩, 82) := ⟨⟨by decide +kernel, by decide +kernel⟩, List.mem_of_getElem? (i := 1275) (by decide +kernel), List.mem_of_getElem? (i := 1728) (by decide +kernel), List.mem_of_getElem? (i := 1729) (by decide +kernel)⟩
theorem lw_p93 : lw_okq (⟨"JobTextModel", "fraction", "(JJ)V"⟩, 82) := ⟨⟨by decide +kernel, by decide +kernel⟩, List.mem_of_getElem? (i := 1275) (by decide +kernel), List.mem_of_getElem? (i := 1733) (by decide +kernel), List.mem_of_getElem? (i := 1734) (by decide +kernel)⟩
theorem lw_p94 : lw_okq (⟨"JobTextModel", "findChains", "()V"⟩, 82) := ⟨⟨by decide +kernel, by decide +kernel⟩, List.mem_of_getElem? (i := 1275) (by decide +kernel), List.mem_of_getElem? (i := 1738) (by decide +kernel), List.mem_of_getElem? (i := 1739) (by decide +kernel)⟩
theorem lw_p95 : lw_okq (⟨"JobTextModel", "findFused", "(I)V"⟩, 82) := ⟨⟨by decide +kernel, by decide +kernel⟩, List.mem_of_getElem? (i := 1275) (by decide +kernel), List.mem_of_getElem? (i := 1742) (by decide +kernel), List.mem_of_getElem? (i := 1743) (by decide +kernel)⟩
def lw_privs_6 : List (MethodName × Nat) := [(⟨"JobTextModel", "judgeInput", "(I)Z"⟩, 82), (⟨"JobTextModel", "sideOf", "(IJ)I"⟩, 82), (⟨"JobTextModel", "judgeLoops", "()Z"⟩, 82), (⟨"JobTextModel", "judgeRings", "()Z"⟩, 82), (⟨"JobTextModel", "findComes", "()V"⟩, 82), (⟨"JobTextModel", "layOut", "()V"⟩, 82), (⟨"JobTextModel", "isReady", "(I)Z"⟩, 82), (⟨"JobTextModel", "judgeKeys", "()Z"⟩, 82), (⟨"JobTextModel", "keyedAt", "(II)J"⟩, 82), (⟨"JobTextModel", "findKey", "(I)V"⟩, 82), (⟨"JobTextModel", "findFlow", "(I)V"⟩, 82), (⟨"JobTextModel", "comesTo", "(I)V"⟩, 82), (⟨"JobTextModel", "big", "()V"⟩, 82), (⟨"JobTextModel", "fraction", "(JJ)V"⟩, 82), (⟨"JobTextModel", "findChains", "()V"⟩, 82), (⟨"JobTextModel", "findFused", "(I)V"⟩, 82)]
theorem lw_r6 : ∀ q ∈ lw_privs_6, lw_okq q := List.forall_mem_cons.mpr ⟨lw_p80, List.forall_mem_cons.mpr ⟨lw_p81, List.forall_mem_cons.mpr ⟨lw_p82, List.forall_mem_cons.mpr ⟨lw_p83, List.forall_mem_cons.mpr ⟨lw_p84, List.forall_mem_cons.mpr ⟨lw_p85, List.forall_mem_cons.mpr ⟨lw_p86, List.forall_mem_cons.mpr ⟨lw_p87, List.forall_mem_cons.mpr ⟨lw_p88, List.forall_mem_cons.mpr ⟨lw_p89, List.forall_mem_cons.mpr ⟨lw_p90, List.forall_mem_cons.mpr ⟨lw_p91, List.forall_mem_cons.mpr ⟨lw_p92, List.forall_mem_cons.mpr ⟨lw_p93, List.forall_mem_cons.mpr ⟨lw_p94, List.forall_mem_cons.mpr ⟨lw_p95, fun _ h => absurd h List.not_mem_nil⟩⟩⟩⟩⟩⟩⟩⟩⟩⟩⟩⟩⟩⟩⟩⟩
theorem lw_p96 : lw_okq (⟨"JobTextModel", "parOf", "(I)I"⟩, 82) := ⟨⟨by decide +kernel, by decide +kernel⟩, List.mem_of_getElem? (i := 1275) (by decide +kernel), List.mem_of_getElem? (i := 1746) (by decide +kernel), List.mem_of_getElem? (i := 1747) (by decide +kernel)⟩
theorem lw_p97 : lw_okq (⟨"JobTextModel", "readersOf", "(IIZ)I"⟩, 82) := ⟨⟨by decide +kernel, by decide +kernel⟩, List.mem_of_getElem? (i := 1275) (by decide +kernel), List.mem_of_getElem? (i := 1750) (by decide +kernel), List.mem_of_getElem? (i := 1751) (by decide +kernel)⟩
theorem lw_p98 : lw_okq (⟨"JobTextModel", "channelsOf", "(II)I"⟩, 82) := ⟨⟨by decide +kernel, by decide +kernel⟩, List.mem_of_getElem? (i := 1275) (by decide +kernel), List.mem_of_getElem? (i := 1754) (by decide +kernel), List.mem_of_getElem? (i := 1755) (by decide +kernel)⟩
theorem lw_p99 : lw_okq (⟨"JobTextModel", "numberOf", "(J)I"⟩, 82) := ⟨⟨by decide +kernel, by decide +kernel⟩, List.mem_of_getElem? (i := 1275) (by decide +kernel), List.mem_of_getElem? (i := 1758) (by decide +kernel), List.mem_of_getElem? (i := 1759) (by decide +kernel)⟩
theorem lw_p100 : lw_okq (⟨"JobTextModel", "keep", "(I)V"⟩, 82) := ⟨⟨by decide +kernel, by decide +kernel⟩, List.mem_of_getElem? (i := 1275) (by decide +kernel), List.mem_of_getElem? (i := 1762) (by decide +kernel), List.mem_of_getElem? (i := 1763) (by decide +kernel)⟩
theorem lw_p101 : lw_okq (⟨"JobTextModel", "keepOperator", "(II)V"⟩, 82) := ⟨⟨by decide +kernel, by decide +kernel⟩, List.mem_of_getElem? (i := 1275) (by decide +kernel), List.mem_of_getElem? (i := 1766) (by decide +kernel), List.mem_of_getElem? (i := 1767) (by decide +kernel)⟩
theorem lw_p102 : lw_okq (⟨"JobTextModel", "keepInputs", "(II)V"⟩, 82) := ⟨⟨by decide +kernel, by decide +kernel⟩, List.mem_of_getElem? (i := 1275) (by decide +kernel), List.mem_of_getElem? (i := 1770) (by decide +kernel), List.mem_of_getElem? (i := 1771) (by decide +kernel)⟩
theorem lw_p103 : lw_okq (⟨"JobTextModel", "against", "(IZ)I"⟩, 82) := ⟨⟨by decide +kernel, by decide +kernel⟩, List.mem_of_getElem? (i := 1275) (by decide +kernel), List.mem_of_getElem? (i := 1778) (by decide +kernel), List.mem_of_getElem? (i := 1779) (by decide +kernel)⟩
theorem lw_p104 : lw_okq (⟨"JobTextModel", "countOf", "([II)I"⟩, 82) := ⟨⟨by decide +kernel, by decide +kernel⟩, List.mem_of_getElem? (i := 1275) (by decide +kernel), List.mem_of_getElem? (i := 1794) (by decide +kernel), List.mem_of_getElem? (i := 1795) (by decide +kernel)⟩
theorem lw_p105 : lw_okq (⟨"JobTextModel", "againstOne", "(IZII)I"⟩, 82) := ⟨⟨by decide +kernel, by decide +kernel⟩, List.mem_of_getElem? (i := 1275) (by decide +kernel), List.mem_of_getElem? (i := 1798) (by decide +kernel), List.mem_of_getElem? (i := 1799) (by decide +kernel)⟩
theorem lw_p106 : lw_okq (⟨"JobTextModel", "putComments", "(II)V"⟩, 82) := ⟨⟨by decide +kernel, by decide +kernel⟩, List.mem_of_getElem? (i := 1275) (by decide +kernel), List.mem_of_getElem? (i := 1836) (by decide +kernel), List.mem_of_getElem? (i := 1837) (by decide +kernel)⟩
theorem lw_p107 : lw_okq (⟨"JobTextModel", "put", "(I)V"⟩, 82) := ⟨⟨by decide +kernel, by decide +kernel⟩, List.mem_of_getElem? (i := 1275) (by decide +kernel), List.mem_of_getElem? (i := 1840) (by decide +kernel), List.mem_of_getElem? (i := 1841) (by decide +kernel)⟩
theorem lw_p108 : lw_okq (⟨"JobTextModel", "putStatement", "(II)V"⟩, 82) := ⟨⟨by decide +kernel, by decide +kernel⟩, List.mem_of_getElem? (i := 1275) (by decide +kernel), List.mem_of_getElem? (i := 1844) (by decide +kernel), List.mem_of_getElem? (i := 1845) (by decide +kernel)⟩
theorem lw_p109 : lw_okq (⟨"JobTextModel", "putOperator", "(I)V"⟩, 82) := ⟨⟨by decide +kernel, by decide +kernel⟩, List.mem_of_getElem? (i := 1275) (by decide +kernel), List.mem_of_getElem? (i := 1848) (by decide +kernel), List.mem_of_getElem? (i := 1849) (by decide +kernel)⟩
theorem lw_p110 : lw_okq (⟨"JobTextModel", "putKey", "(I)V"⟩, 82) := ⟨⟨by decide +kernel, by decide +kernel⟩, List.mem_of_getElem? (i := 1275) (by decide +kernel), List.mem_of_getElem? (i := 1852) (by decide +kernel), List.mem_of_getElem? (i := 1853) (by decide +kernel)⟩
theorem lw_p111 : lw_okq (⟨"JobTextModel", "putName", "(J)V"⟩, 82) := ⟨⟨by decide +kernel, by decide +kernel⟩, List.mem_of_getElem? (i := 1275) (by decide +kernel), List.mem_of_getElem? (i := 1856) (by decide +kernel), List.mem_of_getElem? (i := 1857) (by decide +kernel)⟩
def lw_privs_7 : List (MethodName × Nat) := [(⟨"JobTextModel", "parOf", "(I)I"⟩, 82), (⟨"JobTextModel", "readersOf", "(IIZ)I"⟩, 82), (⟨"JobTextModel", "channelsOf", "(II)I"⟩, 82), (⟨"JobTextModel", "numberOf", "(J)I"⟩, 82), (⟨"JobTextModel", "keep", "(I)V"⟩, 82), (⟨"JobTextModel", "keepOperator", "(II)V"⟩, 82), (⟨"JobTextModel", "keepInputs", "(II)V"⟩, 82), (⟨"JobTextModel", "against", "(IZ)I"⟩, 82), (⟨"JobTextModel", "countOf", "([II)I"⟩, 82), (⟨"JobTextModel", "againstOne", "(IZII)I"⟩, 82), (⟨"JobTextModel", "putComments", "(II)V"⟩, 82), (⟨"JobTextModel", "put", "(I)V"⟩, 82), (⟨"JobTextModel", "putStatement", "(II)V"⟩, 82), (⟨"JobTextModel", "putOperator", "(I)V"⟩, 82), (⟨"JobTextModel", "putKey", "(I)V"⟩, 82), (⟨"JobTextModel", "putName", "(J)V"⟩, 82)]
theorem lw_r7 : ∀ q ∈ lw_privs_7, lw_okq q := List.forall_mem_cons.mpr ⟨lw_p96, List.forall_mem_cons.mpr ⟨lw_p97, List.forall_mem_cons.mpr ⟨lw_p98, List.forall_mem_cons.mpr ⟨lw_p99, List.forall_mem_cons.mpr ⟨lw_p100, List.forall_mem_cons.mpr ⟨lw_p101, List.forall_mem_cons.mpr ⟨lw_p102, List.forall_mem_cons.mpr ⟨lw_p103, List.forall_mem_cons.mpr ⟨lw_p104, List.forall_mem_cons.mpr ⟨lw_p105, List.forall_mem_cons.mpr ⟨lw_p106, List.forall_mem_cons.mpr ⟨lw_p107, List.forall_mem_cons.mpr ⟨lw_p108, List.forall_mem_cons.mpr ⟨lw_p109, List.forall_mem_cons.mpr ⟨lw_p110, List.forall_mem_cons.mpr ⟨lw_p111, fun _ h => absurd h List.not_mem_nil⟩⟩⟩⟩⟩⟩⟩⟩⟩⟩⟩⟩⟩⟩⟩⟩
theorem lw_p112 : lw_okq (⟨"JobTextModel", "putProperties", "(I)V"⟩, 82) := ⟨⟨by decide +kernel, by decide +kernel⟩, List.mem_of_getElem? (i := 1275) (by decide +kernel), List.mem_of_getElem? (i := 1860) (by decide +kernel), List.mem_of_getElem? (i := 1861) (by decide +kernel)⟩
theorem lw_p113 : lw_okq (⟨"JobTextModel", "putNumberProperty", "(II)V"⟩, 82) := ⟨⟨by decide +kernel, by decide +kernel⟩, List.mem_of_getElem? (i := 1275) (by decide +kernel), List.mem_of_getElem? (i := 1864) (by decide +kernel), List.mem_of_getElem? (i := 1865) (by decide +kernel)⟩
theorem lw_p114 : lw_okq (⟨"JobTextModel", "putNumber", "(I)V"⟩, 82) := ⟨⟨by decide +kernel, by decide +kernel⟩, List.mem_of_getElem? (i := 1275) (by decide +kernel), List.mem_of_getElem? (i := 1868) (by decide +kernel), List.mem_of_getElem? (i := 1869) (by decide +kernel)⟩
theorem lw_p115 : lw_okq (⟨"JobTextModel", "bitsOf", "(II)I"⟩, 82) := ⟨⟨by decide +kernel, by decide +kernel⟩, List.mem_of_getElem? (i := 1275) (by decide +kernel), List.mem_of_getElem? (i := 1884) (by decide +kernel), List.mem_of_getElem? (i := 1885) (by decide +kernel)⟩
theorem lw_p116 : lw_okq (⟨"JobTextModel", "haveLikeInputs", "(II)Z"⟩, 82) := ⟨⟨by decide +kernel, by decide +kernel⟩, List.mem_of_getElem? (i := 1275) (by decide +kernel), List.mem_of_getElem? (i := 1888) (by decide +kernel), List.mem_of_getElem? (i := 1889) (by decide +kernel)⟩
theorem lw_p117 : lw_okq (⟨"JobTextModel", "haveLikeSides", "(II)Z"⟩, 82) := ⟨⟨by decide +kernel, by decide +kernel⟩, List.mem_of_getElem? (i := 1275) (by decide +kernel), List.mem_of_getElem? (i := 1892) (by decide +kernel), List.mem_of_getElem? (i := 1893) (by decide +kernel)⟩
theorem lw_p118 : lw_okq (⟨"JobTextModel", "note", "(III)V"⟩, 82) := ⟨⟨by decide +kernel, by decide +kernel⟩, List.mem_of_getElem? (i := 1275) (by decide +kernel), List.mem_of_getElem? (i := 1896) (by decide +kernel), List.mem_of_getElem? (i := 1897) (by decide +kernel)⟩
def lw_privs_8 : List (MethodName × Nat) := [(⟨"JobTextModel", "putProperties", "(I)V"⟩, 82), (⟨"JobTextModel", "putNumberProperty", "(II)V"⟩, 82), (⟨"JobTextModel", "putNumber", "(I)V"⟩, 82), (⟨"JobTextModel", "bitsOf", "(II)I"⟩, 82), (⟨"JobTextModel", "haveLikeInputs", "(II)Z"⟩, 82), (⟨"JobTextModel", "haveLikeSides", "(II)Z"⟩, 82), (⟨"JobTextModel", "note", "(III)V"⟩, 82)]
theorem lw_r8 : ∀ q ∈ lw_privs_8, lw_okq q := List.forall_mem_cons.mpr ⟨lw_p112, List.forall_mem_cons.mpr ⟨lw_p113, List.forall_mem_cons.mpr ⟨lw_p114, List.forall_mem_cons.mpr ⟨lw_p115, List.forall_mem_cons.mpr ⟨lw_p116, List.forall_mem_cons.mpr ⟨lw_p117, List.forall_mem_cons.mpr ⟨lw_p118, fun _ h => absurd h List.not_mem_nil⟩⟩⟩⟩⟩⟩⟩
def lw_privs : List (MethodName × Nat) := lw_privs_1 ++ (lw_privs_2 ++ (lw_privs_3 ++ (lw_privs_4 ++ (lw_privs_5 ++ (lw_privs_6 ++ (lw_privs_7 ++ (lw_privs_8)))))))
def lw_tbl : List Cond := k2_sels lw_privs ++ tables_1
theorem lw_privs_ok : ∀ q ∈ lw_privs, lw_okq q := by
  show ∀ q ∈ lw_privs_1 ++ (lw_privs_2 ++ (lw_privs_3 ++ (lw_privs_4 ++ (lw_privs_5 ++ (lw_privs_6 ++ (lw_privs_7 ++ (lw_privs_8))))))), lw_okq q
  exact List.forall_mem_append.mpr ⟨lw_r1, List.forall_mem_append.mpr ⟨lw_r2, List.forall_mem_append.mpr ⟨lw_r3, List.forall_mem_append.mpr ⟨lw_r4, List.forall_mem_append.mpr ⟨lw_r5, List.forall_mem_append.mpr ⟨lw_r6, List.forall_mem_append.mpr ⟨lw_r7, lw_r8⟩⟩⟩⟩⟩⟩⟩
def RX0 : String := "JobText$Bytes"
def TX0 : u_T := fun k => match k with
  | 0 => ("JobText$Bytes", "row", "[B", true)
  | _ => ("JobText$Bytes", "size", "I", false)
def tyX0 : Nat → FieldType := fun k => match k with
  | 0 => .array .byte
  | _ => .int
abbrev wsX00 : List Cond := u_ws RX0 TX0 2
theorem nmX0 : ∀ a, a < 2 → ∀ b, b < 2 → a ≠ b → (TX0 a).2.1 ≠ (TX0 b).2.1 := by decide +kernel
theorem tyX0_ok : ∀ k, k < 2 → parseFieldDescriptor (TX0 k).2.2.1 = some (tyX0 k) := by decide +kernel
def RX1 : String := "JobText$Fault"
def TX1 : u_T := fun k => match k with
  | 0 => ("JobText$Fault", "what", "I", false)
  | 1 => ("JobText$Fault", "file", "I", false)
  | 2 => ("JobText$Fault", "place", "I", false)
  | _ => ("JobText$Fault", "expected", "I", false)
def tyX1 : Nat → FieldType := fun k => match k with
  | 0 => .int
  | 1 => .int
  | 2 => .int
  | _ => .int
abbrev wsX10 : List Cond := u_ws RX1 TX1 4
theorem nmX1 : ∀ a, a < 4 → ∀ b, b < 4 → a ≠ b → (TX1 a).2.1 ≠ (TX1 b).2.1 := by decide +kernel
theorem tyX1_ok : ∀ k, k < 4 → parseFieldDescriptor (TX1 k).2.2.1 = some (tyX1 k) := by decide +kernel
def RX2 : String := "JobText$Flow"
def TX2 : u_T := fun k => match k with
  | 0 => ("JobText$Flow", "upper", "J", false)
  | 1 => ("JobText$Flow", "lower", "J", false)
  | _ => ("JobText$Flow", "big", "Z", false)
def tyX2 : Nat → FieldType := fun k => match k with
  | 0 => .long
  | 1 => .long
  | _ => .boolean
abbrev wsX20 : List Cond := u_ws RX2 TX2 3
theorem nmX2 : ∀ a, a < 3 → ∀ b, b < 3 → a ≠ b → (TX2 a).2.1 ≠ (TX2 b).2.1 := by decide +kernel
theorem tyX2_ok : ∀ k, k < 3 → parseFieldDescriptor (TX2 k).2.2.1 = some (tyX2 k) := by decide +kernel
def RX3 : String := "JobText$Input"
def TX3 : u_T := fun k => match k with
  | 0 => ("JobText$Input", "name", "J", false)
  | 1 => ("JobText$Input", "place", "I", false)
  | 2 => ("JobText$Input", "sideName", "J", false)
  | 3 => ("JobText$Input", "sidePlace", "I", false)
  | 4 => ("JobText$Input", "from", "I", false)
  | _ => ("JobText$Input", "side", "I", false)
def tyX3 : Nat → FieldType := fun k => match k with
  | 0 => .long
  | 1 => .int
  | 2 => .long
  | 3 => .int
  | 4 => .int
  | _ => .int
abbrev wsX30 : List Cond := u_ws RX3 TX3 6
theorem nmX3 : ∀ a, a < 6 → ∀ b, b < 6 → a ≠ b → (TX3 a).2.1 ≠ (TX3 b).2.1 := by decide +kernel
theorem tyX3_ok : ∀ k, k < 6 → parseFieldDescriptor (TX3 k).2.2.1 = some (tyX3 k) := by decide +kernel
def RX4 : String := "JobText$Job"
def TX4 : u_T := fun k => match k with
  | 0 => ("JobText$Job", "isRead", "Z", false)
  | 1 => ("JobText$Job", "operators", "[LJobText$Operator;", true)
  | 2 => ("JobText$Job", "operatorCount", "I", false)
  | 3 => ("JobText$Job", "sets", "[LJobText$Pair;", true)
  | 4 => ("JobText$Job", "setCount", "I", false)
  | 5 => ("JobText$Job", "loops", "[LJobText$Pair;", true)
  | 6 => ("JobText$Job", "loopCount", "I", false)
  | 7 => ("JobText$Job", "comments", "[LJobText$Bytes;", true)
  | 8 => ("JobText$Job", "commentOwners", "[I", true)
  | 9 => ("JobText$Job", "commentCount", "I", false)
  | 10 => ("JobText$Job", "statementSorts", "[I", true)
  | 11 => ("JobText$Job", "statementRows", "[I", true)
  | 12 => ("JobText$Job", "statementCount", "I", false)
  | _ => ("JobText$Job", "layout", "LJobText$Layout;", true)
def tyX4 : Nat → FieldType := fun k => match k with
  | 0 => .boolean
  | 1 => .array (.object "JobText$Operator")
  | 2 => .int
  | 3 => .array (.object "JobText$Pair")
  | 4 => .int
  | 5 => .array (.object "JobText$Pair")
  | 6 => .int
  | 7 => .array (.object "JobText$Bytes")
  | 8 => .array .int
  | 9 => .int
  | 10 => .array .int
  | 11 => .array .int
  | 12 => .int
  | _ => .object "JobText$Layout"
abbrev wsX40 : List Cond := u_ws RX4 TX4 14
theorem nmX4 : ∀ a, a < 14 → ∀ b, b < 14 → a ≠ b → (TX4 a).2.1 ≠ (TX4 b).2.1 := by decide +kernel
theorem tyX4_ok : ∀ k, k < 14 → parseFieldDescriptor (TX4 k).2.2.1 = some (tyX4 k) := by decide +kernel
def RX5 : String := "JobText$Judge"
def TX5 : u_T := fun k => match k with
  | 0 => ("JobText$Judge", "fault", "LJobText$Fault;", true)
  | _ => ("JobText$Judge", "origins", "[J", true)
def tyX5 : Nat → FieldType := fun k => match k with
  | 0 => .object "JobText$Fault"
  | _ => .array .long
abbrev wsX50 : List Cond := u_ws RX5 TX5 2
theorem nmX5 : ∀ a, a < 2 → ∀ b, b < 2 → a ≠ b → (TX5 a).2.1 ≠ (TX5 b).2.1 := by decide +kernel
theorem tyX5_ok : ∀ k, k < 2 → parseFieldDescriptor (TX5 k).2.2.1 = some (tyX5 k) := by decide +kernel
def RX6 : String := "JobText$Layout"
def TX6 : u_T := fun k => match k with
  | 0 => ("JobText$Layout", "order", "[I", true)
  | 1 => ("JobText$Layout", "position", "[I", true)
  | 2 => ("JobText$Layout", "level", "[I", true)
  | 3 => ("JobText$Layout", "keyedBy", "[J", true)
  | 4 => ("JobText$Layout", "mainFlow", "[LJobText$Flow;", true)
  | 5 => ("JobText$Layout", "sideFlow", "[LJobText$Flow;", true)
  | 6 => ("JobText$Layout", "comes", "LJobText$Flow;", true)
  | 7 => ("JobText$Layout", "readers", "[I", true)
  | 8 => ("JobText$Layout", "mainReaders", "[I", true)
  | 9 => ("JobText$Layout", "fused", "[Z", true)
  | 10 => ("JobText$Layout", "chain", "[I", true)
  | 11 => ("JobText$Layout", "levels", "I", false)
  | 12 => ("JobText$Layout", "chains", "I", false)
  | 13 => ("JobText$Layout", "tasks", "I", false)
  | _ => ("JobText$Layout", "channels", "I", false)
def tyX6 : Nat → FieldType := fun k => match k with
  | 0 => .array .int
  | 1 => .array .int
  | 2 => .array .int
  | 3 => .array .long
  | 4 => .array (.object "JobText$Flow")
  | 5 => .array (.object "JobText$Flow")
  | 6 => .object "JobText$Flow"
  | 7 => .array .int
  | 8 => .array .int
  | 9 => .array .boolean
  | 10 => .array .int
  | 11 => .int
  | 12 => .int
  | 13 => .int
  | _ => .int
abbrev wsX60 : List Cond := u_ws RX6 TX6 15
theorem nmX6 : ∀ a, a < 15 → ∀ b, b < 15 → a ≠ b → (TX6 a).2.1 ≠ (TX6 b).2.1 := by decide +kernel
theorem tyX6_ok : ∀ k, k < 15 → parseFieldDescriptor (TX6 k).2.2.1 = some (tyX6 k) := by decide +kernel
def RX7 : String := "JobText$Operator"
def TX7 : u_T := fun k => match k with
  | 0 => ("JobText$Operator", "name", "J", false)
  | 1 => ("JobText$Operator", "kind", "I", false)
  | 2 => ("JobText$Operator", "par", "I", false)
  | 3 => ("JobText$Operator", "rate", "I", false)
  | 4 => ("JobText$Operator", "passUpper", "I", false)
  | 5 => ("JobText$Operator", "passLower", "I", false)
  | 6 => ("JobText$Operator", "key", "J", false)
  | 7 => ("JobText$Operator", "keep", "I", false)
  | 8 => ("JobText$Operator", "inputs", "[LJobText$Input;", true)
  | 9 => ("JobText$Operator", "inputCount", "I", false)
  | 10 => ("JobText$Operator", "sides", "[J", true)
  | 11 => ("JobText$Operator", "sideCount", "I", false)
  | 12 => ("JobText$Operator", "number", "I", false)
  | 13 => ("JobText$Operator", "file", "I", false)
  | 14 => ("JobText$Operator", "place", "I", false)
  | _ => ("JobText$Operator", "kindPlace", "I", false)
def tyX7 : Nat → FieldType := fun k => match k with
  | 0 => .long
  | 1 => .int
  | 2 => .int
  | 3 => .int
  | 4 => .int
  | 5 => .int
  | 6 => .long
  | 7 => .int
  | 8 => .array (.object "JobText$Input")
  | 9 => .int
  | 10 => .array .long
  | 11 => .int
  | 12 => .int
  | 13 => .int
  | 14 => .int
  | _ => .int
abbrev wsX70 : List Cond := u_ws RX7 TX7 16
theorem nmX7 : ∀ a, a < 16 → ∀ b, b < 16 → a ≠ b → (TX7 a).2.1 ≠ (TX7 b).2.1 := by decide +kernel
theorem tyX7_ok : ∀ k, k < 16 → parseFieldDescriptor (TX7 k).2.2.1 = some (tyX7 k) := by decide +kernel
def RX8 : String := "JobText$Pair"
def TX8 : u_T := fun k => match k with
  | 0 => ("JobText$Pair", "first", "J", false)
  | 1 => ("JobText$Pair", "second", "J", false)
  | 2 => ("JobText$Pair", "number", "I", false)
  | 3 => ("JobText$Pair", "file", "I", false)
  | 4 => ("JobText$Pair", "firstPlace", "I", false)
  | 5 => ("JobText$Pair", "secondPlace", "I", false)
  | 6 => ("JobText$Pair", "firstOperator", "I", false)
  | _ => ("JobText$Pair", "secondOperator", "I", false)
def tyX8 : Nat → FieldType := fun k => match k with
  | 0 => .long
  | 1 => .long
  | 2 => .int
  | 3 => .int
  | 4 => .int
  | 5 => .int
  | 6 => .int
  | _ => .int
abbrev wsX80 : List Cond := u_ws RX8 TX8 8
theorem nmX8 : ∀ a, a < 8 → ∀ b, b < 8 → a ≠ b → (TX8 a).2.1 ≠ (TX8 b).2.1 := by decide +kernel
theorem tyX8_ok : ∀ k, k < 8 → parseFieldDescriptor (TX8 k).2.2.1 = some (tyX8 k) := by decide +kernel
def RX9 : String := "JobText$Reader"
def TX9 : u_T := fun k => match k with
  | 0 => ("JobText$Reader", "words", "LJobText$Words;", true)
  | 1 => ("JobText$Reader", "fault", "LJobText$Fault;", true)
  | 2 => ("JobText$Reader", "job", "LJobText$Job;", false)
  | 3 => ("JobText$Reader", "state", "I", false)
  | 4 => ("JobText$Reader", "uses", "I", false)
  | 5 => ("JobText$Reader", "usePlace", "I", false)
  | 6 => ("JobText$Reader", "useFile", "I", false)
  | 7 => ("JobText$Reader", "operator", "LJobText$Operator;", false)
  | 8 => ("JobText$Reader", "line", "LJobText$Pair;", false)
  | _ => ("JobText$Reader", "propertiesLeft", "I", false)
def tyX9 : Nat → FieldType := fun k => match k with
  | 0 => .object "JobText$Words"
  | 1 => .object "JobText$Fault"
  | 2 => .object "JobText$Job"
  | 3 => .int
  | 4 => .int
  | 5 => .int
  | 6 => .int
  | 7 => .object "JobText$Operator"
  | 8 => .object "JobText$Pair"
  | _ => .int
abbrev wsX90 : List Cond := u_ws RX9 TX9 10
theorem nmX9 : ∀ a, a < 10 → ∀ b, b < 10 → a ≠ b → (TX9 a).2.1 ≠ (TX9 b).2.1 := by decide +kernel
theorem tyX9_ok : ∀ k, k < 10 → parseFieldDescriptor (TX9 k).2.2.1 = some (tyX9 k) := by decide +kernel
def RX10 : String := "JobText$Words"
def TX10 : u_T := fun k => match k with
  | 0 => ("JobText$Words", "keys", "[J", true)
  | 1 => ("JobText$Words", "files", "[LJobText$Bytes;", true)
  | 2 => ("JobText$Words", "fault", "LJobText$Fault;", true)
  | 3 => ("JobText$Words", "job", "LJobText$Job;", false)
  | 4 => ("JobText$Words", "openFiles", "[I", true)
  | 5 => ("JobText$Words", "openPlaces", "[I", true)
  | 6 => ("JobText$Words", "depth", "I", false)
  | 7 => ("JobText$Words", "next", "I", false)
  | 8 => ("JobText$Words", "thing", "I", false)
  | 9 => ("JobText$Words", "file", "I", false)
  | 10 => ("JobText$Words", "place", "I", false)
  | 11 => ("JobText$Words", "value", "I", false)
  | _ => ("JobText$Words", "name", "J", false)
def tyX10 : Nat → FieldType := fun k => match k with
  | 0 => .array .long
  | 1 => .array (.object "JobText$Bytes")
  | 2 => .object "JobText$Fault"
  | 3 => .object "JobText$Job"
  | 4 => .array .int
  | 5 => .array .int
  | 6 => .int
  | 7 => .int
  | 8 => .int
  | 9 => .int
  | 10 => .int
  | 11 => .int
  | _ => .long
abbrev wsX100 : List Cond := u_ws RX10 TX10 13
theorem nmX10 : ∀ a, a < 13 → ∀ b, b < 13 → a ≠ b → (TX10 a).2.1 ≠ (TX10 b).2.1 := by decide +kernel
theorem tyX10_ok : ∀ k, k < 13 → parseFieldDescriptor (TX10 k).2.2.1 = some (tyX10 k) := by decide +kernel
def RX11 : String := "JobText"
def TX11 : u_T := fun k => match k with
  | 0 => ("JobText", "tape", "LJobText$Bytes;", true)
  | 1 => ("JobText", "files", "[LJobText$Bytes;", true)
  | 2 => ("JobText", "page", "LJobText$Bytes;", true)
  | 3 => ("JobText", "jobs", "[LJobText$Job;", true)
  | 4 => ("JobText", "spare", "LJobText$Job;", false)
  | 5 => ("JobText", "latest", "LJobText$Fault;", true)
  | 6 => ("JobText", "reader", "LJobText$Reader;", true)
  | 7 => ("JobText", "judge", "LJobText$Judge;", true)
  | 8 => ("JobText", "numberNames", "[J", true)
  | 9 => ("JobText", "numberCount", "I", false)
  | 10 => ("JobText", "differences", "[I", true)
  | _ => ("JobText", "differenceCount", "I", false)
def tyX11 : Nat → FieldType := fun k => match k with
  | 0 => .object "JobText$Bytes"
  | 1 => .array (.object "JobText$Bytes")
  | 2 => .object "JobText$Bytes"
  | 3 => .array (.object "JobText$Job")
  | 4 => .object "JobText$Job"
  | 5 => .object "JobText$Fault"
  | 6 => .object "JobText$Reader"
  | 7 => .object "JobText$Judge"
  | 8 => .array .long
  | 9 => .int
  | 10 => .array .int
  | _ => .int
abbrev wsX110 : List Cond := u_ws RX11 TX11 12
theorem nmX11 : ∀ a, a < 12 → ∀ b, b < 12 → a ≠ b → (TX11 a).2.1 ≠ (TX11 b).2.1 := by decide +kernel
theorem tyX11_ok : ∀ k, k < 12 → parseFieldDescriptor (TX11 k).2.2.1 = some (tyX11 k) := by decide +kernel
def RX12 : String := "JobTextModel"
def TX12 : u_T := fun k => match k with
  | 0 => ("JobTextModel", "tape", "[I", true)
  | 1 => ("JobTextModel", "taped", "I", false)
  | 2 => ("JobTextModel", "files", "[I", true)
  | 3 => ("JobTextModel", "sizes", "[I", true)
  | 4 => ("JobTextModel", "thing", "I", false)
  | 5 => ("JobTextModel", "tokenName", "J", false)
  | 6 => ("JobTextModel", "tokenNumber", "I", false)
  | 7 => ("JobTextModel", "tokenFile", "I", false)
  | 8 => ("JobTextModel", "tokenPlace", "I", false)
  | 9 => ("JobTextModel", "depth", "I", false)
  | 10 => ("JobTextModel", "openFile", "[I", true)
  | 11 => ("JobTextModel", "openAt", "[I", true)
  | 12 => ("JobTextModel", "faulty", "I", false)
  | 13 => ("JobTextModel", "faultFile", "I", false)
  | 14 => ("JobTextModel", "faultPlace", "I", false)
  | 15 => ("JobTextModel", "expected", "I", false)
  | 16 => ("JobTextModel", "isRead", "[Z", true)
  | 17 => ("JobTextModel", "operators", "[I", true)
  | 18 => ("JobTextModel", "sets", "[I", true)
  | 19 => ("JobTextModel", "loops", "[I", true)
  | 20 => ("JobTextModel", "statements", "[I", true)
  | 21 => ("JobTextModel", "comments", "[I", true)
  | 22 => ("JobTextModel", "uses", "I", false)
  | 23 => ("JobTextModel", "names", "[J", true)
  | 24 => ("JobTextModel", "kinds", "[I", true)
  | 25 => ("JobTextModel", "pars", "[I", true)
  | 26 => ("JobTextModel", "rates", "[I", true)
  | 27 => ("JobTextModel", "passUp", "[I", true)
  | 28 => ("JobTextModel", "passDown", "[I", true)
  | 29 => ("JobTextModel", "keeps", "[I", true)
  | 30 => ("JobTextModel", "keys", "[J", true)
  | 31 => ("JobTextModel", "inputs", "[I", true)
  | 32 => ("JobTextModel", "sides", "[I", true)
  | 33 => ("JobTextModel", "fileOf", "[I", true)
  | 34 => ("JobTextModel", "placeOf", "[I", true)
  | 35 => ("JobTextModel", "kindFile", "[I", true)
  | 36 => ("JobTextModel", "kindPlace", "[I", true)
  | 37 => ("JobTextModel", "inName", "[J", true)
  | 38 => ("JobTextModel", "inSide", "[J", true)
  | 39 => ("JobTextModel", "inFile", "[I", true)
  | 40 => ("JobTextModel", "inPlace", "[I", true)
  | 41 => ("JobTextModel", "inSideFile", "[I", true)
  | 42 => ("JobTextModel", "inSidePlace", "[I", true)
  | 43 => ("JobTextModel", "inOf", "[I", true)
  | 44 => ("JobTextModel", "inWhich", "[I", true)
  | 45 => ("JobTextModel", "sideNames", "[J", true)
  | 46 => ("JobTextModel", "setNames", "[J", true)
  | 47 => ("JobTextModel", "setValues", "[J", true)
  | 48 => ("JobTextModel", "setNumbers", "[I", true)
  | 49 => ("JobTextModel", "setFile", "[I", true)
  | 50 => ("JobTextModel", "setPlace", "[I", true)
  | 51 => ("JobTextModel", "loopNames", "[J", true)
  | 52 => ("JobTextModel", "loopFile", "[I", true)
  | 53 => ("JobTextModel", "loopPlace", "[I", true)
  | 54 => ("JobTextModel", "loopOf", "[I", true)
  | 55 => ("JobTextModel", "what", "[I", true)
  | 56 => ("JobTextModel", "which", "[I", true)
  | 57 => ("JobTextModel", "commentOwner", "[I", true)
  | 58 => ("JobTextModel", "commentSize", "[I", true)
  | 59 => ("JobTextModel", "commentText", "[I", true)
  | 60 => ("JobTextModel", "levels", "[I", true)
  | 61 => ("JobTextModel", "layoutAt", "[I", true)
  | 62 => ("JobTextModel", "layout", "[I", true)
  | 63 => ("JobTextModel", "chains", "[I", true)
  | 64 => ("JobTextModel", "isFused", "[Z", true)
  | 65 => ("JobTextModel", "keyed", "[J", true)
  | 66 => ("JobTextModel", "flowUp", "[J", true)
  | 67 => ("JobTextModel", "flowDown", "[J", true)
  | 68 => ("JobTextModel", "sideUp", "[J", true)
  | 69 => ("JobTextModel", "sideDown", "[J", true)
  | 70 => ("JobTextModel", "chainCount", "[I", true)
  | 71 => ("JobTextModel", "tasks", "[I", true)
  | 72 => ("JobTextModel", "channels", "[I", true)
  | 73 => ("JobTextModel", "comes", "[Z", true)
  | 74 => ("JobTextModel", "up", "J", false)
  | 75 => ("JobTextModel", "down", "J", false)
  | 76 => ("JobTextModel", "numbers", "I", false)
  | 77 => ("JobTextModel", "numberNames", "[J", true)
  | 78 => ("JobTextModel", "out", "[I", true)
  | 79 => ("JobTextModel", "printed", "I", false)
  | 80 => ("JobTextModel", "differences", "I", false)
  | _ => ("JobTextModel", "differs", "[I", true)
def tyX12 : Nat → FieldType := fun k => match k with
  | 0 => .array .int
  | 1 => .int
  | 2 => .array .int
  | 3 => .array .int
  | 4 => .int
  | 5 => .long
  | 6 => .int
  | 7 => .int
  | 8 => .int
  | 9 => .int
  | 10 => .array .int
  | 11 => .array .int
  | 12 => .int
  | 13 => .int
  | 14 => .int
  | 15 => .int
  | 16 => .array .boolean
  | 17 => .array .int
  | 18 => .array .int
  | 19 => .array .int
  | 20 => .array .int
  | 21 => .array .int
  | 22 => .int
  | 23 => .array .long
  | 24 => .array .int
  | 25 => .array .int
  | 26 => .array .int
  | 27 => .array .int
  | 28 => .array .int
  | 29 => .array .int
  | 30 => .array .long
  | 31 => .array .int
  | 32 => .array .int
  | 33 => .array .int
  | 34 => .array .int
  | 35 => .array .int
  | 36 => .array .int
  | 37 => .array .long
  | 38 => .array .long
  | 39 => .array .int
  | 40 => .array .int
  | 41 => .array .int
  | 42 => .array .int
  | 43 => .array .int
  | 44 => .array .int
  | 45 => .array .long
  | 46 => .array .long
  | 47 => .array .long
  | 48 => .array .int
  | 49 => .array .int
  | 50 => .array .int
  | 51 => .array .long
  | 52 => .array .int
  | 53 => .array .int
  | 54 => .array .int
  | 55 => .array .int
  | 56 => .array .int
  | 57 => .array .int
  | 58 => .array .int
  | 59 => .array .int
  | 60 => .array .int
  | 61 => .array .int
  | 62 => .array .int
  | 63 => .array .int
  | 64 => .array .boolean
  | 65 => .array .long
  | 66 => .array .long
  | 67 => .array .long
  | 68 => .array .long
  | 69 => .array .long
  | 70 => .array .int
  | 71 => .array .int
  | 72 => .array .int
  | 73 => .array .boolean
  | 74 => .long
  | 75 => .long
  | 76 => .int
  | 77 => .array .long
  | 78 => .array .int
  | 79 => .int
  | 80 => .int
  | _ => .array .int
abbrev wsX120 : List Cond := u_ws RX12 TX12 82
theorem nmX12 : ∀ a, a < 82 → ∀ b, b < 82 → a ≠ b → (TX12 a).2.1 ≠ (TX12 b).2.1 := by decide +kernel
theorem tyX12_ok : ∀ k, k < 82 → parseFieldDescriptor (TX12 k).2.2.1 = some (tyX12 k) := by decide +kernel
end
section
/-- the tables' words that go down into every callee -/
def zTG : List Cond := lw_tbl.filter goodWord
theorem zTG_of {i : Nat} {w : Cond} (h : lw_tbl[i]? = some w) (hg : goodWord w = true) : w ∈ zTG := List.mem_filter.mpr ⟨List.mem_of_getElem? h, hg⟩
theorem zTG_good {w : Cond} (h : w ∈ zTG) : (w.onTables && w.keeps) = true ∨ ∃ ty, w = .arrayClass ty := good_of_word (List.mem_filter.mp h).2
theorem zTG_in : GoodIn zTG zTG := fun w h => ⟨h, zTG_good h⟩
/-- the classes whose objects the world holds -/
abbrev zcl : List vw_C := [(RX0, TX0, 2), (RX1, TX1, 4), (RX2, TX2, 3), (RX3, TX3, 6), (RX4, TX4, 14), (RX5, TX5, 2), (RX6, TX6, 15), (RX7, TX7, 16), (RX8, TX8, 8), (RX9, TX9, 10), (RX10, TX10, 13), (RX11, TX11, 12), (RX12, TX12, 82)]
theorem zcl_in : (zcl.all fun q => (u_ws q.1 q.2.1 q.2.2).all fun w => goodWord w && decide (w ∈ lw_tbl)) = true := by decide +kernel
theorem zcl_words {c : Nat} {q : vw_C} (h : zcl[c]? = some q) : ∀ w ∈ u_ws q.1 q.2.1 q.2.2, w ∈ zTG := by
  intro w hw
  have h1 := List.all_eq_true.mp zcl_in q (List.mem_of_getElem? h)
  have h2 := List.all_eq_true.mp h1 w hw
  simp only [Bool.and_eq_true, decide_eq_true_eq] at h2
  exact List.mem_filter.mpr ⟨h2.2, h2.1⟩
end
section
abbrev zR : Type := Nat × Nat × Nat
abbrev zV : Type := Int32 ⊕ Int64 ⊕ zR
abbrev zH : Type := (zR → Nat → Int32) × (zR → Nat → Int64) × (zR → Nat → Option zR)
abbrev zL : Type := List (Option zV)
/-- how many places j a kind has at i -/
def z_bds : List (List Nat) := [[1, 1, 1, 1, 1, 1, 1, 1, 1, 1, 1, 1, 1, 1, 1, 1, 1, 1, 1, 1, 1, 1, 1, 1, 1, 1], [1, 1, 1, 1, 1, 1, 1, 1, 1, 1, 1, 1, 1, 1, 1, 1, 1, 1, 1, 1, 1, 1, 1, 1, 1, 1], [1, 1], [1], [], [], [], [], [], [], [6, 1, 1, 40, 40, 40], [1], [40, 40, 40, 40, 40, 40, 1, 1, 1], [160, 160, 160, 4], [1, 1, 1], [1], [1, 1, 1], [40, 40, 40, 1], [16, 16, 16, 8, 8, 8, 1], [1], [1], [1], [1], [], [], [], [], [], [], [], [6, 1, 1, 40, 40, 40], [1], [1], [1, 1, 1], [40, 40, 40, 1], [40, 40, 40, 1], [1, 1, 1, 1, 1, 1], [1, 1, 1], [1, 1, 1], [1, 1, 1], [1, 1, 1], [1, 1, 1], [1, 1, 1], [1, 1, 1], [1, 1, 1], [1, 1, 1], [1, 1, 1], [1, 1, 1], [1, 1, 1], [1, 1, 1], [1, 1, 1], [1], [1], [1], [1], [1], [1], [], [], [], [], [], [], [], [], [], [], [], [], [], [], [], [], [], [], [], [], [], [], [], [], [], [], [], [], [], [], [], [], [], [], [], [], [], [], [], [], [], [], [], [1], [], [1], [1], [], [], [], [], [], [], [1], [1], [], [], [], [], [1], [1], [1], [1], [1], [1], [], [1], [1], [1], [1], [1], [1], [1], [1], [1], [1], [1], [1], [1], [1], [1], [1], [1], [1], [1], [1], [1], [1], [1], [1], [1], [1], [1], [1], [1], [1], [1], [1], [1], [1], [1], [1], [1], [1], [1], [1], [1], [1], [1], [1], [1], [1], [1], [1], [1], [1], [1], [], [], [], [1], [1], [], [], [1]]
def z_bd (k i : Nat) : Nat := (z_bds.getD k []).getD i 0
def z_vl (q : zR) : Prop := q.2.2 < z_bd q.1 q.2.1
def z_ats : List Nat := [99, 8, 9, 99, 99, 99, 99, 99, 99, 99, 99, 99, 99, 99, 99, 99, 99, 99, 99, 99, 99, 99, 99, 99, 99, 99, 99, 99, 99, 99, 2, 4, 5, 4, 4, 1, 4, 4, 0, 0, 0, 0, 0, 0, 1, 4, 4, 0, 0, 3, 0, 1, 0, 0, 1, 1, 0, 99, 99, 99, 99, 99, 99, 99, 99, 99, 99, 99, 99, 99, 99, 99, 99, 99, 99, 99, 99, 99, 99, 99, 99, 99, 99, 99, 99, 99, 99, 99, 99, 99, 99, 99, 99, 99, 99, 99, 99, 99, 99, 99, 0, 99, 0, 0, 99, 99, 99, 99, 99, 99, 0, 0, 99, 99, 99, 99, 3, 0, 0, 0, 0, 0, 99, 1, 0, 0, 0, 0, 0, 0, 1, 0, 0, 0, 0, 0, 0, 1, 1, 0, 0, 0, 0, 0, 0, 1, 1, 1, 0, 0, 0, 1, 0, 0, 0, 0, 0, 0, 0, 0, 0, 0, 0, 0, 3, 1, 1, 1, 1, 1, 0, 0, 0, 3, 99, 99, 99, 1, 0, 99, 99, 0]
def z_at (k : Nat) : Nat := z_ats.getD k 99
def z_t0s : List Nat := [99, 99, 99, 99, 99, 99, 99, 99, 99, 99, 99, 99, 99, 99, 99, 99, 99, 99, 99, 99, 99, 99, 99, 99, 99, 99, 99, 99, 99, 99, 2, 4, 5, 6, 7, 1, 8, 4, 0, 0, 0, 0, 0, 0, 1, 9, 9, 0, 0, 3, 0, 1, 0, 0, 1, 1, 0, 99, 99, 99, 99, 99, 99, 99, 99, 99, 99, 99, 99, 99, 99, 99, 99, 99, 99, 99, 99, 99, 99, 99, 99, 99, 99, 99, 99, 99, 99, 99, 99, 99, 99, 99, 99, 99, 99, 99, 99, 99, 99, 99, 0, 99, 0, 0, 99, 99, 99, 99, 99, 99, 0, 0, 99, 99, 99, 99, 3, 0, 0, 0, 0, 0, 99, 1, 0, 0, 0, 0, 0, 0, 1, 0, 0, 0, 0, 0, 0, 1, 1, 0, 0, 0, 0, 0, 0, 1, 1, 1, 0, 0, 0, 1, 0, 0, 0, 0, 0, 0, 0, 0, 0, 0, 0, 0, 3, 1, 1, 1, 1, 1, 0, 0, 0, 3, 99, 99, 99, 1, 0, 99, 99, 0]
def z_t0 (k : Nat) : Nat := z_t0s.getD k 99
def z_lns : List Nat := [0, 0, 0, 0, 0, 0, 0, 0, 0, 0, 0, 0, 0, 0, 0, 0, 0, 0, 0, 0, 0, 0, 0, 0, 0, 0, 0, 0, 0, 0, 0, 6, 2, 40, 4, 3, 0, 40, 40, 64, 64, 40, 40, 40, 40, 40, 40, 40, 40, 40, 40, 21, 6, 6, 40, 200, 240, 0, 0, 0, 0, 0, 0, 0, 0, 0, 0, 0, 0, 0, 0, 0, 0, 0, 0, 0, 0, 0, 0, 0, 0, 0, 0, 0, 0, 0, 0, 0, 0, 0, 0, 0, 0, 0, 0, 0, 0, 0, 0, 0, 1200, 0, 7200, 6, 0, 0, 0, 0, 0, 0, 8, 8, 0, 0, 0, 0, 3, 3, 3, 3, 3, 3, 0, 120, 120, 120, 120, 120, 120, 120, 120, 120, 120, 120, 120, 120, 120, 480, 480, 480, 480, 480, 480, 480, 480, 360, 48, 48, 48, 48, 48, 48, 48, 48, 48, 192, 192, 120, 120, 7200, 120, 120, 120, 120, 120, 120, 120, 120, 120, 120, 3, 3, 3, 1600, 0, 0, 0, 200, 16000, 0, 0, 240]
def z_sb : List (List Int32) := [[117, 115, 101, 32, 115, 101, 116, 32, 115, 111, 117, 114, 99, 101, 32, 111, 112, 32, 108, 111, 111, 112, 32, 102, 114, 111, 109, 32, 116, 111, 32, 112, 97, 114, 32, 114, 97, 116, 101, 32, 112, 97, 115, 115, 32, 107, 101, 121, 32, 107, 101, 101, 112, 32, 115, 105, 100, 101, 32, 109, 97, 112, 32, 102, 105, 108, 116, 101, 114, 32, 102, 108, 97, 116, 32, 115, 112, 97, 110, 32, 106, 111, 105, 110, 32, 117, 110, 105, 111, 110, 32, 102, 111, 108, 100, 32, 115, 105, 110, 107], [59, 44, 58, 46, 61, 47], [115, 111, 117, 114, 99, 101, 32], [111, 112, 32], [58, 32], [109, 97, 112], [102, 105, 108, 116, 101, 114], [102, 108, 97, 116], [115, 112, 97, 110], [106, 111, 105, 110], [117, 110, 105, 111, 110], [102, 111, 108, 100], [115, 105, 110, 107], [32, 102, 114, 111, 109, 32], [44, 32], [32, 112, 97, 114, 32], [32, 114, 97, 116, 101, 32], [32, 112, 97, 115, 115, 32], [32, 107, 101, 121, 32], [32, 107, 101, 101, 112, 32], [32, 115, 105, 100, 101, 32], [59, 10], [115, 101, 116, 32], [32, 61, 32], [108, 111, 111, 112, 32], [32, 116, 111, 32]]
def z_ci : List (List Int32) := [[16128, 2, 4, 1, 64, 3, 1, 32768, 1, 4, 1, 1, 16, 1069547520, 16384, 1, 1, 2, 2, 2, 128, 2, 1, 2, 1, 44, 12, 4, 12], [2818048, 2949120, 2949120, 2949120, 3473408, 3473408, 589824, 3473408, 65536]]
def z_rl (i : Nat) : Nat := if i < 2 then 1200 else if i = 2 then 9728 else 60
def z_ln (q : zR) : Nat := match q.1 with
  | 1 => (z_sb.getD q.2.1 []).length
  | 2 => if q.2.1 = 0 then 29 else 9
  | 30 => z_rl q.2.1
  | 36 => if q.2.1 < 3 then 16 else 8
  | k => z_lns.getD k 0
def z_tcs : List (List Nat) := [[2, 0], [0, 0, 0, 0], [1, 1, 5], [1, 0, 1, 0, 0, 0], [5, 2, 0, 2, 0, 2, 0, 2, 2, 0, 2, 2, 0, 2], [2, 2], [2, 2, 2, 2, 2, 2, 2, 2, 2, 2, 2, 0, 0, 0, 0], [1, 0, 0, 0, 0, 0, 1, 0, 2, 0, 2, 0, 0, 0, 0, 0], [1, 1, 0, 0, 0, 0, 0, 0], [2, 2, 3, 0, 0, 0, 0, 3, 3, 0], [2, 2, 2, 3, 2, 2, 0, 0, 0, 0, 0, 0, 1], [2, 2, 2, 2, 3, 2, 2, 2, 2, 0, 2, 0], [2, 0, 2, 2, 0, 1, 0, 0, 0, 0, 2, 2, 0, 0, 0, 0, 2, 2, 2, 2, 2, 2, 0, 2, 2, 2, 2, 2, 2, 2, 2, 2, 2, 2, 2, 2, 2, 2, 2, 2, 2, 2, 2, 2, 2, 2, 2, 2, 2, 2, 2, 2, 2, 2, 2, 2, 2, 2, 2, 2, 2, 2, 2, 2, 2, 2, 2, 2, 2, 2, 2, 2, 2, 2, 1, 1, 0, 2, 2, 0, 0, 2]]
def z_tc (kd k : Nat) : Nat := (z_tcs.getD (kd - 10) []).getD k 9
def z_nf (c : Nat) : Nat := (z_tcs.getD c []).length
/-- where a final field leads -/
def z_fr (q : zR) (k : Nat) : zR := match q.1 with
  | 10 => (30, q.2.1, q.2.2)
  | 14 => (match k with
    | 1 => (33, q.2.1, 0)
    | 3 => (36, q.2.1, 0)
    | 5 => (36, q.2.1 + 3, 0)
    | 7 => (37, q.2.1, 0)
    | 8 => (38, q.2.1, 0)
    | 10 => (39, q.2.1, 0)
    | 11 => (40, q.2.1, 0)
    | _ => (16, q.2.1, 0))
  | 15 => (match k with
    | 0 => (11, 0, 0)
    | _ => (54, 0, 0))
  | 16 => (match k with
    | 0 => (41, q.2.1, 0)
    | 1 => (42, q.2.1, 0)
    | 2 => (43, q.2.1, 0)
    | 3 => (44, q.2.1, 0)
    | 4 => (45, q.2.1, 0)
    | 5 => (46, q.2.1, 0)
    | 6 => (12, q.2.1 + 6, 0)
    | 7 => (47, q.2.1, 0)
    | 8 => (48, q.2.1, 0)
    | 9 => (49, q.2.1, 0)
    | _ => (50, q.2.1, 0))
  | 17 => (match k with
    | 8 => (34, q.2.1, q.2.2)
    | _ => (35, q.2.1, q.2.2))
  | 19 => (match k with
    | 0 => (20, 0, 0)
    | _ => (11, 0, 0))
  | 20 => (match k with
    | 0 => (51, 0, 0)
    | 1 => (31, 0, 0)
    | 2 => (11, 0, 0)
    | 4 => (52, 0, 0)
    | _ => (53, 0, 0))
  | 21 => (match k with
    | 0 => (10, 1, 0)
    | 1 => (31, 0, 0)
    | 2 => (10, 2, 0)
    | 3 => (32, 0, 0)
    | 5 => (11, 0, 0)
    | 6 => (19, 0, 0)
    | 7 => (15, 0, 0)
    | 8 => (55, 0, 0)
    | _ => (56, 0, 0))
  | _ => (100 + k, 0, 0)
/-- what an array of cells that never changes holds -/
def z_el (q : zR) (k : Nat) : zR := match q.1 with
  | 31 => (10, 0, k)
  | 33 => (17, q.2.1, k)
  | 34 => (13, q.2.1, 4 * q.2.2 + k)
  | 36 => (18, q.2.1, k)
  | 37 => (10, q.2.1 + 3, k)
  | 45 => (12, q.2.1, k)
  | _ => (12, q.2.1 + 3, k)
def z_cns : List String := ["JobText$Bytes", "JobText$Fault", "JobText$Flow", "JobText$Input", "JobText$Job", "JobText$Judge", "JobText$Layout", "JobText$Operator", "JobText$Pair", "JobText$Reader", "JobText$Words", "JobText", "JobTextModel", "java/lang/String", "java/lang/StringLatin1", "jdk/internal/util/Preconditions", "java/lang/Math"]
def z_cn (c : Nat) : String := z_cns.getD c ""
/-- a method: name, bytes, locals, answer, (own class, frames, locals of its room), (static, parameters), places of its words -/
abbrev zM : Type := MethodName × ByteArray × Nat × Option FieldType × (Nat × Nat × Nat) × (Bool × Nat) × (Nat × Nat × Nat × Nat)
def z_ms0 : List zM := [
  (⟨"java/lang/Math", "max", "(II)I"⟩, prog_16_method_65_code, 2, (some .int), (16, 1, 12), (true, 2), (156, 122, 155, 0)),
  (⟨"java/lang/String", "coder", "()B"⟩, prog_17_method_152_code, 1, (some .byte), (13, 1, 12), (false, 0), (548, 132, 546, 547)),
  (⟨"java/lang/String", "length", "()I"⟩, prog_17_method_54_code, 1, (some .int), (13, 2, 32), (false, 0), (544, 132, 542, 543)),
  (⟨"java/lang/String", "isLatin1", "()Z"⟩, prog_17_method_154_code, 1, (some .boolean), (13, 1, 12), (false, 0), (558, 132, 556, 557)),
  (⟨"jdk/internal/util/Preconditions", "checkIndex", "(IILjava/util/function/BiFunction;)I"⟩, prog_20_method_11_code, 3, (some .int), (15, 1, 12), (true, 3), (569, 134, 568, 0)),
  (⟨"java/lang/String", "checkIndex", "(II)V"⟩, prog_17_method_155_code, 2, none, (13, 2, 34), (true, 2), (564, 132, 563, 0)),
  (⟨"java/lang/StringLatin1", "charAt", "([BI)C"⟩, prog_18_method_2_code, 2, (some .char), (14, 3, 55), (true, 2), (561, 133, 560, 0)),
  (⟨"java/lang/String", "charAt", "(I)C"⟩, prog_17_method_56_code, 2, (some .char), (13, 4, 76), (false, 1), (554, 132, 552, 553)),
  (⟨"JobText", "isDigit", "(I)Z"⟩, prog_1_method_38_code, 1, (some .boolean), (11, 1, 12), (true, 1), (595, 120, 594, 0)),
  (⟨"JobText", "longerName", "(JI)J"⟩, prog_1_method_40_code, 3, (some .long), (11, 2, 32), (true, 2), (591, 120, 590, 0)),
  (⟨"JobText", "lowByte", "(JI)I"⟩, prog_1_method_35_code, 3, (some .int), (11, 1, 12), (true, 2), (741, 120, 740, 0)),
  (⟨"JobText", "isTextByte", "(I)Z"⟩, prog_1_method_36_code, 1, (some .boolean), (11, 1, 12), (true, 1), (744, 120, 743, 0)),
  (⟨"JobText$Bytes", "add", "(I)V"⟩, prog_2_method_4_code, 2, none, (0, 1, 12), (false, 1), (748, 121, 746, 747)),
  (⟨"JobText", "type", "(JI)I"⟩, prog_1_method_2_code, 5, (some .int), (11, 2, 34), (false, 2), (738, 120, 736, 737)),
  (⟨"JobText", "cut", "(I)I"⟩, prog_1_method_3_code, 2, (some .int), (11, 1, 12), (false, 1), (752, 120, 750, 751)),
  (⟨"JobText", "isFile", "(I)Z"⟩, prog_1_method_24_code, 1, (some .boolean), (11, 1, 12), (true, 1), (759, 120, 758, 0)),
  (⟨"JobText$Bytes", "clear", "()V"⟩, prog_2_method_2_code, 1, none, (0, 1, 12), (false, 0), (767, 121, 765, 766)),
  (⟨"JobText$Bytes", "at", "(I)I"⟩, prog_2_method_3_code, 2, (some .int), (0, 1, 12), (false, 1), (771, 121, 769, 770)),
  (⟨"JobText$Bytes", "become", "(LJobText$Bytes;II)V"⟩, prog_2_method_5_code, 5, none, (0, 2, 33), (false, 3), (763, 121, 761, 762)),
  (⟨"JobText", "file", "(I)I"⟩, prog_1_method_4_code, 2, (some .int), (11, 3, 57), (false, 1), (756, 120, 754, 755)),
  (⟨"JobText", "byteOf", "(II)I"⟩, prog_1_method_5_code, 3, (some .int), (11, 2, 33), (false, 2), (777, 120, 775, 776)),
  (⟨"JobText", "isJob", "(I)Z"⟩, prog_1_method_25_code, 1, (some .boolean), (11, 1, 12), (true, 1), (785, 120, 784, 0)),
  (⟨"JobText$Fault", "clear", "()V"⟩, prog_3_method_2_code, 1, none, (1, 1, 12), (false, 0), (789, 123, 787, 788)),
  (⟨"JobText$Job", "clear", "()V"⟩, prog_6_method_2_code, 1, none, (4, 1, 12), (false, 0), (797, 124, 795, 796)),
  (⟨"JobText$Words", "open", "(I)V"⟩, prog_12_method_3_code, 2, none, (10, 2, 32), (false, 1), (805, 131, 803, 804)),
  (⟨"JobText$Words", "begin", "(LJobText$Job;I)V"⟩, prog_12_method_2_code, 3, none, (10, 3, 53), (false, 2), (801, 131, 799, 800)),
  (⟨"JobText$Words", "here", "()I"⟩, prog_12_method_7_code, 1, (some .int), (10, 2, 33), (false, 0), (815, 131, 814, 0)),
  (⟨"JobText$Fault", "tell", "(III)V"⟩, prog_3_method_3_code, 4, none, (1, 1, 12), (false, 3), (824, 123, 822, 823)),
  (⟨"JobText$Job", "addComment", "(LJobText$Bytes;II)V"⟩, prog_6_method_5_code, 4, none, (4, 3, 57), (false, 3), (828, 124, 826, 827)),
  (⟨"JobText$Words", "meetComment", "()V"⟩, prog_12_method_9_code, 5, none, (10, 4, 80), (false, 0), (820, 131, 819, 1)),
  (⟨"JobText$Words", "skipToToken", "()V"⟩, prog_12_method_8_code, 3, none, (10, 5, 104), (false, 0), (811, 131, 809, 810)),
  (⟨"JobText", "isSmallLetter", "(I)Z"⟩, prog_1_method_37_code, 1, (some .boolean), (11, 1, 12), (true, 1), (836, 120, 835, 0)),
  (⟨"JobText", "isWordByte", "(I)Z"⟩, prog_1_method_39_code, 1, (some .boolean), (11, 2, 32), (true, 1), (843, 120, 842, 0)),
  (⟨"JobText$Words", "lookAtName", "()V"⟩, prog_12_method_10_code, 2, none, (10, 3, 54), (false, 0), (840, 131, 839, 2)),
  (⟨"JobText$Words", "lookAtNumber", "()V"⟩, prog_12_method_11_code, 4, none, (10, 3, 53), (false, 0), (849, 131, 848, 3)),
  (⟨"java/lang/StringLatin1", "canEncode", "(I)Z"⟩, prog_18_method_4_code, 1, (some .boolean), (14, 1, 12), (true, 1), (865, 133, 864, 0)),
  (⟨"java/lang/Math", "min", "(II)I"⟩, prog_16_method_69_code, 2, (some .int), (16, 1, 12), (true, 2), (869, 122, 868, 0)),
  (⟨"java/lang/StringLatin1", "indexOfChar", "([BIII)I"⟩, prog_18_method_23_code, 6, (some .int), (14, 1, 12), (true, 4), (872, 133, 871, 0)),
  (⟨"java/lang/StringLatin1", "indexOf", "([BIII)I"⟩, prog_18_method_22_code, 4, (some .int), (14, 2, 37), (true, 4), (862, 133, 861, 0)),
  (⟨"java/lang/String", "indexOf", "(II)I"⟩, prog_17_method_80_code, 3, (some .int), (13, 3, 60), (false, 2), (858, 132, 856, 857)),
  (⟨"java/lang/String", "indexOf", "(I)I"⟩, prog_17_method_79_code, 2, (some .int), (13, 4, 82), (false, 1), (854, 132, 852, 853)),
  (⟨"JobText$Words", "look", "()V"⟩, prog_12_method_6_code, 3, none, (10, 5, 103), (false, 0), (833, 131, 831, 832)),
  (⟨"JobText$Reader", "tellHere", "(I)V"⟩, prog_11_method_4_code, 2, none, (9, 2, 35), (false, 1), (917, 130, 916, 5)),
  (⟨"JobText$Words", "close", "()V"⟩, prog_12_method_4_code, 1, none, (10, 1, 12), (false, 0), (926, 131, 924, 925)),
  (⟨"JobText$Reader", "beginStatement", "()V"⟩, prog_11_method_5_code, 1, none, (9, 2, 32), (false, 0), (922, 130, 921, 6)),
  (⟨"JobText$Words", "isOpen", "(I)Z"⟩, prog_12_method_5_code, 3, (some .boolean), (10, 1, 12), (false, 1), (935, 131, 933, 934)),
  (⟨"JobText$Reader", "goOnWithUse", "()V"⟩, prog_11_method_6_code, 1, none, (9, 3, 56), (false, 0), (930, 130, 929, 7)),
  (⟨"JobText$Pair", "begin", "(LJobText$Words;)V"⟩, prog_10_method_2_code, 2, none, (8, 1, 12), (false, 1), (948, 127, 946, 947)),
  (⟨"JobText$Job", "noteStatement", "(II)V"⟩, prog_6_method_4_code, 4, none, (4, 1, 12), (false, 2), (952, 124, 950, 951)),
  (⟨"JobText$Reader", "beginSet", "()V"⟩, prog_11_method_8_code, 2, none, (9, 3, 56), (false, 0), (944, 130, 943, 9))]
def z_ms1 : List zM := [
  (⟨"JobText$Pair", "tellSecond", "(LJobText$Words;)V"⟩, prog_10_method_3_code, 2, none, (8, 1, 12), (false, 1), (956, 127, 954, 955)),
  (⟨"JobText$Reader", "beginLoop", "()V"⟩, prog_11_method_9_code, 1, none, (9, 3, 56), (false, 0), (960, 130, 959, 10)),
  (⟨"JobText$Reader", "goOnWithLine", "()V"⟩, prog_11_method_7_code, 1, none, (9, 4, 77), (false, 0), (940, 130, 939, 8)),
  (⟨"JobText$Job", "find", "(J)I"⟩, prog_6_method_3_code, 4, (some .int), (4, 1, 12), (false, 1), (972, 124, 970, 971)),
  (⟨"JobText$Operator", "begin", "(LJobText$Words;)V"⟩, prog_9_method_2_code, 2, none, (7, 1, 12), (false, 1), (976, 125, 974, 975)),
  (⟨"JobText$Reader", "beginOperator", "()V"⟩, prog_11_method_11_code, 1, none, (9, 3, 56), (false, 0), (968, 130, 967, 12)),
  (⟨"JobText$Reader", "tellKind", "(I)V"⟩, prog_11_method_13_code, 2, none, (9, 1, 12), (false, 1), (980, 130, 979, 13)),
  (⟨"JobText$Reader", "kindOf", "(I)I"⟩, prog_11_method_12_code, 2, (some .int), (9, 1, 12), (true, 1), (985, 130, 984, 0)),
  (⟨"JobText$Operator", "addInput", "(LJobText$Words;)V"⟩, prog_9_method_3_code, 3, none, (7, 1, 12), (false, 1), (993, 125, 991, 992)),
  (⟨"JobText$Reader", "addInput", "()V"⟩, prog_11_method_14_code, 1, none, (9, 3, 56), (false, 0), (989, 130, 988, 14)),
  (⟨"JobText$Operator", "tellInputSide", "(LJobText$Words;)V"⟩, prog_9_method_4_code, 2, none, (7, 1, 12), (false, 1), (997, 125, 995, 996)),
  (⟨"JobText$Reader", "goOnWithOperator", "()V"⟩, prog_11_method_10_code, 1, none, (9, 4, 76), (false, 0), (964, 130, 963, 11)),
  (⟨"JobText$Reader", "boundedNumber", "(II)I"⟩, prog_11_method_18_code, 3, (some .int), (9, 3, 56), (false, 2), (1005, 130, 1004, 16)),
  (⟨"JobText$Operator", "sideOf", "(J)I"⟩, prog_9_method_5_code, 4, (some .int), (7, 1, 12), (false, 1), (1014, 125, 1012, 1013)),
  (⟨"JobText$Reader", "addSide", "()V"⟩, prog_11_method_19_code, 1, none, (9, 3, 56), (false, 0), (1010, 130, 1009, 17)),
  (⟨"JobText$Reader", "goOnWithProperty", "()V"⟩, prog_11_method_17_code, 1, none, (9, 4, 78), (false, 0), (1001, 130, 1000, 15)),
  (⟨"JobText$Reader", "propertyState", "(I)I"⟩, prog_11_method_16_code, 1, (some .int), (9, 1, 12), (true, 1), (1021, 130, 1020, 0)),
  (⟨"JobText$Reader", "goOnBehind", "()V"⟩, prog_11_method_15_code, 1, none, (9, 2, 32), (false, 0), (1018, 130, 1017, 18)),
  (⟨"JobText$Reader", "meetToken", "()V"⟩, prog_11_method_3_code, 2, none, (9, 5, 98), (false, 0), (911, 130, 910, 4)),
  (⟨"JobText$Reader", "readText", "(LJobText$Job;I)V"⟩, prog_11_method_2_code, 4, none, (9, 6, 126), (false, 2), (793, 130, 791, 792)),
  (⟨"JobText$Judge", "judgeInput", "(LJobText$Job;LJobText$Operator;LJobText$Input;)V"⟩, prog_7_method_4_code, 5, none, (5, 2, 35), (false, 3), (1033, 136, 1032, 20)),
  (⟨"JobText$Operator", "hasWrongInputCount", "()Z"⟩, prog_9_method_8_code, 1, (some .boolean), (7, 1, 12), (false, 0), (1040, 125, 1038, 1039)),
  (⟨"JobText$Judge", "judgeOperator", "(LJobText$Job;LJobText$Operator;)V"⟩, prog_7_method_3_code, 4, none, (5, 3, 59), (false, 2), (1029, 136, 1028, 19)),
  (⟨"JobText$Judge", "judgeLoop", "(LJobText$Job;LJobText$Pair;)V"⟩, prog_7_method_5_code, 3, none, (5, 2, 35), (false, 2), (1044, 136, 1043, 21)),
  (⟨"JobText$Judge", "comesFrom", "(II)Z"⟩, prog_7_method_7_code, 3, (some .boolean), (5, 1, 12), (false, 2), (1052, 136, 1051, 23)),
  (⟨"JobText$Judge", "findOrigins", "(LJobText$Job;)V"⟩, prog_7_method_6_code, 5, none, (5, 2, 34), (false, 1), (1048, 136, 1047, 22)),
  (⟨"JobText$Judge", "judgeCycles", "(LJobText$Job;)V"⟩, prog_7_method_8_code, 3, none, (5, 2, 35), (false, 1), (1056, 136, 1055, 24)),
  (⟨"JobText$Judge", "judgeLoopBack", "(LJobText$Pair;)V"⟩, prog_7_method_9_code, 4, none, (5, 2, 35), (false, 1), (1060, 136, 1059, 25)),
  (⟨"JobText$Layout", "inputsStand", "(LJobText$Operator;)Z"⟩, prog_8_method_5_code, 3, (some .boolean), (6, 1, 12), (false, 1), (1072, 128, 1071, 27)),
  (⟨"JobText$Layout", "firstReady", "(LJobText$Job;)I"⟩, prog_8_method_4_code, 3, (some .int), (6, 2, 34), (false, 1), (1068, 128, 1067, 26)),
  (⟨"JobText$Layout", "levelOf", "(LJobText$Operator;)I"⟩, prog_8_method_6_code, 4, (some .int), (6, 2, 33), (false, 1), (1076, 128, 1075, 28)),
  (⟨"JobText$Layout", "commonKey", "(LJobText$Operator;)J"⟩, prog_8_method_8_code, 5, (some .long), (6, 1, 12), (false, 1), (1085, 128, 1083, 1084)),
  (⟨"JobText$Layout", "keyOf", "(LJobText$Operator;)J"⟩, prog_8_method_7_code, 2, (some .long), (6, 2, 36), (false, 1), (1081, 128, 1080, 29)),
  (⟨"JobText$Layout", "arrange", "(LJobText$Job;)V"⟩, prog_8_method_3_code, 4, none, (6, 3, 57), (false, 1), (1064, 128, 1062, 1063)),
  (⟨"JobText$Operator", "wantsKeyedInputs", "()Z"⟩, prog_9_method_7_code, 1, (some .boolean), (7, 1, 12), (false, 0), (1093, 125, 1091, 1092)),
  (⟨"JobText$Judge", "judgeKeys", "(LJobText$Job;)V"⟩, prog_7_method_10_code, 4, none, (5, 2, 36), (false, 1), (1089, 136, 1088, 30)),
  (⟨"JobText$Judge", "judgeText", "(LJobText$Job;)V"⟩, prog_7_method_2_code, 3, none, (5, 4, 82), (false, 1), (1025, 136, 1023, 1024)),
  (⟨"JobText", "numberOf", "(J)I"⟩, prog_1_method_29_code, 4, (some .int), (11, 1, 12), (false, 1), (1102, 120, 1101, 32)),
  (⟨"JobText", "newNames", "(LJobText$Job;)I"⟩, prog_1_method_30_code, 4, (some .int), (11, 2, 35), (false, 1), (1098, 120, 1097, 31)),
  (⟨"JobText", "giveNumbers", "(LJobText$Job;)V"⟩, prog_1_method_31_code, 5, none, (11, 2, 35), (false, 1), (1106, 120, 1105, 33)),
  (⟨"JobText$Flow", "commonDivisor", "(JJ)J"⟩, prog_4_method_7_code, 11, (some .long), (2, 1, 12), (true, 2), (1125, 129, 1124, 0)),
  (⟨"JobText$Flow", "put", "(JJ)V"⟩, prog_4_method_3_code, 7, none, (2, 2, 42), (false, 2), (1122, 129, 1120, 1121)),
  (⟨"JobText$Layout", "flowOf", "(LJobText$Input;)LJobText$Flow;"⟩, prog_8_method_12_code, 2, (some (.object "JobText$Flow")), (6, 1, 12), (false, 1), (1130, 128, 1129, 36)),
  (⟨"JobText$Flow", "become", "(LJobText$Flow;)V"⟩, prog_4_method_2_code, 2, none, (2, 1, 12), (false, 1), (1134, 129, 1132, 1133)),
  (⟨"JobText$Flow", "lessen", "(LJobText$Flow;)V"⟩, prog_4_method_6_code, 2, none, (2, 2, 33), (false, 1), (1138, 129, 1136, 1137)),
  (⟨"JobText$Flow", "add", "(LJobText$Flow;)V"⟩, prog_4_method_5_code, 2, none, (2, 3, 68), (false, 1), (1143, 129, 1141, 1142)),
  (⟨"JobText$Layout", "findWhatComes", "(LJobText$Operator;)V"⟩, prog_8_method_11_code, 3, none, (6, 4, 89), (false, 1), (1118, 128, 1117, 35)),
  (⟨"JobText$Flow", "multiply", "(II)V"⟩, prog_4_method_4_code, 3, none, (2, 3, 68), (false, 2), (1148, 129, 1146, 1147)),
  (⟨"JobText$Layout", "reckonFlow", "(LJobText$Operator;I)V"⟩, prog_8_method_10_code, 5, none, (6, 5, 111), (false, 2), (1114, 128, 1113, 34)),
  (⟨"JobText$Layout", "countReaders", "(LJobText$Job;)V"⟩, prog_8_method_13_code, 6, none, (6, 1, 12), (false, 1), (1152, 128, 1151, 37))]
def z_ms2 : List zM := [
  (⟨"JobText$Operator", "parOrOne", "()I"⟩, prog_9_method_6_code, 1, (some .int), (7, 1, 12), (false, 0), (1164, 125, 1162, 1163)),
  (⟨"JobText$Layout", "isFused", "(LJobText$Job;LJobText$Operator;)Z"⟩, prog_8_method_15_code, 5, (some .boolean), (6, 2, 32), (false, 2), (1160, 128, 1159, 39)),
  (⟨"JobText$Layout", "findChains", "(LJobText$Job;)V"⟩, prog_8_method_14_code, 5, none, (6, 3, 56), (false, 1), (1156, 128, 1155, 38)),
  (⟨"JobText$Layout", "channelsBetween", "(LJobText$Job;II)I"⟩, prog_8_method_17_code, 6, (some .int), (6, 2, 32), (false, 3), (1172, 128, 1171, 41)),
  (⟨"JobText$Layout", "countChannels", "(LJobText$Job;)V"⟩, prog_8_method_16_code, 4, none, (6, 3, 57), (false, 1), (1168, 128, 1167, 40)),
  (⟨"JobText$Layout", "reckon", "(LJobText$Job;)V"⟩, prog_8_method_9_code, 4, none, (6, 6, 135), (false, 1), (1110, 128, 1108, 1109)),
  (⟨"JobText", "putJob", "(I)V"⟩, prog_1_method_28_code, 3, none, (11, 1, 12), (false, 1), (1176, 120, 1175, 42)),
  (⟨"JobText", "read", "(II)I"⟩, prog_1_method_6_code, 3, (some .int), (11, 7, 158), (false, 2), (782, 120, 780, 781)),
  (⟨"JobText", "drop", "(I)I"⟩, prog_1_method_7_code, 2, (some .int), (11, 2, 32), (false, 1), (1180, 120, 1178, 1179)),
  (⟨"JobText", "fault", "(I)I"⟩, prog_1_method_8_code, 2, (some .int), (11, 1, 12), (false, 1), (1184, 120, 1182, 1183)),
  (⟨"JobText", "refusal", "(III)I"⟩, prog_1_method_26_code, 4, (some .int), (11, 2, 32), (false, 3), (1192, 120, 1191, 43)),
  (⟨"JobText$Job", "howMany", "(I)I"⟩, prog_6_method_6_code, 2, (some .int), (4, 1, 12), (false, 1), (1196, 124, 1194, 1195)),
  (⟨"JobText", "count", "(II)I"⟩, prog_1_method_9_code, 4, (some .int), (11, 3, 55), (false, 2), (1188, 120, 1186, 1187)),
  (⟨"JobText", "operatorRefusal", "(IIII)I"⟩, prog_1_method_27_code, 6, (some .int), (11, 3, 55), (false, 4), (1204, 120, 1203, 44)),
  (⟨"JobText$Layout", "laid", "(II)I"⟩, prog_8_method_2_code, 3, (some .int), (6, 1, 12), (false, 2), (1208, 128, 1206, 1207)),
  (⟨"JobText$Operator", "told", "(I)I"⟩, prog_9_method_9_code, 2, (some .int), (7, 1, 12), (false, 1), (1212, 125, 1210, 1211)),
  (⟨"JobText", "operator", "(III)I"⟩, prog_1_method_10_code, 5, (some .int), (11, 4, 80), (false, 3), (1200, 120, 1198, 1199)),
  (⟨"JobText", "nameLength", "(J)I"⟩, prog_1_method_41_code, 5, (some .int), (11, 1, 12), (true, 1), (1222, 120, 1221, 0)),
  (⟨"JobText", "nameByteFromEnd", "(JI)I"⟩, prog_1_method_43_code, 6, (some .int), (11, 1, 12), (true, 2), (1225, 120, 1224, 0)),
  (⟨"JobText", "nameByte", "(JI)I"⟩, prog_1_method_42_code, 4, (some .int), (11, 2, 37), (true, 2), (1219, 120, 1218, 0)),
  (⟨"JobText", "letter", "(IIII)I"⟩, prog_1_method_11_code, 7, (some .int), (11, 4, 80), (false, 4), (1216, 120, 1214, 1215)),
  (⟨"JobText", "input", "(IIII)I"⟩, prog_1_method_12_code, 7, (some .int), (11, 4, 80), (false, 4), (1229, 120, 1227, 1228)),
  (⟨"JobText", "flow", "(III)I"⟩, prog_1_method_13_code, 7, (some .int), (11, 4, 80), (false, 3), (1233, 120, 1231, 1232)),
  (⟨"JobText", "set", "(III)I"⟩, prog_1_method_14_code, 6, (some .int), (11, 3, 55), (false, 3), (1237, 120, 1235, 1236)),
  (⟨"JobText", "setLetter", "(IIZI)I"⟩, prog_1_method_15_code, 7, (some .int), (11, 3, 60), (false, 4), (1241, 120, 1239, 1240)),
  (⟨"JobText", "loop", "(III)I"⟩, prog_1_method_16_code, 6, (some .int), (11, 3, 55), (false, 3), (1245, 120, 1243, 1244)),
  (⟨"JobText$Bytes", "addBytes", "(LJobText$Bytes;)V"⟩, prog_2_method_6_code, 3, none, (0, 2, 33), (false, 1), (1262, 121, 1260, 1261)),
  (⟨"JobText$Job", "printComment", "(LJobText$Bytes;I)V"⟩, prog_6_method_8_code, 3, none, (4, 3, 55), (false, 2), (1257, 124, 1256, 45)),
  (⟨"JobText$Bytes", "addText", "(Ljava/lang/String;)V"⟩, prog_2_method_7_code, 3, none, (0, 5, 97), (false, 1), (1276, 121, 1274, 1275)),
  (⟨"JobText$Bytes", "addName", "(J)V"⟩, prog_2_method_8_code, 4, none, (0, 2, 37), (false, 1), (1282, 121, 1280, 1281)),
  (⟨"JobText$Operator", "kindWord", "()Ljava/lang/String;"⟩, prog_9_method_14_code, 1, (some (.object "java/lang/String")), (7, 1, 12), (false, 0), (1289, 125, 1288, 47)),
  (⟨"JobText$Operator", "printInputs", "(LJobText$Bytes;)V"⟩, prog_9_method_15_code, 3, none, (7, 6, 119), (false, 1), (1302, 125, 1301, 48)),
  (⟨"JobText$Bytes", "addNumber", "(I)V"⟩, prog_2_method_9_code, 3, none, (0, 2, 33), (false, 1), (1312, 121, 1310, 1311)),
  (⟨"JobText$Operator", "printNumber", "(LJobText$Bytes;Ljava/lang/String;I)V"⟩, prog_9_method_16_code, 3, none, (7, 6, 119), (true, 3), (1308, 125, 1307, 0)),
  (⟨"JobText$Operator", "printSides", "(LJobText$Bytes;)V"⟩, prog_9_method_17_code, 3, none, (7, 6, 119), (false, 1), (1320, 125, 1319, 49)),
  (⟨"JobText$Operator", "printTo", "(LJobText$Bytes;)V"⟩, prog_9_method_13_code, 2, none, (7, 7, 141), (false, 1), (1270, 125, 1268, 1269)),
  (⟨"JobText$Pair", "printSetTo", "(LJobText$Bytes;)V"⟩, prog_10_method_4_code, 2, none, (8, 6, 119), (false, 1), (1326, 127, 1324, 1325)),
  (⟨"JobText$Pair", "printLoopTo", "(LJobText$Bytes;)V"⟩, prog_10_method_5_code, 2, none, (8, 6, 119), (false, 1), (1336, 127, 1334, 1335)),
  (⟨"JobText$Job", "printStatement", "(LJobText$Bytes;I)V"⟩, prog_6_method_9_code, 4, none, (4, 8, 162), (false, 2), (1266, 124, 1265, 46)),
  (⟨"JobText$Job", "printTo", "(LJobText$Bytes;)V"⟩, prog_6_method_7_code, 4, none, (4, 9, 185), (false, 1), (1253, 124, 1251, 1252)),
  (⟨"JobText", "print", "(I)I"⟩, prog_1_method_17_code, 3, (some .int), (11, 10, 208), (false, 1), (1249, 120, 1247, 1248)),
  (⟨"JobText", "out", "(I)I"⟩, prog_1_method_18_code, 2, (some .int), (11, 2, 33), (false, 1), (1342, 120, 1340, 1341)),
  (⟨"JobText", "take", "()I"⟩, prog_1_method_19_code, 1, (some .int), (11, 3, 57), (false, 0), (1346, 120, 1344, 1345)),
  (⟨"JobText", "addDifference", "(III)V"⟩, prog_1_method_34_code, 5, none, (11, 1, 12), (false, 3), (1360, 120, 1359, 51)),
  (⟨"JobText$Input", "isLike", "(LJobText$Input;)Z"⟩, prog_5_method_2_code, 2, (some .boolean), (3, 1, 12), (false, 1), (1372, 126, 1370, 1371)),
  (⟨"JobText$Operator", "hasInputsOf", "(LJobText$Operator;)Z"⟩, prog_9_method_11_code, 3, (some .boolean), (7, 2, 33), (false, 1), (1368, 125, 1367, 52)),
  (⟨"JobText$Operator", "hasSidesOf", "(LJobText$Operator;)Z"⟩, prog_9_method_12_code, 3, (some .boolean), (7, 1, 12), (false, 1), (1376, 125, 1375, 53)),
  (⟨"JobText$Operator", "differenceBits", "(LJobText$Operator;)I"⟩, prog_9_method_10_code, 3, (some .int), (7, 3, 55), (false, 1), (1364, 125, 1362, 1363)),
  (⟨"JobText", "compareFirst", "()V"⟩, prog_1_method_32_code, 5, none, (11, 4, 77), (false, 0), (1355, 120, 1354, 50)),
  (⟨"JobText", "findNew", "()V"⟩, prog_1_method_33_code, 2, none, (11, 2, 36), (false, 0), (1380, 120, 1379, 54))]
def z_ms3 : List zM := [
  (⟨"JobText", "differ", "()I"⟩, prog_1_method_20_code, 1, (some .int), (11, 5, 101), (false, 0), (1351, 120, 1349, 1350)),
  (⟨"JobText", "difference", "(II)I"⟩, prog_1_method_21_code, 3, (some .int), (11, 1, 12), (false, 2), (1384, 120, 1382, 1383)),
  (⟨"JobText", "numbers", "()I"⟩, prog_1_method_22_code, 1, (some .int), (11, 1, 12), (false, 0), (1388, 120, 1386, 1387)),
  (⟨"JobText", "numbered", "(II)I"⟩, prog_1_method_23_code, 3, (some .int), (11, 3, 60), (false, 2), (1392, 120, 1390, 1391)),
  (⟨"JobTextModel", "in", "(III)Z"⟩, prog_14_method_2_code, 3, (some .boolean), (12, 1, 12), (true, 3), (1652, 137, 1651, 0)),
  (⟨"JobTextModel", "type", "(JI)I"⟩, prog_14_method_3_code, 6, (some .int), (12, 2, 34), (false, 2), (1649, 137, 1647, 1648)),
  (⟨"JobTextModel", "cut", "(I)I"⟩, prog_14_method_4_code, 2, (some .int), (12, 2, 34), (false, 1), (1657, 137, 1655, 1656)),
  (⟨"JobTextModel", "file", "(I)I"⟩, prog_14_method_5_code, 3, (some .int), (12, 2, 34), (false, 1), (1661, 137, 1659, 1660)),
  (⟨"JobTextModel", "byteOf", "(II)I"⟩, prog_14_method_6_code, 3, (some .int), (12, 2, 34), (false, 2), (1665, 137, 1663, 1664)),
  (⟨"JobTextModel", "empty", "()V"⟩, prog_14_method_21_code, 1, none, (12, 1, 12), (false, 0), (1677, 137, 1676, 56)),
  (⟨"JobTextModel", "byteAt", "(I)I"⟩, prog_14_method_12_code, 2, (some .int), (12, 1, 12), (false, 1), (1693, 137, 1692, 60)),
  (⟨"JobTextModel", "keepComment", "(II)Z"⟩, prog_14_method_17_code, 7, (some .boolean), (12, 2, 33), (false, 2), (1697, 137, 1696, 61)),
  (⟨"JobTextModel", "wrong", "(III)Z"⟩, prog_14_method_11_code, 4, (some .boolean), (12, 1, 12), (false, 3), (1701, 137, 1700, 62)),
  (⟨"JobTextModel", "pass", "()Z"⟩, prog_14_method_16_code, 4, (some .boolean), (12, 3, 59), (false, 0), (1689, 137, 1688, 59)),
  (⟨"JobTextModel", "isLetter", "(I)Z"⟩, prog_14_method_7_code, 1, (some .boolean), (12, 2, 34), (true, 1), (1704, 137, 1703, 0)),
  (⟨"JobTextModel", "isDigit", "(I)Z"⟩, prog_14_method_8_code, 1, (some .boolean), (12, 2, 34), (true, 1), (1707, 137, 1706, 0)),
  (⟨"JobTextModel", "word", "(IIIIII)J"⟩, prog_14_method_14_code, 8, (some .long), (12, 1, 12), (true, 6), (1717, 137, 1716, 0)),
  (⟨"JobTextModel", "keyName", "(I)J"⟩, prog_14_method_15_code, 1, (some .long), (12, 2, 39), (true, 1), (1714, 137, 1713, 0)),
  (⟨"JobTextModel", "keyOf", "(J)I"⟩, prog_14_method_13_code, 3, (some .int), (12, 3, 59), (true, 1), (1711, 137, 1710, 0)),
  (⟨"JobTextModel", "look", "()Z"⟩, prog_14_method_18_code, 7, (some .boolean), (12, 4, 82), (false, 0), (1685, 137, 1684, 58)),
  (⟨"JobTextModel", "want", "(I)Z"⟩, prog_14_method_19_code, 2, (some .boolean), (12, 5, 108), (false, 1), (1681, 137, 1680, 57)),
  (⟨"JobTextModel", "bounded", "(II)Z"⟩, prog_14_method_20_code, 3, (some .boolean), (12, 2, 35), (false, 2), (1725, 137, 1724, 64)),
  (⟨"JobTextModel", "readUse", "()Z"⟩, prog_14_method_24_code, 5, (some .boolean), (12, 6, 129), (false, 0), (1721, 137, 1720, 63)),
  (⟨"JobTextModel", "begin", "(II)V"⟩, prog_14_method_22_code, 3, none, (12, 1, 12), (false, 2), (1733, 137, 1732, 66)),
  (⟨"JobTextModel", "readSet", "()Z"⟩, prog_14_method_25_code, 2, (some .boolean), (12, 6, 129), (false, 0), (1729, 137, 1728, 65)),
  (⟨"JobTextModel", "readLoop", "()Z"⟩, prog_14_method_26_code, 3, (some .boolean), (12, 6, 129), (false, 0), (1737, 137, 1736, 67)),
  (⟨"JobTextModel", "operatorOf", "(IJ)I"⟩, prog_14_method_23_code, 5, (some .int), (12, 1, 12), (false, 2), (1750, 137, 1749, 70)),
  (⟨"JobTextModel", "readName", "()Z"⟩, prog_14_method_27_code, 2, (some .boolean), (12, 6, 129), (false, 0), (1746, 137, 1745, 69)),
  (⟨"JobTextModel", "mayHave", "(I)I"⟩, prog_14_method_31_code, 2, (some .int), (12, 1, 12), (true, 1), (1757, 137, 1756, 0)),
  (⟨"JobTextModel", "readInputSide", "(I)Z"⟩, prog_14_method_29_code, 3, (some .boolean), (12, 6, 129), (false, 1), (1767, 137, 1766, 72)),
  (⟨"JobTextModel", "readInput", "(I)Z"⟩, prog_14_method_28_code, 3, (some .boolean), (12, 6, 129), (false, 1), (1771, 137, 1770, 73)),
  (⟨"JobTextModel", "readSide", "(I)Z"⟩, prog_14_method_30_code, 3, (some .boolean), (12, 6, 129), (false, 1), (1775, 137, 1774, 74)),
  (⟨"JobTextModel", "readNumber", "(II)Z"⟩, prog_14_method_32_code, 3, (some .boolean), (12, 6, 129), (false, 2), (1783, 137, 1782, 76)),
  (⟨"JobTextModel", "readProperty", "(II)Z"⟩, prog_14_method_33_code, 4, (some .boolean), (12, 7, 151), (false, 2), (1779, 137, 1778, 75)),
  (⟨"JobTextModel", "readRest", "(IZ)Z"⟩, prog_14_method_34_code, 9, (some .boolean), (12, 8, 174), (false, 2), (1754, 137, 1753, 71)),
  (⟨"JobTextModel", "readSource", "()Z"⟩, prog_14_method_35_code, 2, (some .boolean), (12, 9, 202), (false, 0), (1742, 137, 1741, 68)),
  (⟨"JobTextModel", "readOperator", "()Z"⟩, prog_14_method_36_code, 2, (some .boolean), (12, 9, 202), (false, 0), (1788, 137, 1787, 77)),
  (⟨"JobTextModel", "readText", "(I)Z"⟩, prog_14_method_37_code, 3, (some .boolean), (12, 10, 223), (false, 1), (1673, 137, 1672, 55)),
  (⟨"JobTextModel", "sideOf", "(IJ)I"⟩, prog_14_method_38_code, 5, (some .int), (12, 1, 12), (false, 2), (1805, 137, 1804, 81)),
  (⟨"JobTextModel", "judgeInput", "(I)Z"⟩, prog_14_method_39_code, 3, (some .boolean), (12, 2, 36), (false, 1), (1801, 137, 1800, 80)),
  (⟨"JobTextModel", "judgeOperators", "()Z"⟩, prog_14_method_40_code, 4, (some .boolean), (12, 3, 58), (false, 0), (1797, 137, 1796, 79)),
  (⟨"JobTextModel", "judgeLoops", "()Z"⟩, prog_14_method_41_code, 4, (some .boolean), (12, 2, 36), (false, 0), (1809, 137, 1808, 82)),
  (⟨"JobTextModel", "findComes", "()V"⟩, prog_14_method_42_code, 5, none, (12, 1, 12), (false, 0), (1817, 137, 1816, 84)),
  (⟨"JobTextModel", "judgeRings", "()Z"⟩, prog_14_method_43_code, 3, (some .boolean), (12, 2, 36), (false, 0), (1813, 137, 1812, 83)),
  (⟨"JobTextModel", "isReady", "(I)Z"⟩, prog_14_method_45_code, 4, (some .boolean), (12, 1, 12), (false, 1), (1825, 137, 1824, 86)),
  (⟨"JobTextModel", "layOut", "()V"⟩, prog_14_method_44_code, 7, none, (12, 2, 35), (false, 0), (1821, 137, 1820, 85)),
  (⟨"JobTextModel", "keyedAt", "(II)J"⟩, prog_14_method_46_code, 3, (some .long), (12, 1, 12), (false, 2), (1833, 137, 1832, 88)),
  (⟨"JobTextModel", "findKey", "(I)V"⟩, prog_14_method_47_code, 6, none, (12, 2, 34), (false, 1), (1837, 137, 1836, 89)),
  (⟨"JobTextModel", "judgeKeys", "()Z"⟩, prog_14_method_48_code, 5, (some .boolean), (12, 3, 59), (false, 0), (1829, 137, 1828, 87)),
  (⟨"JobTextModel", "big", "()V"⟩, prog_14_method_50_code, 1, none, (12, 1, 12), (false, 0), (1849, 137, 1848, 92))]
def z_ms4 : List zM := [
  (⟨"JobTextModel", "fraction", "(JJ)V"⟩, prog_14_method_49_code, 11, none, (12, 2, 32), (false, 2), (1854, 137, 1853, 93)),
  (⟨"JobTextModel", "comesTo", "(I)V"⟩, prog_14_method_52_code, 14, none, (12, 3, 62), (false, 1), (1845, 137, 1844, 91)),
  (⟨"JobTextModel", "findFlow", "(I)V"⟩, prog_14_method_51_code, 10, none, (12, 4, 95), (false, 1), (1841, 137, 1840, 90)),
  (⟨"JobTextModel", "parOf", "(I)I"⟩, prog_14_method_53_code, 2, (some .int), (12, 1, 12), (false, 1), (1867, 137, 1866, 96)),
  (⟨"JobTextModel", "readersOf", "(IIZ)I"⟩, prog_14_method_54_code, 7, (some .int), (12, 1, 12), (false, 3), (1871, 137, 1870, 97)),
  (⟨"JobTextModel", "findFused", "(I)V"⟩, prog_14_method_55_code, 5, none, (12, 2, 38), (false, 1), (1863, 137, 1862, 95)),
  (⟨"JobTextModel", "channelsOf", "(II)I"⟩, prog_14_method_56_code, 5, (some .int), (12, 2, 33), (false, 2), (1875, 137, 1874, 98)),
  (⟨"JobTextModel", "findChains", "()V"⟩, prog_14_method_57_code, 5, none, (12, 3, 62), (false, 0), (1859, 137, 1858, 94)),
  (⟨"JobTextModel", "judge", "()Z"⟩, prog_14_method_58_code, 2, (some .boolean), (12, 5, 124), (false, 0), (1793, 137, 1792, 78)),
  (⟨"JobTextModel", "numberOf", "(J)I"⟩, prog_14_method_59_code, 4, (some .int), (12, 1, 12), (false, 1), (1879, 137, 1878, 99)),
  (⟨"JobTextModel", "keepInputs", "(II)V"⟩, prog_14_method_60_code, 4, none, (12, 1, 12), (false, 2), (1891, 137, 1890, 102)),
  (⟨"JobTextModel", "keepOperator", "(II)V"⟩, prog_14_method_61_code, 3, none, (12, 2, 35), (false, 2), (1887, 137, 1886, 101)),
  (⟨"JobTextModel", "keep", "(I)V"⟩, prog_14_method_62_code, 3, none, (12, 3, 57), (false, 1), (1883, 137, 1882, 100)),
  (⟨"JobTextModel", "read", "(II)I"⟩, prog_14_method_63_code, 5, (some .int), (12, 11, 245), (false, 2), (1669, 137, 1667, 1668)),
  (⟨"JobTextModel", "against", "(IZ)I"⟩, prog_14_method_64_code, 3, (some .int), (12, 2, 34), (false, 2), (1899, 137, 1898, 103)),
  (⟨"JobTextModel", "drop", "(I)I"⟩, prog_14_method_67_code, 3, (some .int), (12, 3, 56), (false, 1), (1895, 137, 1893, 1894)),
  (⟨"JobTextModel", "fault", "(I)I"⟩, prog_14_method_68_code, 2, (some .int), (12, 1, 12), (false, 1), (1903, 137, 1901, 1902)),
  (⟨"JobTextModel", "count", "(II)I"⟩, prog_14_method_69_code, 6, (some .int), (12, 3, 56), (false, 2), (1907, 137, 1905, 1906)),
  (⟨"JobTextModel", "countOf", "([II)I"⟩, prog_14_method_66_code, 3, (some .int), (12, 2, 34), (false, 2), (1915, 137, 1914, 104)),
  (⟨"JobTextModel", "againstOne", "(IZII)I"⟩, prog_14_method_65_code, 6, (some .int), (12, 3, 56), (false, 4), (1919, 137, 1918, 105)),
  (⟨"JobTextModel", "operator", "(III)I"⟩, prog_14_method_70_code, 6, (some .int), (12, 4, 81), (false, 3), (1911, 137, 1909, 1910)),
  (⟨"JobTextModel", "lengthOf", "(J)I"⟩, prog_14_method_9_code, 5, (some .int), (12, 1, 12), (true, 1), (1929, 137, 1928, 0)),
  (⟨"JobTextModel", "letterAt", "(JI)I"⟩, prog_14_method_10_code, 7, (some .int), (12, 2, 36), (true, 2), (1926, 137, 1925, 0)),
  (⟨"JobTextModel", "letter", "(IIII)I"⟩, prog_14_method_71_code, 9, (some .int), (12, 4, 81), (false, 4), (1923, 137, 1921, 1922)),
  (⟨"JobTextModel", "input", "(IIII)I"⟩, prog_14_method_72_code, 7, (some .int), (12, 4, 81), (false, 4), (1933, 137, 1931, 1932)),
  (⟨"JobTextModel", "flow", "(III)I"⟩, prog_14_method_73_code, 6, (some .int), (12, 4, 81), (false, 3), (1937, 137, 1935, 1936)),
  (⟨"JobTextModel", "set", "(III)I"⟩, prog_14_method_74_code, 6, (some .int), (12, 4, 81), (false, 3), (1941, 137, 1939, 1940)),
  (⟨"JobTextModel", "setLetter", "(IIZI)I"⟩, prog_14_method_75_code, 6, (some .int), (12, 4, 81), (false, 4), (1945, 137, 1943, 1944)),
  (⟨"JobTextModel", "loop", "(III)I"⟩, prog_14_method_76_code, 5, (some .int), (12, 4, 81), (false, 3), (1949, 137, 1947, 1948)),
  (⟨"JobTextModel", "put", "(I)V"⟩, prog_14_method_77_code, 2, none, (12, 1, 12), (false, 1), (1961, 137, 1960, 107)),
  (⟨"JobTextModel", "putComments", "(II)V"⟩, prog_14_method_85_code, 5, none, (12, 2, 33), (false, 2), (1957, 137, 1956, 106)),
  (⟨"JobTextModel", "putName", "(J)V"⟩, prog_14_method_78_code, 5, none, (12, 3, 62), (false, 1), (1977, 137, 1976, 111)),
  (⟨"JobTextModel", "putKey", "(I)V"⟩, prog_14_method_80_code, 2, none, (12, 4, 86), (false, 1), (1973, 137, 1972, 110)),
  (⟨"JobTextModel", "putNumber", "(I)V"⟩, prog_14_method_79_code, 4, none, (12, 2, 33), (false, 1), (1989, 137, 1988, 114)),
  (⟨"JobTextModel", "putNumberProperty", "(II)V"⟩, prog_14_method_81_code, 3, none, (12, 5, 107), (false, 2), (1985, 137, 1984, 113)),
  (⟨"JobTextModel", "putProperties", "(I)V"⟩, prog_14_method_83_code, 3, none, (12, 6, 129), (false, 1), (1981, 137, 1980, 112)),
  (⟨"JobTextModel", "putOperator", "(I)V"⟩, prog_14_method_82_code, 3, none, (12, 7, 151), (false, 1), (1969, 137, 1968, 109)),
  (⟨"JobTextModel", "putStatement", "(II)V"⟩, prog_14_method_84_code, 5, none, (12, 8, 173), (false, 2), (1965, 137, 1964, 108)),
  (⟨"JobTextModel", "print", "(I)I"⟩, prog_14_method_86_code, 4, (some .int), (12, 9, 197), (false, 1), (1953, 137, 1951, 1952)),
  (⟨"JobTextModel", "out", "(I)I"⟩, prog_14_method_87_code, 2, (some .int), (12, 2, 34), (false, 1), (1993, 137, 1991, 1992)),
  (⟨"JobTextModel", "take", "()I"⟩, prog_14_method_88_code, 2, (some .int), (12, 1, 12), (false, 0), (1997, 137, 1995, 1996)),
  (⟨"JobTextModel", "haveLikeInputs", "(II)Z"⟩, prog_14_method_90_code, 5, (some .boolean), (12, 1, 12), (false, 2), (2009, 137, 2008, 116)),
  (⟨"JobTextModel", "haveLikeSides", "(II)Z"⟩, prog_14_method_91_code, 5, (some .boolean), (12, 1, 12), (false, 2), (2013, 137, 2012, 117)),
  (⟨"JobTextModel", "bitsOf", "(II)I"⟩, prog_14_method_92_code, 4, (some .int), (12, 2, 36), (false, 2), (2005, 137, 2004, 115)),
  (⟨"JobTextModel", "note", "(III)V"⟩, prog_14_method_89_code, 4, none, (12, 1, 12), (false, 3), (2017, 137, 2016, 118)),
  (⟨"JobTextModel", "differ", "()I"⟩, prog_14_method_93_code, 4, (some .int), (12, 3, 59), (false, 0), (2001, 137, 1999, 2000)),
  (⟨"JobTextModel", "difference", "(II)I"⟩, prog_14_method_94_code, 3, (some .int), (12, 2, 34), (false, 2), (2021, 137, 2019, 2020)),
  (⟨"JobTextModel", "numbers", "()I"⟩, prog_14_method_95_code, 1, (some .int), (12, 1, 12), (false, 0), (2025, 137, 2023, 2024)),
  (⟨"JobTextModel", "numbered", "(II)I"⟩, prog_14_method_96_code, 3, (some .int), (12, 3, 62), (false, 2), (2029, 137, 2027, 2028))]
def z_ms : List zM := z_ms0 ++ z_ms1 ++ z_ms2 ++ z_ms3 ++ z_ms4
def z_m (y : Nat) : zM := z_ms.getD y (⟨"", "", ""⟩, ⟨#[]⟩, 0, none, (0, 0, 0), (false, 0), (0, 0, 0, 0))
def z_fls : List (List (Nat × Nat × Nat)) := [[(15, 10242, 157), (21, 10248, 158)], [(18, 11264, 174), (9, 11272, 179), (15, 11280, 181), (21, 11288, 183)], [(7, 12289, 392), (13, 12297, 394), (16, 12309, 396)], [(7, 13313, 216), (13, 13329, 221)], [(100, 10248, 160), (70, 17409, 248), (87, 16472, 422), (78, 16480, 423), (81, 16488, 425), (84, 16496, 427), (11, 14346, 462), (54, 14352, 467), (20, 14362, 472), (58, 14368, 475), (25, 14378, 478), (61, 14384, 483), (30, 14394, 488), (37, 14402, 489), (64, 14408, 490), (41, 14418, 492), (44, 14426, 493), (67, 14432, 494), (50, 14442, 496)], [(25, 11264, 175), (99, 13313, 218), (112, 13320, 220), (115, 13329, 223), (124, 13336, 225), (109, 13344, 227), (121, 13352, 231), (127, 17416, 251), (77, 17474, 271), (72, 17480, 275), (89, 17512, 288), (155, 17520, 290), (92, 17528, 292), (130, 18433, 336), (138, 18441, 340), (144, 18456, 345), (145, 18464, 348), (148, 18472, 351), (135, 18480, 353), (141, 18488, 357), (156, 16386, 407), (30, 14346, 463), (19, 14352, 468), (41, 14378, 479), (38, 14384, 484), (60, 14442, 497), (9, 15362, 691), (15, 15370, 692)], [(96, 13344, 228), (160, 13352, 232), (105, 17416, 252), (143, 17432, 257), (136, 17440, 260), (133, 17448, 263), (101, 17457, 266), (92, 17474, 272), (87, 17480, 276), (170, 18480, 354), (196, 18488, 359), (9, 16386, 406), (15, 16394, 408), (18, 16402, 409), (21, 16410, 410), (27, 16418, 412), (31, 16426, 414), (35, 16434, 416), (39, 16442, 417), (42, 16450, 418), (45, 16458, 419), (49, 16466, 420), (52, 16472, 421), (175, 16480, 424), (178, 16488, 426), (189, 16496, 428), (65, 14346, 464), (56, 14352, 469), (166, 14378, 481), (163, 14384, 486)], [(71, 13313, 217), (72, 13320, 219), (73, 13329, 222), (76, 13336, 224), (79, 13344, 226), (82, 13352, 230), (28, 17409, 247), (41, 17416, 250), (44, 17424, 254), (47, 17432, 256), (50, 17440, 259), (53, 17448, 262), (56, 17457, 265), (59, 17464, 268), (11, 17474, 270), (62, 17480, 274), (18, 17490, 279), (65, 17496, 282), (68, 17504, 285), (33, 17512, 287), (37, 17520, 289), (38, 17528, 291), (29, 20552, 609), (34, 20560, 613), (22, 20577, 620)], [(15, 18433, 335), (31, 18441, 339), (34, 18448, 342), (24, 18456, 344), (28, 18464, 347), (37, 18472, 350), (40, 18480, 352), (43, 18488, 356), (46, 20544, 605), (20, 20552, 608), (25, 20560, 612), (49, 20568, 616), (9, 20577, 619)], [(62, 11264, 176), (90, 11288, 184), (213, 17416, 253), (231, 17424, 255), (235, 17432, 258), (238, 17440, 261), (241, 17448, 264), (244, 17457, 267), (247, 17464, 269), (219, 17480, 278), (259, 17490, 281), (253, 17496, 284), (192, 17528, 293), (163, 18433, 337), (208, 14346, 466), (201, 14352, 471), (159, 14362, 473), (156, 14368, 476), (179, 14378, 480), (176, 14384, 485), (124, 14432, 495), (59, 20528, 603), (83, 20544, 606), (111, 20552, 611), (114, 20560, 614), (127, 20568, 617), (167, 20577, 621), (14, 19458, 654), (20, 19466, 655), (38, 19475, 656), (51, 19480, 657), (47, 19488, 658), (133, 19496, 659), (130, 19504, 660), (27, 19515, 661), (34, 19523, 662), (80, 19528, 663)], [(108, 10248, 161), (100, 11264, 178), (111, 14408, 491), (26, 20482, 596), (9, 20490, 597), (15, 20498, 598), (46, 20507, 599), (19, 20514, 600), (23, 20522, 601), (50, 20528, 602), (62, 20536, 604), (74, 20544, 607), (65, 20552, 610), (68, 20560, 615), (131, 20568, 618), (124, 20577, 622)], [(77, 10248, 159), (106, 11264, 177), (142, 11272, 180), (145, 11280, 182), (148, 11288, 185), (198, 13344, 229), (203, 13352, 233), (175, 17409, 249), (194, 17474, 273), (191, 17480, 277), (188, 17490, 280), (185, 17496, 283), (280, 17504, 286), (243, 18433, 338), (231, 18441, 341), (236, 18448, 343), (239, 18456, 346), (240, 18464, 349), (252, 18480, 355), (255, 18488, 358), (218, 12289, 393), (221, 12297, 395), (213, 12309, 397), (182, 16410, 411), (206, 16418, 413), (210, 16426, 415), (138, 14341, 461), (166, 14346, 465), (135, 14352, 470), (227, 14362, 474), (224, 14368, 477), (249, 14378, 482), (246, 14384, 487), (123, 14442, 498), (17, 21506, 698), (21, 21514, 699), (25, 21522, 700), (30, 21530, 701), (35, 21539, 702), (39, 21546, 703), (48, 21554, 704), (57, 21562, 705), (61, 21570, 706), (113, 21576, 707), (65, 21586, 708), (267, 21592, 709)], [(7, 22530, 1399), (220, 22536, 1400), (13, 22546, 1401), (16, 22554, 1402), (264, 22560, 1403), (274, 22569, 1404), (281, 22576, 1405), (258, 22584, 1406), (261, 22592, 1407), (232, 22600, 1408), (19, 22610, 1409), (22, 22618, 1410), (229, 22624, 1411), (25, 22632, 1412), (29, 22640, 1413), (287, 22648, 1414), (32, 22658, 1415), (36, 22666, 1416), (39, 22674, 1417), (42, 22682, 1418), (45, 22690, 1419), (48, 22698, 1420), (290, 22704, 1421), (51, 22714, 1422), (55, 22722, 1423), (58, 22730, 1424), (61, 22738, 1425), (64, 22746, 1426), (67, 22754, 1427), (70, 22762, 1428), (73, 22770, 1429), (76, 22778, 1430), (79, 22786, 1431), (82, 22794, 1432), (85, 22802, 1433), (88, 22810, 1434), (91, 22818, 1435), (94, 22826, 1436), (97, 22834, 1437), (100, 22842, 1438), (103, 22850, 1439), (106, 22858, 1440), (109, 22866, 1441), (112, 22874, 1442), (115, 22882, 1443), (118, 22890, 1444), (121, 22898, 1445), (124, 22906, 1446), (127, 22914, 1447), (130, 22922, 1448), (133, 22930, 1449), (136, 22938, 1450), (139, 22946, 1451), (142, 22954, 1452), (145, 22962, 1453), (148, 22970, 1454), (151, 22978, 1455), (154, 22986, 1456), (157, 22994, 1457), (160, 23002, 1458), (163, 23010, 1459), (166, 23018, 1460), (169, 23026, 1461), (172, 23034, 1462), (175, 23042, 1463), (178, 23050, 1464), (181, 23058, 1465), (184, 23066, 1466), (187, 23074, 1467), (190, 23082, 1468), (193, 23090, 1469), (196, 23098, 1470), (199, 23106, 1471), (202, 23114, 1472), (379, 23121, 1473), (382, 23129, 1474), (434, 23136, 1475), (205, 23146, 1476), (208, 23154, 1477), (471, 23160, 1478), (502, 23168, 1479), (211, 23178, 1480)], [(9, 4, 2031), (15, 14, 2032)], [], [], []]
def z_mls : List (List (Nat × Nat × Nat × Nat)) := [[(9, 0, 1, 154), (25, 16, 0, 764), (28, 17, 0, 768), (32, 12, 0, 772), (36, 2, 0, 1277), (42, 7, 0, 1278), (46, 117, 2, 1283), (50, 118, 2, 1284)], [], [(20, 90, 1, 1123), (30, 93, 0, 1139), (26, 91, 0, 1144)], [], [(74, 18, 0, 829), (90, 127, 0, 1254), (97, 12, 0, 1258), (103, 126, 0, 1259), (94, 138, 0, 1263), (107, 135, 0, 1267), (110, 136, 0, 1323), (113, 137, 0, 1333)], [(34, 72, 0, 1026), (81, 70, 0, 1030), (105, 53, 0, 1034), (95, 27, 0, 1035), (118, 63, 0, 1036), (85, 71, 0, 1037), (45, 73, 0, 1041), (49, 75, 0, 1045), (151, 74, 0, 1049), (53, 76, 0, 1053), (56, 77, 0, 1057), (64, 83, 0, 1061), (69, 85, 0, 1086), (160, 84, 0, 1090), (163, 81, 0, 1094)], [(61, 79, 0, 1065), (83, 78, 0, 1069), (69, 80, 0, 1073), (73, 0, 1, 1077), (79, 82, 0, 1078), (108, 81, 0, 1082), (111, 98, 0, 1111), (125, 96, 0, 1115), (146, 91, 0, 1119), (150, 92, 0, 1127), (129, 93, 0, 1131), (154, 94, 0, 1135), (157, 95, 0, 1140), (139, 97, 0, 1145), (115, 99, 0, 1149), (119, 102, 0, 1153), (181, 101, 0, 1157), (185, 100, 0, 1161), (122, 104, 0, 1165), (192, 103, 0, 1169)], [(100, 128, 0, 1273), (106, 129, 0, 1279), (112, 130, 0, 1286), (118, 131, 0, 1299), (136, 12, 0, 1304), (124, 133, 1, 1306), (132, 132, 0, 1309), (143, 134, 0, 1317), (85, 145, 0, 1365), (92, 144, 0, 1369), (89, 146, 0, 1373)], [(54, 128, 0, 1328), (60, 129, 0, 1329), (66, 132, 0, 1331)], [(42, 23, 0, 794), (54, 25, 0, 798), (67, 30, 0, 808), (70, 41, 0, 830), (73, 68, 0, 908), (86, 42, 0, 914), (117, 27, 0, 918), (93, 44, 0, 919), (121, 43, 0, 923), (96, 46, 0, 927), (136, 15, 2, 931), (140, 45, 0, 932), (143, 24, 0, 936), (99, 52, 0, 937), (146, 49, 0, 941), (170, 47, 0, 945), (172, 48, 0, 949), (149, 50, 0, 953), (153, 51, 0, 957), (102, 61, 0, 961), (182, 55, 0, 965), (204, 53, 0, 969), (212, 54, 0, 973), (185, 56, 0, 977), (188, 57, 1, 983), (195, 59, 0, 986), (222, 58, 0, 990), (198, 60, 0, 994), (105, 65, 0, 998), (227, 62, 0, 1002), (250, 64, 0, 1007), (256, 63, 0, 1011), (108, 67, 0, 1015), (224, 66, 1, 1019)], [(32, 2, 0, 541), (38, 7, 0, 551), (42, 9, 2, 589), (54, 24, 0, 802), (58, 15, 2, 806), (71, 26, 0, 812), (95, 17, 0, 816), (105, 29, 0, 817), (116, 27, 0, 821), (120, 28, 0, 825), (77, 31, 2, 834), (80, 33, 0, 837), (128, 32, 2, 841), (83, 8, 2, 845), (86, 34, 0, 846), (91, 40, 0, 851)], [(295, 8, 1, 593), (69, 10, 1, 739), (73, 11, 1, 742), (81, 12, 0, 745), (84, 15, 1, 757), (87, 18, 0, 760), (91, 16, 0, 773), (94, 17, 0, 778), (98, 21, 1, 783), (101, 22, 0, 786), (102, 69, 0, 790), (292, 31, 1, 844), (109, 86, 0, 1022), (116, 88, 0, 1095), (276, 87, 0, 1099), (120, 89, 0, 1103), (127, 105, 0, 1107), (132, 106, 0, 1173), (151, 110, 0, 1189), (155, 111, 0, 1193), (158, 113, 0, 1201), (162, 114, 0, 1205), (170, 115, 0, 1209), (179, 119, 1, 1217), (300, 117, 1, 1220), (303, 118, 1, 1223), (258, 139, 0, 1250), (262, 36, 1, 1347), (270, 148, 0, 1352), (281, 53, 0, 1356), (284, 143, 0, 1357), (288, 147, 0, 1361), (273, 149, 0, 1377)], [(214, 154, 1, 1650), (443, 187, 0, 1670), (341, 159, 0, 1674), (293, 170, 0, 1678), (284, 169, 0, 1682), (254, 163, 0, 1686), (243, 160, 0, 1690), (247, 161, 0, 1694), (251, 162, 0, 1698), (267, 164, 1, 1702), (271, 165, 1, 1705), (278, 168, 1, 1709), (235, 167, 1, 1712), (239, 166, 1, 1715), (344, 172, 0, 1718), (296, 171, 0, 1722), (347, 174, 0, 1726), (299, 173, 0, 1730), (350, 175, 0, 1734), (353, 185, 0, 1739), (333, 177, 0, 1743), (304, 176, 0, 1747), (336, 184, 0, 1751), (321, 178, 1, 1755), (324, 179, 0, 1764), (327, 180, 0, 1768), (318, 181, 0, 1772), (330, 183, 0, 1776), (314, 182, 0, 1780), (356, 186, 0, 1785), (446, 208, 0, 1790), (413, 190, 0, 1794), (362, 189, 0, 1798), (359, 188, 0, 1802), (416, 191, 0, 1806), (419, 193, 0, 1810), (365, 192, 0, 1814), (422, 195, 0, 1818), (368, 194, 0, 1822), (425, 198, 0, 1826), (371, 196, 0, 1830), (375, 197, 0, 1834), (428, 202, 0, 1838), (392, 201, 0, 1842), (387, 199, 0, 1846), (395, 200, 0, 1851), (431, 207, 0, 1856), (406, 205, 0, 1860), (399, 203, 0, 1864), (402, 204, 0, 1868), (409, 206, 0, 1872), (449, 209, 0, 1876), (452, 212, 0, 1880), (440, 211, 0, 1884), (437, 210, 0, 1888), (455, 214, 0, 1896), (459, 218, 0, 1912), (463, 219, 0, 1916), (467, 222, 1, 1924), (225, 221, 1, 1927), (496, 230, 0, 1954), (474, 229, 0, 1958), (499, 237, 0, 1962), (493, 236, 0, 1966), (481, 232, 0, 1970), (477, 231, 0, 1974), (487, 235, 0, 1978), (490, 234, 0, 1982), (484, 233, 0, 1986), (511, 243, 0, 2002), (505, 241, 0, 2006), (508, 242, 0, 2010), (514, 244, 0, 2014)], [(335, 1, 0, 545), (492, 3, 0, 555), (495, 6, 1, 559), (1059, 4, 1, 567), (633, 39, 0, 855), (505, 2, 0, 859), (637, 38, 1, 860)], [(9, 5, 1, 562), (88, 35, 1, 863), (92, 0, 1, 866), (38, 36, 1, 867), (95, 37, 1, 870)], [], []]
def z_kls : List (List (Nat × Int × Nat)) := [[], [], [], [], [], [], [], [], [], [(58, 37231, 807), (234, 99999, 1006)], [], [], [(303, 32768, 1738), (308, 65536, 1758), (309, 131072, 1759), (310, 524288, 1760), (311, 262144, 1761), (312, 1048576, 1762), (313, 2097152, 1763), (317, 99999, 1784), (340, 1069547520, 1789)], [], [], [], []]
def z_lls : List (List (Nat × Int × Nat)) := [[], [], [(24, 1000000000, 1126)], [], [], [], [], [], [], [], [], [(298, 37, 592)], [(218, 255, 1653), (223, 37, 1708), (390, -5, 1850), (385, 1000000000, 1855)], [], [], [], []]
def z_sls : List (List (Nat × Nat × String)) := [[], [], [], [], [], [], [], [(96, 2, "source "), (98, 3, "op "), (110, 4, ": "), (148, 5, "map"), (150, 6, "filter"), (152, 7, "flat"), (154, 8, "span"), (156, 9, "join"), (158, 10, "union"), (160, 11, "fold"), (162, 12, "sink"), (116, 13, " from "), (164, 14, ", "), (122, 15, " par "), (128, 16, " rate "), (130, 17, " pass "), (139, 18, " key "), (141, 19, " keep "), (166, 20, " side "), (146, 21, ";\n")], [(52, 22, "set "), (64, 23, " = "), (70, 21, ";\n"), (72, 24, "loop "), (74, 25, " to ")], [], [(30, 0, "use set source op loop from to par rate pass key keep side map filter flat span join union fold sink"), (89, 1, ";,:.=/")], [], [], [], [], [], []]
def z_gls : List (List (Nat × Nat × Nat)) := [[], [], [], [], [], [], [], [], [], [(76, 2, 912), (216, 3, 981)], [], [], [], [(38, 0, 549), (1053, 1, 565)], [], [], []]
end
section
/-! ===== what the abstract values and cells are in the machine ===== -/
/-- fields' names, addresses of the cells, classes of arrays, the formatter, the first address of the world -/
abbrev zX : Type := va_G × (zR → Nat) × (Nat → ClassId) × Option Nat × Nat
abbrev z_ad (cx : zX) : zR → Nat := cx.2.1
abbrev z_A (cx : zX) : Nat → Prop := fun q => cx.2.2.2.2 ≤ q
def z_cv (cx : zX) (v : zV) : Value := match v with
  | .inl x => .int x
  | .inr (.inl x) => .long x
  | .inr (.inr q) => if q.1 = 3 then va_rf cx.2.2.2.1 else .ref (cx.2.1 q)
def z_vv (v : zV) : Prop := match v with
  | .inr (.inr q) => z_vl q
  | _ => True
def z_fv (cx : zX) (h : zH) (q : zR) (k : Nat) : Value := match z_tc q.1 k with
  | 0 => .int (h.1 q k)
  | 5 => .int (h.1 q k)
  | 1 => .long (h.2.1 q k)
  | 2 => .ref (cx.2.1 (z_fr q k))
  | _ => va_rf ((h.2.2 q k).map cx.2.1)
def z_ac (cx : zX) (h : zH) (q : zR) : vp_A := (z_ln q, match z_at q.1 with
  | 1 => .inr (.inl (h.2.1 q))
  | 4 => .inr (.inr (.inr (.inr (fun j => some (cx.2.1 (z_el q j))))))
  | 5 => .inr (.inr (.inr (.inr (fun j => (h.2.2 q j).map cx.2.1))))
  | _ => .inl (h.1 q))
def z_cell (cx : zX) (h : zH) (q : zR) : va_E :=
  if q.1 < 23 then .inr (q.1 - 10, (List.range (z_nf (q.1 - 10))).map (z_fv cx h q)) else .inl (cx.2.2.1 (z_t0 q.1), z_ac cx h q)
def z_tys (cx : zX) : List (ClassId × FieldType) := [(cx.2.2.1 0, .int), (cx.2.2.1 1, .long), (cx.2.2.1 2, .byte), (cx.2.2.1 3, .boolean), (cx.2.2.1 4, .object RX0), (cx.2.2.1 5, .object RX4), (cx.2.2.1 6, .object RX7), (cx.2.2.1 7, .object RX3), (cx.2.2.1 8, .object RX8), (cx.2.2.1 9, .object RX2)]
/-- the cells -/
def z_P (cx : zX) (h : zH) (H : Heap) : Prop := (∀ q : zR, z_vl q → 10 ≤ q.1 → va_at cx.1 zcl (cx.2.1 q, z_cell cx h q) H) ∧ ∀ (q : zR) (k : Nat) (q' : zR), h.2.2 q k = some q' → z_vl q' ∧ q'.1 ≠ 3
/-- addresses of cells are apart and of the world -/
def z_D (cx : zX) : Prop := (∀ q q' : zR, z_vl q → 10 ≤ q.1 → z_vl q' → 10 ≤ q'.1 → cx.2.1 q = cx.2.1 q' → q = q') ∧ ∀ q : zR, z_vl q → 10 ≤ q.1 → cx.2.2.2.2 ≤ cx.2.1 q
/-- constants -/
def z_C (cx : zX) (U : State) : Prop :=
  vk_S 26 (z_sb.map List.length) z_sb (fun i => cx.2.1 (0, i, 0)) (fun i => cx.2.1 (1, i, 0)) (z_A cx) U U.heap ∧
  va_Z "java/lang/String" "COMPACT_STRINGS" "Z" (.int 1) (z_A cx) U U.heap ∧
  va_Z "jdk/internal/util/Preconditions" "SIOOBE_FORMATTER" "Ljava/util/function/BiFunction;" (va_rf cx.2.2.2.1) (z_A cx) U U.heap ∧
  va_Z RX9 "MAY_STAND" "[I" (.ref (cx.2.1 (2, 0, 0))) (z_A cx) U U.heap ∧
  va_Z RX11 "PROPERTIES" "[I" (.ref (cx.2.1 (2, 1, 0))) (z_A cx) U U.heap ∧
  (∀ i : Nat, i < 2 → va_T .int (cx.2.1 (2, i, 0)) (z_ln (2, i, 0)) (fun j => .int ((z_ci.getD i []).getD j 0)) (z_A cx) U U.heap) ∧
  (∀ (o : Nat) (r : Nat × Nat × Nat × Nat), r ∈ z_mls.getD o [] → r.2.2.1 = 2 → va_Nw (.methodLinkNest (z_cn o) r.1 (z_m r.2.1).1 RX11) U) ∧
  va_Nw (.fieldLinkNest RX9 216 RX11 "PROPERTIES" "[I" RX11) U ∧
  (∀ (o : Nat) (r : Nat × Nat × String), r ∈ z_sls.getD o [] → vk_R (z_cn o) r.1 r.2.2 (cx.2.1 (0, r.2.1, 0)) U)
def z_W (cx : zX) (h : zH) (U : State) : Prop := z_P cx h U.heap ∧ va_K cx.1 zcl (z_tys cx) U ∧ z_C cx U ∧ z_D cx
def z_Q (cx : zX) (Q : Option zV → zH → Prop) : Array Value → State → Outcome → State → Prop := fun _ st o t =>
  (∃ (r : Option zV) (hh : zH), o = .returned (r.map (z_cv cx)) ∧ z_W cx hh t ∧ (∀ v, r = some v → z_vv v) ∧ Q r hh) ∧ va_F (z_A cx) st t
def z_ws (y : Nat) : List Cond := Cond.code (z_m y).1 (z_m y).2.1 (z_m y).2.2.1 (z_m y).2.2.2.1 :: zTG
def z_rm (y : Nat) : Room := { frames := (z_m y).2.2.2.2.1.2.1, cells := 0, slots := 0, locals := (z_m y).2.2.2.2.1.2.2 }
/-- method y, from these arguments and this heap, returns, and Q holds -/
def zOk (y : Nat) (as : List zV) (h : zH) (Q : Option zV → zH → Prop) : Prop :=
  (∀ v ∈ as, z_vv v) → ∀ (cx : zX) (l : Launch), Met l (z_m y).1 (z_ws y) (z_rm y) (va_Pc (as.map (z_cv cx)) (z_W cx h)) (z_Q cx Q) 0 0 (z_A cx)
def zOkV (y : Nat) (as : List zV) (h : zH) (K : zH → Prop) : Prop := zOk y as h (fun r h1 => r = none ∧ K h1)
def zOkI (y : Nat) (as : List zV) (h : zH) (K : Int32 → zH → Prop) : Prop := zOk y as h (fun r h1 => ∃ x, r = some (.inl x) ∧ K x h1)
def zOkL (y : Nat) (as : List zV) (h : zH) (K : Int64 → zH → Prop) : Prop := zOk y as h (fun r h1 => ∃ x, r = some (.inr (.inl x)) ∧ K x h1)
def zOkR (y : Nat) (as : List zV) (h : zH) (K : zR → zH → Prop) : Prop := zOk y as h (fun r h1 => ∃ x, r = some (.inr (.inr x)) ∧ x.1 ≠ 3 ∧ K x h1)
/-- the locals that are known -/
def z_LR (cx : zX) (L : zL) (ls : Array Slot) : Prop := lv_has ls L.length ((List.range L.length).filterMap (fun i => (L[i]?.join).map (fun v => (i, z_cv cx v)))) ∧ ∀ (i : Nat) (v : zV), L[i]? = some (some v) → z_vv v
/-- what holds all through a method's body -/
def z_E (cx : zX) (y : Nat) (p : Program) (s : State) (m : MethodId) (args : Array Value) (meth : Method) (c : Code) (H : Heap) (locs : List Loc) : Prop :=
  p.tables.exec = Jvm.exec ∧ c.code = (z_m y).2.1 ∧ meth.sig.returnType = (z_m y).2.2.2.1 ∧ c.maxLocals = (z_m y).2.2.1 ∧ s.vm.findClass (z_m y).1.cls = some m.cls ∧ (∀ w ∈ zTG, w.before args s = true) ∧ meth.locks = false ∧ va_K cx.1 zcl (z_tys cx) s ∧ z_C cx s ∧ z_D cx ∧ va_S (z_A cx) s.heap H locs
/-- method y, within its body at pc with these locals, this operand stack and this heap, comes to its end with Q -/
def zAt (y pc : Nat) (L : zL) (st : List zV) (h : zH) (Q : Option zV → zH → Prop) : Prop :=
  L.length = (z_m y).2.2.1 → ∀ (cx : zX) (p : Program) (l : Launch) (e : Env) (s : State) (m : MethodId) (args : Array Value) (below : List Frame) (meth : Method) (c : Code) (H : Heap) (locs : List Loc) (ls : Array Slot),
    z_E cx y p s m args meth c H locs → z_P cx h H → z_LR cx L ls → (∀ v ∈ st, z_vv v) →
    W p l e (z_rm y) s m args below meth c H locs 0 0 (MQ below (z_Q cx Q) args s 0 0 (z_A cx)) (F0 m pc ls (st.map (z_cv cx)))
end
section
/-! ===== the meaning of code, segment by segment ===== -/
def z_clr (o : Option zV) : Option zV := match o with
  | some (.inr (.inl _)) => none
  | o => o
def z_s1 : zL → Nat → zV → zL
  | [], _, _ => []
  | _ :: t, 0, v => some v :: t
  | o :: t, 1, v => z_clr o :: z_s1 t 0 v
  | o :: t, n + 2, v => o :: z_s1 t (n + 1) v
def z_h2 : zL → zL
  | [] => []
  | _ :: t => none :: t
def z_s2 : zL → Nat → zV → zL
  | [], _, _ => []
  | _ :: t, 0, v => some v :: z_h2 t
  | o :: t, 1, v => z_clr o :: z_s2 t 0 v
  | o :: t, n + 2, v => o :: z_s2 t (n + 1) v
def z_mask : List Bool → zL → zL
  | [], _ => []
  | _ :: _, [] => []
  | true :: m, o :: t => o :: z_mask m t
  | false :: m, _ :: t => none :: z_mask m t
def z_pop : Nat → List zV → List zV → Option (List zV × List zV)
  | 0, acc, st => some (acc, st)
  | _ + 1, _, [] => none
  | n + 1, acc, v :: st => z_pop n (v :: acc) st
def z_cat : List zV → Nat
  | [] => 0
  | .inr (.inl _) :: t => 2 + z_cat t
  | _ :: t => 1 + z_cat t
def z_uI (h : zH) (q : zR) (k : Nat) (x : Int32) : zH := (fun q' k' => if q' = q ∧ k' = k then x else h.1 q' k', h.2.1, h.2.2)
def z_uL (h : zH) (q : zR) (k : Nat) (x : Int64) : zH := (h.1, fun q' k' => if q' = q ∧ k' = k then x else h.2.1 q' k', h.2.2)
def z_uR (h : zH) (q : zR) (k : Nat) (x : zR) : zH := (h.1, h.2.1, fun q' k' => if q' = q ∧ k' = k then some x else h.2.2 q' k')
/-- the kind of cell that a place which changes leads to -/
def z_mk (kd k : Nat) : Nat := match kd with
  | 19 => (match k with
    | 7 => 17
    | 8 => 18
    | _ => 14)
  | _ => 14
def z_get (h : zH) (q : zR) (k tc : Nat) (K : zV → Prop) : Prop := match tc with
  | 0 => K (.inl (h.1 q k))
  | 5 => K (.inl (h.1 q k))
  | 1 => K (.inr (.inl (h.2.1 q k)))
  | 2 => K (.inr (.inr (z_fr q k)))
  | 3 => ∃ i j : Nat, h.2.2 q k = some (z_mk q.1 k, i, j) ∧ K (.inr (.inr (z_mk q.1 k, i, j)))
  | 4 => K (.inr (.inr (1, q.2.1, 0)))
  | 6 => K (.inl 0)
  | _ => False
def z_put (h : zH) (q : zR) (k tc : Nat) (v : zV) (K : zH → Prop) : Prop := match tc, v with
  | 0, .inl x => K (z_uI h q k x)
  | 5, .inl x => (x = 0 ∨ x = 1) ∧ K (z_uI h q k x)
  | 1, .inr (.inl x) => K (z_uL h q k x)
  | 3, .inr (.inr r) => (match Nat.beq r.1 (z_mk q.1 k) with
    | true => K (z_uR h q k r)
    | false => False)
  | _, _ => False
def z_if (c : Jvm.ClassFile.Cond) (x y : Int32) (a b : Prop) : Prop := match c with
  | .eq => (x = y → a) ∧ (¬ x = y → b)
  | .ne => (x = y → b) ∧ (¬ x = y → a)
  | .lt => (x < y → a) ∧ (¬ x < y → b)
  | .ge => (x < y → b) ∧ (¬ x < y → a)
  | .gt => (y < x → a) ∧ (¬ y < x → b)
  | .le => (y < x → b) ∧ (¬ y < x → a)
def z_tsw (J : Int → Prop) (x : Int32) : Int → List Int → Prop
  | _, [] => True
  | lo, t :: ts => (x = Int32.ofInt lo → J t) ∧ z_tsw J x (lo + 1) ts
def z_lsw (J : Int → Prop) (x : Int32) : List (Int × Int) → Prop
  | [] => True
  | (k, t) :: ts => (x = Int32.ofInt k → J t) ∧ z_lsw J x ts
def z_lno (x : Int32) : List (Int × Int) → Prop
  | [] => True
  | (k, _) :: ts => ¬ x = Int32.ofInt k ∧ z_lno x ts
/-- one instruction; nx: falls through; nc: behind a call; to: jumps -/
def z_ins (i : Instr) (nx nc : zL → List zV → zH → Prop) (to : Nat → zL → List zV → zH → Prop) (Q : Option zV → zH → Prop) (L : zL) (st : List zV) (h : zH) : Prop :=
  match i with
  | .iconst v => nx L (.inl (Int32.ofInt v) :: st) h
  | .jsr_w v => nx L (.inr (.inl (Int64.ofInt v)) :: st) h
  | .ldc n => nx L (.inr (.inr (0, n, 0)) :: st) h
  | .iload n => (match L[n]? with
    | some (some (.inl x)) => nx L (.inl x :: st) h
    | _ => False)
  | .lload n => (match L[n]? with
    | some (some (.inr (.inl x))) => nx L (.inr (.inl x) :: st) h
    | _ => False)
  | .aload n => (match L[n]? with
    | some (some (.inr (.inr x))) => nx L (.inr (.inr x) :: st) h
    | _ => False)
  | .istore n => (match st with
    | .inl x :: r => nx (z_s1 L n (.inl x)) r h
    | _ => False)
  | .lstore n => (match st with
    | .inr (.inl x) :: r => nx (z_s2 L n (.inr (.inl x))) r h
    | _ => False)
  | .astore n => (match st with
    | .inr (.inr x) :: r => nx (z_s1 L n (.inr (.inr x))) r h
    | _ => False)
  | .iinc n v => (match L[n]? with
    | some (some (.inl x)) => nx (z_s1 L n (.inl (x + Int32.ofInt v))) st h
    | _ => False)
  | .iadd => (match st with
    | .inl y :: .inl x :: r => nx L (.inl (x + y) :: r) h
    | _ => False)
  | .isub => (match st with
    | .inl y :: .inl x :: r => nx L (.inl (x - y) :: r) h
    | _ => False)
  | .imul => (match st with
    | .inl y :: .inl x :: r => nx L (.inl (x * y) :: r) h
    | _ => False)
  | .iand => (match st with
    | .inl y :: .inl x :: r => nx L (.inl (x &&& y) :: r) h
    | _ => False)
  | .ior => (match st with
    | .inl y :: .inl x :: r => nx L (.inl (x ||| y) :: r) h
    | _ => False)
  | .ixor => (match st with
    | .inl y :: .inl x :: r => nx L (.inl (x ^^^ y) :: r) h
    | _ => False)
  | .idiv => (match st with
    | .inl y :: .inl x :: r => (¬ y = 0) ∧ nx L (.inl (x / y) :: r) h
    | _ => False)
  | .irem => (match st with
    | .inl y :: .inl x :: r => (¬ y = 0) ∧ nx L (.inl (x - x / y * y) :: r) h
    | _ => False)
  | .ishl => (match st with
    | .inl y :: .inl x :: r => nx L (.inl (x <<< (y &&& 31)) :: r) h
    | _ => False)
  | .ishr => (match st with
    | .inl y :: .inl x :: r => nx L (.inl (x >>> (y &&& 31)) :: r) h
    | _ => False)
  | .ladd => (match st with
    | .inr (.inl y) :: .inr (.inl x) :: r => nx L (.inr (.inl (x + y)) :: r) h
    | _ => False)
  | .lsub => (match st with
    | .inr (.inl y) :: .inr (.inl x) :: r => nx L (.inr (.inl (x - y)) :: r) h
    | _ => False)
  | .lmul => (match st with
    | .inr (.inl y) :: .inr (.inl x) :: r => nx L (.inr (.inl (x * y)) :: r) h
    | _ => False)
  | .land => (match st with
    | .inr (.inl y) :: .inr (.inl x) :: r => nx L (.inr (.inl (x &&& y)) :: r) h
    | _ => False)
  | .lor => (match st with
    | .inr (.inl y) :: .inr (.inl x) :: r => nx L (.inr (.inl (x ||| y)) :: r) h
    | _ => False)
  | .ldiv => (match st with
    | .inr (.inl y) :: .inr (.inl x) :: r => (¬ y = 0) ∧ nx L (.inr (.inl (x / y)) :: r) h
    | _ => False)
  | .lrem => (match st with
    | .inr (.inl y) :: .inr (.inl x) :: r => (¬ y = 0) ∧ nx L (.inr (.inl (x - x / y * y)) :: r) h
    | _ => False)
  | .lshl => (match st with
    | .inl y :: .inr (.inl x) :: r => nx L (.inr (.inl (x <<< (y.toInt64 &&& 63))) :: r) h
    | _ => False)
  | .lshr => (match st with
    | .inl y :: .inr (.inl x) :: r => nx L (.inr (.inl (x >>> (y.toInt64 &&& 63))) :: r) h
    | _ => False)
  | .lushr => (match st with
    | .inl y :: .inr (.inl x) :: r => nx L (.inr (.inl (x.toUInt64 >>> (y.toInt64.toUInt64 &&& Int64.toUInt64 63)).toInt64) :: r) h
    | _ => False)
  | .lcmp => (match st with
    | .inr (.inl y) :: .inr (.inl x) :: r => nx L (.inl (lg_cmp x y) :: r) h
    | _ => False)
  | .i2l => (match st with
    | .inl x :: r => nx L (.inr (.inl x.toInt64) :: r) h
    | _ => False)
  | .l2i => (match st with
    | .inr (.inl x) :: r => nx L (.inl x.toInt32 :: r) h
    | _ => False)
  | .i2b => (match st with
    | .inl x :: r => nx L (.inl x.toInt8.toInt32 :: r) h
    | _ => False)
  | .i2c => (match st with
    | .inl x :: r => nx L (.inl (x.toUInt32 % 65536).toInt32 :: r) h
    | _ => False)
  | .dup => (match st with
    | .inl x :: r => nx L (.inl x :: .inl x :: r) h
    | .inr (.inr x) :: r => nx L (.inr (.inr x) :: .inr (.inr x) :: r) h
    | _ => False)
  | .pop => (match st with
    | .inl _ :: r => nx L r h
    | .inr (.inr _) :: r => nx L r h
    | _ => False)
  | .dup2 => (match st with
    | .inl x :: .inr (.inr y) :: r => nx L (.inl x :: .inr (.inr y) :: .inl x :: .inr (.inr y) :: r) h
    | _ => False)
  | .ifCond c t => (match st with
    | .inl x :: r => z_if c x 0 (to t.toNat L r h) (nx L r h)
    | _ => False)
  | .if_icmp c t => (match st with
    | .inl y :: .inl x :: r => z_if c x y (to t.toNat L r h) (nx L r h)
    | _ => False)
  | .goto t => to t.toNat L st h
  | .tableswitch d lo hi ts => (match st with
    | .inl x :: r => z_tsw (fun t => to t.toNat L r h) x lo ts.toList ∧ ((x.toInt < lo ∨ hi < x.toInt) → to d.toNat L r h)
    | _ => False)
  | .lookupswitch d ps => (match st with
    | .inl x :: r => z_lsw (fun t => to t.toNat L r h) x ps.toList ∧ (z_lno x ps.toList → to d.toNat L r h)
    | _ => False)
  | .getfield n => (match st with
    | .inr (.inr q) :: r => (match Nat.beq q.1 (n / 1024) with
      | true => z_get h q (n / 8 % 128) (n % 8) (fun v => nx L (v :: r) h)
      | false => False)
    | _ => False)
  | .putfield n => (match st with
    | v :: .inr (.inr q) :: r => (match Nat.beq q.1 (n / 1024) with
      | true => z_put h q (n / 8 % 128) (n % 8) v (fun h1 => nx L r h1)
      | false => False)
    | _ => False)
  | .getstatic n => (match n with
    | 0 => nx L (.inl 1 :: st) h
    | 1 => nx L (.inr (.inr (3, 0, 0)) :: st) h
    | 2 => nx L (.inr (.inr (2, 0, 0)) :: st) h
    | 3 => nx L (.inr (.inr (2, 1, 0)) :: st) h
    | _ => False)
  | .iaload => (match st with
    | .inl x :: .inr (.inr q) :: r => (match z_at q.1 with
      | 0 => vp_in x (z_ln q) ∧ nx L (.inl (h.1 q x.toNatClampNeg) :: r) h
      | 9 => vp_in x (z_ln q) ∧ nx L (.inl ((z_ci.getD q.2.1 []).getD x.toNatClampNeg 0) :: r) h
      | _ => False)
    | _ => False)
  | .baload => (match st with
    | .inl x :: .inr (.inr q) :: r => (match z_at q.1 with
      | 2 => vp_in x (z_ln q) ∧ nx L (.inl (h.1 q x.toNatClampNeg) :: r) h
      | 3 => vp_in x (z_ln q) ∧ nx L (.inl (h.1 q x.toNatClampNeg) :: r) h
      | 8 => vp_in x (z_ln q) ∧ nx L (.inl ((z_sb.getD q.2.1 []).getD x.toNatClampNeg 0) :: r) h
      | _ => False)
    | _ => False)
  | .laload => (match st with
    | .inl x :: .inr (.inr q) :: r => (match z_at q.1 with
      | 1 => vp_in x (z_ln q) ∧ nx L (.inr (.inl (h.2.1 q x.toNatClampNeg)) :: r) h
      | _ => False)
    | _ => False)
  | .aaload => (match st with
    | .inl x :: .inr (.inr q) :: r => (match z_at q.1 with
      | 4 => vp_in x (z_ln q) ∧ nx L (.inr (.inr (z_el q x.toNatClampNeg)) :: r) h
      | 5 => vp_in x (z_ln q) ∧ ∃ i j : Nat, h.2.2 q x.toNatClampNeg = some (14, i, j) ∧ nx L (.inr (.inr (14, i, j)) :: r) h
      | _ => False)
    | _ => False)
  | .iastore => (match st with
    | .inl v :: .inl x :: .inr (.inr q) :: r => (match z_at q.1 with
      | 0 => vp_in x (z_ln q) ∧ nx L r (z_uI h q x.toNatClampNeg v)
      | _ => False)
    | _ => False)
  | .bastore => (match st with
    | .inl v :: .inl x :: .inr (.inr q) :: r => (match z_at q.1 with
      | 2 => vp_in x (z_ln q) ∧ nx L r (z_uI h q x.toNatClampNeg (vp_nar .byte v))
      | 3 => vp_in x (z_ln q) ∧ nx L r (z_uI h q x.toNatClampNeg (vp_nar .boolean v))
      | _ => False)
    | _ => False)
  | .lastore => (match st with
    | .inr (.inl v) :: .inl x :: .inr (.inr q) :: r => (match z_at q.1 with
      | 1 => vp_in x (z_ln q) ∧ nx L r (z_uL h q x.toNatClampNeg v)
      | _ => False)
    | _ => False)
  | .aastore => (match st with
    | .inr (.inr v) :: .inl x :: .inr (.inr q) :: r => (match z_at q.1 with
      | 5 => (match Nat.beq v.1 14 with
        | true => vp_in x (z_ln q) ∧ nx L r (z_uR h q x.toNatClampNeg v)
        | false => False)
      | _ => False)
    | _ => False)
  | .arraylength => (match st with
    | .inr (.inr q) :: r => (match Nat.ble (z_at q.1) 9 with
      | true => nx L (.inl (Int32.ofNat (z_ln q)) :: r) h
      | false => False)
    | _ => False)
  | .ireturn => (match st with
    | [.inl x] => Q (some (.inl x)) h
    | _ => False)
  | .jsr n => (match st with
    | [.inl x] => (match n with
      | 0 => (x = 0 ∨ x = 1) ∧ Q (some (.inl x)) h
      | 1 => narrow .byte (.int x) = .int x ∧ Q (some (.inl x)) h
      | 2 => narrow .char (.int x) = .int x ∧ Q (some (.inl x)) h
      | _ => False)
    | _ => False)
  | .lreturn => (match st with
    | [.inr (.inl x)] => Q (some (.inr (.inl x))) h
    | _ => False)
  | .areturn => (match st with
    | [.inr (.inr q)] => (match Nat.beq q.1 3 with
      | false => Q (some (.inr (.inr q))) h
      | true => False)
    | _ => False)
  | .return_ => (match st with
    | [] => Q none h
    | _ => False)
  | .invokeinterface y en => (match z_pop (en / 4 % 16) [] st with
    | some (as, r) => (match Nat.ble (z_cat r) 8 && (match en / 64, as with
        | 0, _ => true
        | k + 1, .inr (.inr q) :: _ => Nat.beq q.1 k
        | _, _ => false) with
      | true => (match en % 4 with
        | 0 => zOkV y as h (fun h1 => nc L r h1)
        | 1 => zOkI y as h (fun x h1 => nc L (.inl x :: r) h1)
        | 2 => zOkL y as h (fun x h1 => nc L (.inr (.inl x) :: r) h1)
        | _ => zOkR y as h (fun x h1 => nc L (.inr (.inr x) :: r) h1))
      | false => False)
    | none => False)
  | _ => False
def z_find : List (Nat × Instr) → Nat → List (Nat × Instr)
  | [], _ => []
  | (p, i) :: t, pc => match Nat.beq p pc with
    | true => (p, i) :: t
    | false => z_find t pc
def z_cutAt : List (Nat × List Bool) → Nat → Option (List Bool)
  | [], _ => none
  | (p, m) :: t, pc => match Nat.beq p pc with
    | true => some m
    | false => z_cutAt t pc
/-- from a place on: each way of the code up to its end, to a call's end or to a cut -/
def z_wp (y : Nat) (C : List (Nat × Instr)) (ct : List (Nat × List Bool)) (Q : Option zV → zH → Prop) (n : Nat) : List (Nat × Instr) → zL → List zV → zH → Prop :=
  Nat.rec (fun _ _ _ _ => False) (fun _ ih cs L st h => match cs with
    | [] => False
    | (_, i) :: rest => z_ins i
      (fun L st h => match rest with
        | [] => False
        | (p, _) :: _ => (match z_cutAt ct p with
          | some m => zAt y p (z_mask m L) st h Q
          | none => ih rest L st h))
      (fun L st h => match rest with
        | [] => False
        | (p, _) :: _ => (match z_cutAt ct p with
          | some m => zAt y p (z_mask m L) st h Q
          | none => zAt y p L st h Q))
      (fun p L st h => match z_cutAt ct p with
        | some m => zAt y p (z_mask m L) st h Q
        | none => ih (z_find C p) L st h) Q L st h) n
/-- the shape of a call: receiver's kind and one, how many values, what comes back -/
def z_kc (o : Nat) : Nat := if o < 13 then o + 10 else 0
def z_en (y : Nat) : Nat := ((if (z_m y).2.2.2.2.2.1.1 then 0 else z_kc (z_m y).2.2.2.2.1.1 + 1) * 16 + ((z_m y).2.2.2.2.2.1.2 + (if (z_m y).2.2.2.2.2.1.1 then 0 else 1))) * 4 + (match (z_m y).2.2.2.1 with
  | none => 0
  | some .long => 2
  | some (.object _) => 3
  | some (.array _) => 3
  | some _ => 1)
/-- which of the machine's instructions an instruction of ours is -/
def z_lk (o : Nat) (ret : Option FieldType) (pc : Nat) (r : Instr) : Instr := match r with
  | .iconst v => .iconst v
  | .bipush v => if (Int8.ofInt v).toInt32 = Int32.ofInt v then .iconst v else .nop
  | .sipush v => if (Int16.ofInt v).toInt32 = Int32.ofInt v then .iconst v else .nop
  | .lconst n => .jsr_w (n : Nat)
  | .ldc k => (match (z_kls.getD o []).find? (fun q => q.1 == k) with
    | some q => .iconst q.2.1
    | none => match (z_sls.getD o []).find? (fun q => q.1 == k) with
      | some q => .ldc q.2.1
      | none => .nop)
  | .ldc_w k => (match (z_kls.getD o []).find? (fun q => q.1 == k) with
    | some q => .iconst q.2.1
    | none => .nop)
  | .ldc2_w k => (match (z_lls.getD o []).find? (fun q => q.1 == k) with
    | some q => .jsr_w q.2.1
    | none => .nop)
  | .iload n => .iload n
  | .iload_n n => .iload n
  | .lload n => .lload n
  | .lload_n n => .lload n
  | .aload n => .aload n
  | .aload_n n => .aload n
  | .istore n => .istore n
  | .istore_n n => .istore n
  | .lstore n => .lstore n
  | .lstore_n n => .lstore n
  | .astore n => .astore n
  | .astore_n n => .astore n
  | .iinc n v => .iinc n v
  | .iadd => .iadd
  | .isub => .isub
  | .imul => .imul
  | .iand => .iand
  | .ior => .ior
  | .ixor => .ixor
  | .idiv => .idiv
  | .irem => .irem
  | .ishl => .ishl
  | .ishr => .ishr
  | .ladd => .ladd
  | .lsub => .lsub
  | .lmul => .lmul
  | .land => .land
  | .lor => .lor
  | .ldiv => .ldiv
  | .lrem => .lrem
  | .lshl => .lshl
  | .lshr => .lshr
  | .lushr => .lushr
  | .lcmp => .lcmp
  | .i2l => .i2l
  | .l2i => .l2i
  | .i2b => .i2b
  | .i2c => .i2c
  | .dup => .dup
  | .dup2 => .dup2
  | .pop => .pop
  | .ifCond c off => .ifCond c (pc + off)
  | .if_icmp c off => .if_icmp c (pc + off)
  | .goto off => .goto (pc + off)
  | .tableswitch d lo hi ts => .tableswitch (pc + d) lo hi (ts.map (fun t => pc + t))
  | .lookupswitch d ps => .lookupswitch (pc + d) (ps.map (fun t => (t.1, pc + t.2)))
  | .getfield k => (match (z_fls.getD o []).find? (fun q => q.1 == k) with
    | some q => .getfield q.2.1
    | none => .nop)
  | .putfield k => (match (z_fls.getD o []).find? (fun q => q.1 == k) with
    | some q => .putfield q.2.1
    | none => .nop)
  | .getstatic k => (match (z_gls.getD o []).find? (fun q => q.1 == k) with
    | some q => .getstatic q.2.1
    | none => .nop)
  | .iaload => .iaload
  | .laload => .laload
  | .baload => .baload
  | .aaload => .aaload
  | .iastore => .iastore
  | .lastore => .lastore
  | .bastore => .bastore
  | .aastore => .aastore
  | .arraylength => .arraylength
  | .ireturn => (match ret with
    | some .int => .ireturn
    | some .boolean => .jsr 0
    | some .byte => .jsr 1
    | some .char => .jsr 2
    | _ => .nop)
  | .lreturn => .lreturn
  | .areturn => .areturn
  | .return_ => .return_
  | .invokevirtual k => (match (z_mls.getD o []).find? (fun q => q.1 == k) with
    | some q => if q.2.2.1 = 0 then .invokeinterface q.2.1 (z_en q.2.1) else .nop
    | none => .nop)
  | .invokestatic k => (match (z_mls.getD o []).find? (fun q => q.1 == k) with
    | some q => if q.2.2.1 = 0 then .nop else .invokeinterface q.2.1 (z_en q.2.1)
    | none => .nop)
  | _ => .nop
/-- the code of a method, checked against its bytes -/
def z_okc (o : Nat) (ret : Option FieldType) (by_ : ByteArray) : List (Nat × Instr) → Bool
  | [] => true
  | (pc, i) :: t => (match decode by_ pc with
    | .ok (r, len) => decide (z_lk o ret pc r = i) && (match t with
      | [] => true
      | (p, _) :: _ => Nat.beq p (pc + len))
    | .error _ => false) && z_okc o ret by_ t
end
