section
/-- a private method of a class that the tables say can be made, by its rows of tables_1 -/
def lw_okq (q : MethodName × Nat) : Prop := (q.1.cls ≠ "java/lang/invoke/MethodHandle" ∧ q.1.cls ≠ "java/lang/invoke/VarHandle") ∧ Cond.instantiable q.1.cls q.2 ∈ tables_1 ∧ Cond.privateMethod q.1 ∈ tables_1 ∧ Cond.instanceMethod q.1 ∈ tables_1
theorem lw_p0 : lw_okq (⟨"JobText$Words", "here", "()I"⟩, 13) := ⟨⟨by decide +kernel, by decide +kernel⟩, List.mem_of_getElem? (i := 416) (by decide +kernel), List.mem_of_getElem? (i := 694) (by decide +kernel), List.mem_of_getElem? (i := 695) (by decide +kernel)⟩
theorem lw_p1 : lw_okq (⟨"JobText$Words", "meetComment", "()V"⟩, 13) := ⟨⟨by decide +kernel, by decide +kernel⟩, List.mem_of_getElem? (i := 416) (by decide +kernel), List.mem_of_getElem? (i := 699) (by decide +kernel), List.mem_of_getElem? (i := 700) (by decide +kernel)⟩
theorem lw_p2 : lw_okq (⟨"JobText$Words", "lookAtName", "()V"⟩, 13) := ⟨⟨by decide +kernel, by decide +kernel⟩, List.mem_of_getElem? (i := 416) (by decide +kernel), List.mem_of_getElem? (i := 719) (by decide +kernel), List.mem_of_getElem? (i := 720) (by decide +kernel)⟩
theorem lw_p3 : lw_okq (⟨"JobText$Words", "lookAtNumber", "()V"⟩, 13) := ⟨⟨by decide +kernel, by decide +kernel⟩, List.mem_of_getElem? (i := 416) (by decide +kernel), List.mem_of_getElem? (i := 728) (by decide +kernel), List.mem_of_getElem? (i := 729) (by decide +kernel)⟩
theorem lw_p4 : lw_okq (⟨"JobText$Reader", "meetToken", "()V"⟩, 10) := ⟨⟨by decide +kernel, by decide +kernel⟩, List.mem_of_getElem? (i := 410) (by decide +kernel), List.mem_of_getElem? (i := 790) (by decide +kernel), List.mem_of_getElem? (i := 791) (by decide +kernel)⟩
theorem lw_p5 : lw_okq (⟨"JobText$Reader", "tellHere", "(I)V"⟩, 10) := ⟨⟨by decide +kernel, by decide +kernel⟩, List.mem_of_getElem? (i := 410) (by decide +kernel), List.mem_of_getElem? (i := 796) (by decide +kernel), List.mem_of_getElem? (i := 797) (by decide +kernel)⟩
theorem lw_p6 : lw_okq (⟨"JobText$Reader", "beginStatement", "()V"⟩, 10) := ⟨⟨by decide +kernel, by decide +kernel⟩, List.mem_of_getElem? (i := 410) (by decide +kernel), List.mem_of_getElem? (i := 801) (by decide +kernel), List.mem_of_getElem? (i := 802) (by decide +kernel)⟩
theorem lw_p7 : lw_okq (⟨"JobText$Reader", "goOnWithUse", "()V"⟩, 10) := ⟨⟨by decide +kernel, by decide +kernel⟩, List.mem_of_getElem? (i := 410) (by decide +kernel), List.mem_of_getElem? (i := 809) (by decide +kernel), List.mem_of_getElem? (i := 810) (by decide +kernel)⟩
theorem lw_p8 : lw_okq (⟨"JobText$Reader", "goOnWithLine", "()V"⟩, 10) := ⟨⟨by decide +kernel, by decide +kernel⟩, List.mem_of_getElem? (i := 410) (by decide +kernel), List.mem_of_getElem? (i := 819) (by decide +kernel), List.mem_of_getElem? (i := 820) (by decide +kernel)⟩
theorem lw_p9 : lw_okq (⟨"JobText$Reader", "beginSet", "()V"⟩, 10) := ⟨⟨by decide +kernel, by decide +kernel⟩, List.mem_of_getElem? (i := 410) (by decide +kernel), List.mem_of_getElem? (i := 823) (by decide +kernel), List.mem_of_getElem? (i := 824) (by decide +kernel)⟩
theorem lw_p10 : lw_okq (⟨"JobText$Reader", "beginLoop", "()V"⟩, 10) := ⟨⟨by decide +kernel, by decide +kernel⟩, List.mem_of_getElem? (i := 410) (by decide +kernel), List.mem_of_getElem? (i := 839) (by decide +kernel), List.mem_of_getElem? (i := 840) (by decide +kernel)⟩
theorem lw_p11 : lw_okq (⟨"JobText$Reader", "goOnWithOperator", "()V"⟩, 10) := ⟨⟨by decide +kernel, by decide +kernel⟩, List.mem_of_getElem? (i := 410) (by decide +kernel), List.mem_of_getElem? (i := 843) (by decide +kernel), List.mem_of_getElem? (i := 844) (by decide +kernel)⟩
theorem lw_p12 : lw_okq (⟨"JobText$Reader", "beginOperator", "()V"⟩, 10) := ⟨⟨by decide +kernel, by decide +kernel⟩, List.mem_of_getElem? (i := 410) (by decide +kernel), List.mem_of_getElem? (i := 847) (by decide +kernel), List.mem_of_getElem? (i := 848) (by decide +kernel)⟩
theorem lw_p13 : lw_okq (⟨"JobText$Reader", "tellKind", "(I)V"⟩, 10) := ⟨⟨by decide +kernel, by decide +kernel⟩, List.mem_of_getElem? (i := 410) (by decide +kernel), List.mem_of_getElem? (i := 859) (by decide +kernel), List.mem_of_getElem? (i := 860) (by decide +kernel)⟩
theorem lw_p14 : lw_okq (⟨"JobText$Reader", "addInput", "()V"⟩, 10) := ⟨⟨by decide +kernel, by decide +kernel⟩, List.mem_of_getElem? (i := 410) (by decide +kernel), List.mem_of_getElem? (i := 868) (by decide +kernel), List.mem_of_getElem? (i := 869) (by decide +kernel)⟩
theorem lw_p15 : lw_okq (⟨"JobText$Reader", "goOnWithProperty", "()V"⟩, 10) := ⟨⟨by decide +kernel, by decide +kernel⟩, List.mem_of_getElem? (i := 410) (by decide +kernel), List.mem_of_getElem? (i := 880) (by decide +kernel), List.mem_of_getElem? (i := 881) (by decide +kernel)⟩
def lw_privs_1 : List (MethodName × Nat) := [(⟨"JobText$Words", "here", "()I"⟩, 13), (⟨"JobText$Words", "meetComment", "()V"⟩, 13), (⟨"JobText$Words", "lookAtName", "()V"⟩, 13), (⟨"JobText$Words", "lookAtNumber", "()V"⟩, 13), (⟨"JobText$Reader", "meetToken", "()V"⟩, 10), (⟨"JobText$Reader", "tellHere", "(I)V"⟩, 10), (⟨"JobText$Reader", "beginStatement", "()V"⟩, 10), (⟨"JobText$Reader", "goOnWithUse", "()V"⟩, 10), (⟨"JobText$Reader", "goOnWithLine", "()V"⟩, 10), (⟨"JobText$Reader", "beginSet", "()V"⟩, 10), (⟨"JobText$Reader", "beginLoop", "()V"⟩, 10), (⟨"JobText$Reader", "goOnWithOperator", "()V"⟩, 10), (⟨"JobText$Reader", "beginOperator", "()V"⟩, 10), (⟨"JobText$Reader", "tellKind", "(I)V"⟩, 10), (⟨"JobText$Reader", "addInput", "()V"⟩, 10), (⟨"JobText$Reader", "goOnWithProperty", "()V"⟩, 10)]
theorem lw_r1 : ∀ q ∈ lw_privs_1, lw_okq q := List.forall_mem_cons.mpr ⟨lw_p0, List.forall_mem_cons.mpr ⟨lw_p1, List.forall_mem_cons.mpr ⟨lw_p2, List.forall_mem_cons.mpr ⟨lw_p3, List.forall_mem_cons.mpr ⟨lw_p4, List.forall_mem_cons.mpr ⟨lw_p5, List.forall_mem_cons.mpr ⟨lw_p6, List.forall_mem_cons.mpr ⟨lw_p7, List.forall_mem_cons.mpr ⟨lw_p8, List.forall_mem_cons.mpr ⟨lw_p9, List.forall_mem_cons.mpr ⟨lw_p10, List.forall_mem_cons.mpr ⟨lw_p11, List.forall_mem_cons.mpr ⟨lw_p12, List.forall_mem_cons.mpr ⟨lw_p13, List.forall_mem_cons.mpr ⟨lw_p14, List.forall_mem_cons.mpr ⟨lw_p15, fun _ h => absurd h List.not_mem_nil⟩⟩⟩⟩⟩⟩⟩⟩⟩⟩⟩⟩⟩⟩⟩⟩
theorem lw_p16 : lw_okq (⟨"JobText$Reader", "boundedNumber", "(II)I"⟩, 10) := ⟨⟨by decide +kernel, by decide +kernel⟩, List.mem_of_getElem? (i := 410) (by decide +kernel), List.mem_of_getElem? (i := 884) (by decide +kernel), List.mem_of_getElem? (i := 885) (by decide +kernel)⟩
theorem lw_p17 : lw_okq (⟨"JobText$Reader", "addSide", "()V"⟩, 10) := ⟨⟨by decide +kernel, by decide +kernel⟩, List.mem_of_getElem? (i := 410) (by decide +kernel), List.mem_of_getElem? (i := 889) (by decide +kernel), List.mem_of_getElem? (i := 890) (by decide +kernel)⟩
theorem lw_p18 : lw_okq (⟨"JobText$Reader", "goOnBehind", "()V"⟩, 10) := ⟨⟨by decide +kernel, by decide +kernel⟩, List.mem_of_getElem? (i := 410) (by decide +kernel), List.mem_of_getElem? (i := 897) (by decide +kernel), List.mem_of_getElem? (i := 898) (by decide +kernel)⟩
theorem lw_p19 : lw_okq (⟨"JobText$Judge", "judgeOperator", "(LJobText$Job;LJobText$Operator;)V"⟩, 2) := ⟨⟨by decide +kernel, by decide +kernel⟩, List.mem_of_getElem? (i := 567) (by decide +kernel), List.mem_of_getElem? (i := 908) (by decide +kernel), List.mem_of_getElem? (i := 909) (by decide +kernel)⟩
theorem lw_p20 : lw_okq (⟨"JobText$Judge", "judgeInput", "(LJobText$Job;LJobText$Operator;LJobText$Input;)V"⟩, 2) := ⟨⟨by decide +kernel, by decide +kernel⟩, List.mem_of_getElem? (i := 567) (by decide +kernel), List.mem_of_getElem? (i := 912) (by decide +kernel), List.mem_of_getElem? (i := 913) (by decide +kernel)⟩
theorem lw_p21 : lw_okq (⟨"JobText$Judge", "judgeLoop", "(LJobText$Job;LJobText$Pair;)V"⟩, 2) := ⟨⟨by decide +kernel, by decide +kernel⟩, List.mem_of_getElem? (i := 567) (by decide +kernel), List.mem_of_getElem? (i := 923) (by decide +kernel), List.mem_of_getElem? (i := 924) (by decide +kernel)⟩
theorem lw_p22 : lw_okq (⟨"JobText$Judge", "findOrigins", "(LJobText$Job;)V"⟩, 2) := ⟨⟨by decide +kernel, by decide +kernel⟩, List.mem_of_getElem? (i := 567) (by decide +kernel), List.mem_of_getElem? (i := 927) (by decide +kernel), List.mem_of_getElem? (i := 928) (by decide +kernel)⟩
theorem lw_p23 : lw_okq (⟨"JobText$Judge", "comesFrom", "(II)Z"⟩, 2) := ⟨⟨by decide +kernel, by decide +kernel⟩, List.mem_of_getElem? (i := 567) (by decide +kernel), List.mem_of_getElem? (i := 931) (by decide +kernel), List.mem_of_getElem? (i := 932) (by decide +kernel)⟩
theorem lw_p24 : lw_okq (⟨"JobText$Judge", "judgeCycles", "(LJobText$Job;)V"⟩, 2) := ⟨⟨by decide +kernel, by decide +kernel⟩, List.mem_of_getElem? (i := 567) (by decide +kernel), List.mem_of_getElem? (i := 935) (by decide +kernel), List.mem_of_getElem? (i := 936) (by decide +kernel)⟩
theorem lw_p25 : lw_okq (⟨"JobText$Judge", "judgeLoopBack", "(LJobText$Pair;)V"⟩, 2) := ⟨⟨by decide +kernel, by decide +kernel⟩, List.mem_of_getElem? (i := 567) (by decide +kernel), List.mem_of_getElem? (i := 939) (by decide +kernel), List.mem_of_getElem? (i := 940) (by decide +kernel)⟩
theorem lw_p26 : lw_okq (⟨"JobText$Layout", "firstReady", "(LJobText$Job;)I"⟩, 15) := ⟨⟨by decide +kernel, by decide +kernel⟩, List.mem_of_getElem? (i := 261) (by decide +kernel), List.mem_of_getElem? (i := 947) (by decide +kernel), List.mem_of_getElem? (i := 948) (by decide +kernel)⟩
theorem lw_p27 : lw_okq (⟨"JobText$Layout", "inputsStand", "(LJobText$Operator;)Z"⟩, 15) := ⟨⟨by decide +kernel, by decide +kernel⟩, List.mem_of_getElem? (i := 261) (by decide +kernel), List.mem_of_getElem? (i := 951) (by decide +kernel), List.mem_of_getElem? (i := 952) (by decide +kernel)⟩
theorem lw_p28 : lw_okq (⟨"JobText$Layout", "levelOf", "(LJobText$Operator;)I"⟩, 15) := ⟨⟨by decide +kernel, by decide +kernel⟩, List.mem_of_getElem? (i := 261) (by decide +kernel), List.mem_of_getElem? (i := 955) (by decide +kernel), List.mem_of_getElem? (i := 956) (by decide +kernel)⟩
theorem lw_p29 : lw_okq (⟨"JobText$Layout", "keyOf", "(LJobText$Operator;)J"⟩, 15) := ⟨⟨by decide +kernel, by decide +kernel⟩, List.mem_of_getElem? (i := 261) (by decide +kernel), List.mem_of_getElem? (i := 960) (by decide +kernel), List.mem_of_getElem? (i := 961) (by decide +kernel)⟩
theorem lw_p30 : lw_okq (⟨"JobText$Judge", "judgeKeys", "(LJobText$Job;)V"⟩, 2) := ⟨⟨by decide +kernel, by decide +kernel⟩, List.mem_of_getElem? (i := 567) (by decide +kernel), List.mem_of_getElem? (i := 968) (by decide +kernel), List.mem_of_getElem? (i := 969) (by decide +kernel)⟩
theorem lw_p31 : lw_okq (⟨"JobText", "newNames", "(LJobText$Job;)I"⟩, 12) := ⟨⟨by decide +kernel, by decide +kernel⟩, List.mem_of_getElem? (i := 21) (by decide +kernel), List.mem_of_getElem? (i := 977) (by decide +kernel), List.mem_of_getElem? (i := 978) (by decide +kernel)⟩
def lw_privs_2 : List (MethodName × Nat) := [(⟨"JobText$Reader", "boundedNumber", "(II)I"⟩, 10), (⟨"JobText$Reader", "addSide", "()V"⟩, 10), (⟨"JobText$Reader", "goOnBehind", "()V"⟩, 10), (⟨"JobText$Judge", "judgeOperator", "(LJobText$Job;LJobText$Operator;)V"⟩, 2), (⟨"JobText$Judge", "judgeInput", "(LJobText$Job;LJobText$Operator;LJobText$Input;)V"⟩, 2), (⟨"JobText$Judge", "judgeLoop", "(LJobText$Job;LJobText$Pair;)V"⟩, 2), (⟨"JobText$Judge", "findOrigins", "(LJobText$Job;)V"⟩, 2), (⟨"JobText$Judge", "comesFrom", "(II)Z"⟩, 2), (⟨"JobText$Judge", "judgeCycles", "(LJobText$Job;)V"⟩, 2), (⟨"JobText$Judge", "judgeLoopBack", "(LJobText$Pair;)V"⟩, 2), (⟨"JobText$Layout", "firstReady", "(LJobText$Job;)I"⟩, 15), (⟨"JobText$Layout", "inputsStand", "(LJobText$Operator;)Z"⟩, 15), (⟨"JobText$Layout", "levelOf", "(LJobText$Operator;)I"⟩, 15), (⟨"JobText$Layout", "keyOf", "(LJobText$Operator;)J"⟩, 15), (⟨"JobText$Judge", "judgeKeys", "(LJobText$Job;)V"⟩, 2), (⟨"JobText", "newNames", "(LJobText$Job;)I"⟩, 12)]
theorem lw_r2 : ∀ q ∈ lw_privs_2, lw_okq q := List.forall_mem_cons.mpr ⟨lw_p16, List.forall_mem_cons.mpr ⟨lw_p17, List.forall_mem_cons.mpr ⟨lw_p18, List.forall_mem_cons.mpr ⟨lw_p19, List.forall_mem_cons.mpr ⟨lw_p20, List.forall_mem_cons.mpr ⟨lw_p21, List.forall_mem_cons.mpr ⟨lw_p22, List.forall_mem_cons.mpr ⟨lw_p23, List.forall_mem_cons.mpr ⟨lw_p24, List.forall_mem_cons.mpr ⟨lw_p25, List.forall_mem_cons.mpr ⟨lw_p26, List.forall_mem_cons.mpr ⟨lw_p27, List.forall_mem_cons.mpr ⟨lw_p28, List.forall_mem_cons.mpr ⟨lw_p29, List.forall_mem_cons.mpr ⟨lw_p30, List.forall_mem_cons.mpr ⟨lw_p31, fun _ h => absurd h List.not_mem_nil⟩⟩⟩⟩⟩⟩⟩⟩⟩⟩⟩⟩⟩⟩⟩⟩
theorem lw_p32 : lw_okq (⟨"JobText", "numberOf", "(J)I"⟩, 12) := ⟨⟨by decide +kernel, by decide +kernel⟩, List.mem_of_getElem? (i := 21) (by decide +kernel), List.mem_of_getElem? (i := 981) (by decide +kernel), List.mem_of_getElem? (i := 982) (by decide +kernel)⟩
theorem lw_p33 : lw_okq (⟨"JobText", "giveNumbers", "(LJobText$Job;)V"⟩, 12) := ⟨⟨by decide +kernel, by decide +kernel⟩, List.mem_of_getElem? (i := 21) (by decide +kernel), List.mem_of_getElem? (i := 985) (by decide +kernel), List.mem_of_getElem? (i := 986) (by decide +kernel)⟩
theorem lw_p34 : lw_okq (⟨"JobText$Layout", "reckonFlow", "(LJobText$Operator;I)V"⟩, 15) := ⟨⟨by decide +kernel, by decide +kernel⟩, List.mem_of_getElem? (i := 261) (by decide +kernel), List.mem_of_getElem? (i := 993) (by decide +kernel), List.mem_of_getElem? (i := 994) (by decide +kernel)⟩
theorem lw_p35 : lw_okq (⟨"JobText$Layout", "findWhatComes", "(LJobText$Operator;)V"⟩, 15) := ⟨⟨by decide +kernel, by decide +kernel⟩, List.mem_of_getElem? (i := 261) (by decide +kernel), List.mem_of_getElem? (i := 997) (by decide +kernel), List.mem_of_getElem? (i := 998) (by decide +kernel)⟩
theorem lw_p36 : lw_okq (⟨"JobText$Layout", "flowOf", "(LJobText$Input;)LJobText$Flow;"⟩, 15) := ⟨⟨by decide +kernel, by decide +kernel⟩, List.mem_of_getElem? (i := 261) (by decide +kernel), List.mem_of_getElem? (i := 1009) (by decide +kernel), List.mem_of_getElem? (i := 1010) (by decide +kernel)⟩
theorem lw_p37 : lw_okq (⟨"JobText$Layout", "countReaders", "(LJobText$Job;)V"⟩, 15) := ⟨⟨by decide +kernel, by decide +kernel⟩, List.mem_of_getElem? (i := 261) (by decide +kernel), List.mem_of_getElem? (i := 1031) (by decide +kernel), List.mem_of_getElem? (i := 1032) (by decide +kernel)⟩
theorem lw_p38 : lw_okq (⟨"JobText$Layout", "findChains", "(LJobText$Job;)V"⟩, 15) := ⟨⟨by decide +kernel, by decide +kernel⟩, List.mem_of_getElem? (i := 261) (by decide +kernel), List.mem_of_getElem? (i := 1035) (by decide +kernel), List.mem_of_getElem? (i := 1036) (by decide +kernel)⟩
theorem lw_p39 : lw_okq (⟨"JobText$Layout", "isFused", "(LJobText$Job;LJobText$Operator;)Z"⟩, 15) := ⟨⟨by decide +kernel, by decide +kernel⟩, List.mem_of_getElem? (i := 261) (by decide +kernel), List.mem_of_getElem? (i := 1039) (by decide +kernel), List.mem_of_getElem? (i := 1040) (by decide +kernel)⟩
theorem lw_p40 : lw_okq (⟨"JobText$Layout", "countChannels", "(LJobText$Job;)V"⟩, 15) := ⟨⟨by decide +kernel, by decide +kernel⟩, List.mem_of_getElem? (i := 261) (by decide +kernel), List.mem_of_getElem? (i := 1047) (by decide +kernel), List.mem_of_getElem? (i := 1048) (by decide +kernel)⟩
theorem lw_p41 : lw_okq (⟨"JobText$Layout", "channelsBetween", "(LJobText$Job;II)I"⟩, 15) := ⟨⟨by decide +kernel, by decide +kernel⟩, List.mem_of_getElem? (i := 261) (by decide +kernel), List.mem_of_getElem? (i := 1051) (by decide +kernel), List.mem_of_getElem? (i := 1052) (by decide +kernel)⟩
theorem lw_p42 : lw_okq (⟨"JobText", "putJob", "(I)V"⟩, 12) := ⟨⟨by decide +kernel, by decide +kernel⟩, List.mem_of_getElem? (i := 21) (by decide +kernel), List.mem_of_getElem? (i := 1055) (by decide +kernel), List.mem_of_getElem? (i := 1056) (by decide +kernel)⟩
theorem lw_p43 : lw_okq (⟨"JobText", "refusal", "(III)I"⟩, 12) := ⟨⟨by decide +kernel, by decide +kernel⟩, List.mem_of_getElem? (i := 21) (by decide +kernel), List.mem_of_getElem? (i := 1071) (by decide +kernel), List.mem_of_getElem? (i := 1072) (by decide +kernel)⟩
theorem lw_p44 : lw_okq (⟨"JobText", "operatorRefusal", "(IIII)I"⟩, 12) := ⟨⟨by decide +kernel, by decide +kernel⟩, List.mem_of_getElem? (i := 21) (by decide +kernel), List.mem_of_getElem? (i := 1083) (by decide +kernel), List.mem_of_getElem? (i := 1084) (by decide +kernel)⟩
theorem lw_p45 : lw_okq (⟨"JobText$Job", "printComment", "(LJobText$Bytes;I)V"⟩, 14) := ⟨⟨by decide +kernel, by decide +kernel⟩, List.mem_of_getElem? (i := 78) (by decide +kernel), List.mem_of_getElem? (i := 1136) (by decide +kernel), List.mem_of_getElem? (i := 1137) (by decide +kernel)⟩
theorem lw_p46 : lw_okq (⟨"JobText$Job", "printStatement", "(LJobText$Bytes;I)V"⟩, 14) := ⟨⟨by decide +kernel, by decide +kernel⟩, List.mem_of_getElem? (i := 78) (by decide +kernel), List.mem_of_getElem? (i := 1145) (by decide +kernel), List.mem_of_getElem? (i := 1146) (by decide +kernel)⟩
theorem lw_p47 : lw_okq (⟨"JobText$Operator", "kindWord", "()Ljava/lang/String;"⟩, 16) := ⟨⟨by decide +kernel, by decide +kernel⟩, List.mem_of_getElem? (i := 85) (by decide +kernel), List.mem_of_getElem? (i := 1168) (by decide +kernel), List.mem_of_getElem? (i := 1169) (by decide +kernel)⟩
def lw_privs_3 : List (MethodName × Nat) := [(⟨"JobText", "numberOf", "(J)I"⟩, 12), (⟨"JobText", "giveNumbers", "(LJobText$Job;)V"⟩, 12), (⟨"JobText$Layout", "reckonFlow", "(LJobText$Operator;I)V"⟩, 15), (⟨"JobText$Layout", "findWhatComes", "(LJobText$Operator;)V"⟩, 15), (⟨"JobText$Layout", "flowOf", "(LJobText$Input;)LJobText$Flow;"⟩, 15), (⟨"JobText$Layout", "countReaders", "(LJobText$Job;)V"⟩, 15), (⟨"JobText$Layout", "findChains", "(LJobText$Job;)V"⟩, 15), (⟨"JobText$Layout", "isFused", "(LJobText$Job;LJobText$Operator;)Z"⟩, 15), (⟨"JobText$Layout", "countChannels", "(LJobText$Job;)V"⟩, 15), (⟨"JobText$Layout", "channelsBetween", "(LJobText$Job;II)I"⟩, 15), (⟨"JobText", "putJob", "(I)V"⟩, 12), (⟨"JobText", "refusal", "(III)I"⟩, 12), (⟨"JobText", "operatorRefusal", "(IIII)I"⟩, 12), (⟨"JobText$Job", "printComment", "(LJobText$Bytes;I)V"⟩, 14), (⟨"JobText$Job", "printStatement", "(LJobText$Bytes;I)V"⟩, 14), (⟨"JobText$Operator", "kindWord", "()Ljava/lang/String;"⟩, 16)]
theorem lw_r3 : ∀ q ∈ lw_privs_3, lw_okq q := List.forall_mem_cons.mpr ⟨lw_p32, List.forall_mem_cons.mpr ⟨lw_p33, List.forall_mem_cons.mpr ⟨lw_p34, List.forall_mem_cons.mpr ⟨lw_p35, List.forall_mem_cons.mpr ⟨lw_p36, List.forall_mem_cons.mpr ⟨lw_p37, List.forall_mem_cons.mpr ⟨lw_p38, List.forall_mem_cons.mpr ⟨lw_p39, List.forall_mem_cons.mpr ⟨lw_p40, List.forall_mem_cons.mpr ⟨lw_p41, List.forall_mem_cons.mpr ⟨lw_p42, List.forall_mem_cons.mpr ⟨lw_p43, List.forall_mem_cons.mpr ⟨lw_p44, List.forall_mem_cons.mpr ⟨lw_p45, List.forall_mem_cons.mpr ⟨lw_p46, List.forall_mem_cons.mpr ⟨lw_p47, fun _ h => absurd h List.not_mem_nil⟩⟩⟩⟩⟩⟩⟩⟩⟩⟩⟩⟩⟩⟩⟩⟩
theorem lw_p48 : lw_okq (⟨"JobText$Operator", "printInputs", "(LJobText$Bytes;)V"⟩, 16) := ⟨⟨by decide +kernel, by decide +kernel⟩, List.mem_of_getElem? (i := 85) (by decide +kernel), List.mem_of_getElem? (i := 1181) (by decide +kernel), List.mem_of_getElem? (i := 1182) (by decide +kernel)⟩
theorem lw_p49 : lw_okq (⟨"JobText$Operator", "printSides", "(LJobText$Bytes;)V"⟩, 16) := ⟨⟨by decide +kernel, by decide +kernel⟩, List.mem_of_getElem? (i := 85) (by decide +kernel), List.mem_of_getElem? (i := 1199) (by decide +kernel), List.mem_of_getElem? (i := 1200) (by decide +kernel)⟩
theorem lw_p50 : lw_okq (⟨"JobText", "compareFirst", "()V"⟩, 12) := ⟨⟨by decide +kernel, by decide +kernel⟩, List.mem_of_getElem? (i := 21) (by decide +kernel), List.mem_of_getElem? (i := 1234) (by decide +kernel), List.mem_of_getElem? (i := 1235) (by decide +kernel)⟩
theorem lw_p51 : lw_okq (⟨"JobText", "addDifference", "(III)V"⟩, 12) := ⟨⟨by decide +kernel, by decide +kernel⟩, List.mem_of_getElem? (i := 21) (by decide +kernel), List.mem_of_getElem? (i := 1239) (by decide +kernel), List.mem_of_getElem? (i := 1240) (by decide +kernel)⟩
theorem lw_p52 : lw_okq (⟨"JobText$Operator", "hasInputsOf", "(LJobText$Operator;)Z"⟩, 16) := ⟨⟨by decide +kernel, by decide +kernel⟩, List.mem_of_getElem? (i := 85) (by decide +kernel), List.mem_of_getElem? (i := 1247) (by decide +kernel), List.mem_of_getElem? (i := 1248) (by decide +kernel)⟩
theorem lw_p53 : lw_okq (⟨"JobText$Operator", "hasSidesOf", "(LJobText$Operator;)Z"⟩, 16) := ⟨⟨by decide +kernel, by decide +kernel⟩, List.mem_of_getElem? (i := 85) (by decide +kernel), List.mem_of_getElem? (i := 1255) (by decide +kernel), List.mem_of_getElem? (i := 1256) (by decide +kernel)⟩
theorem lw_p54 : lw_okq (⟨"JobText", "findNew", "()V"⟩, 12) := ⟨⟨by decide +kernel, by decide +kernel⟩, List.mem_of_getElem? (i := 21) (by decide +kernel), List.mem_of_getElem? (i := 1259) (by decide +kernel), List.mem_of_getElem? (i := 1260) (by decide +kernel)⟩
theorem lw_p55 : lw_okq (⟨"JobTextModel", "readText", "(I)Z"⟩, 82) := ⟨⟨by decide +kernel, by decide +kernel⟩, List.mem_of_getElem? (i := 1275) (by decide +kernel), List.mem_of_getElem? (i := 1552) (by decide +kernel), List.mem_of_getElem? (i := 1553) (by decide +kernel)⟩
theorem lw_p56 : lw_okq (⟨"JobTextModel", "empty", "()V"⟩, 82) := ⟨⟨by decide +kernel, by decide +kernel⟩, List.mem_of_getElem? (i := 1275) (by decide +kernel), List.mem_of_getElem? (i := 1556) (by decide +kernel), List.mem_of_getElem? (i := 1557) (by decide +kernel)⟩
theorem lw_p57 : lw_okq (⟨"JobTextModel", "want", "(I)Z"⟩, 82) := ⟨⟨by decide +kernel, by decide +kernel⟩, List.mem_of_getElem? (i := 1275) (by decide +kernel), List.mem_of_getElem? (i := 1560) (by decide +kernel), List.mem_of_getElem? (i := 1561) (by decide +kernel)⟩
theorem lw_p58 : lw_okq (⟨"JobTextModel", "look", "()Z"⟩, 82) := ⟨⟨by decide +kernel, by decide +kernel⟩, List.mem_of_getElem? (i := 1275) (by decide +kernel), List.mem_of_getElem? (i := 1564) (by decide +kernel), List.mem_of_getElem? (i := 1565) (by decide +kernel)⟩
theorem lw_p59 : lw_okq (⟨"JobTextModel", "pass", "()Z"⟩, 82) := ⟨⟨by decide +kernel, by decide +kernel⟩, List.mem_of_getElem? (i := 1275) (by decide +kernel), List.mem_of_getElem? (i := 1568) (by decide +kernel), List.mem_of_getElem? (i := 1569) (by decide +kernel)⟩
theorem lw_p60 : lw_okq (⟨"JobTextModel", "byteAt", "(I)I"⟩, 82) := ⟨⟨by decide +kernel, by decide +kernel⟩, List.mem_of_getElem? (i := 1275) (by decide +kernel), List.mem_of_getElem? (i := 1572) (by decide +kernel), List.mem_of_getElem? (i := 1573) (by decide +kernel)⟩
theorem lw_p61 : lw_okq (⟨"JobTextModel", "keepComment", "(II)Z"⟩, 82) := ⟨⟨by decide +kernel, by decide +kernel⟩, List.mem_of_getElem? (i := 1275) (by decide +kernel), List.mem_of_getElem? (i := 1576) (by decide +kernel), List.mem_of_getElem? (i := 1577) (by decide +kernel)⟩
theorem lw_p62 : lw_okq (⟨"JobTextModel", "wrong", "(III)Z"⟩, 82) := ⟨⟨by decide +kernel, by decide +kernel⟩, List.mem_of_getElem? (i := 1275) (by decide +kernel), List.mem_of_getElem? (i := 1580) (by decide +kernel), List.mem_of_getElem? (i := 1581) (by decide +kernel)⟩
theorem lw_p63 : lw_okq (⟨"JobTextModel", "readUse", "()Z"⟩, 82) := ⟨⟨by decide +kernel, by decide +kernel⟩, List.mem_of_getElem? (i := 1275) (by decide +kernel), List.mem_of_getElem? (i := 1600) (by decide +kernel), List.mem_of_getElem? (i := 1601) (by decide +kernel)⟩
def lw_privs_4 : List (MethodName × Nat) := [(⟨"JobText$Operator", "printInputs", "(LJobText$Bytes;)V"⟩, 16), (⟨"JobText$Operator", "printSides", "(LJobText$Bytes;)V"⟩, 16), (⟨"JobText", "compareFirst", "()V"⟩, 12), (⟨"JobText", "addDifference", "(III)V"⟩, 12), (⟨"JobText$Operator", "hasInputsOf", "(LJobText$Operator;)Z"⟩, 16), (⟨"JobText$Operator", "hasSidesOf", "(LJobText$Operator;)Z"⟩, 16), (⟨"JobText", "findNew", "()V"⟩, 12), (⟨"JobTextModel", "readText", "(I)Z"⟩, 82), (⟨"JobTextModel", "empty", "()V"⟩, 82), (⟨"JobTextModel", "want", "(I)Z"⟩, 82), (⟨"JobTextModel", "look", "()Z"⟩, 82), (⟨"JobTextModel", "pass", "()Z"⟩, 82), (⟨"JobTextModel", "byteAt", "(I)I"⟩, 82), (⟨"JobTextModel", "keepComment", "(II)Z"⟩, 82), (⟨"JobTextModel", "wrong", "(III)Z"⟩, 82), (⟨"JobTextModel", "readUse", "()Z"⟩, 82)]
theorem lw_r4 : ∀ q ∈ lw_privs_4, lw_okq q := List.forall_mem_cons.mpr ⟨lw_p48, List.forall_mem_cons.mpr ⟨lw_p49, List.forall_mem_cons.mpr ⟨lw_p50, List.forall_mem_cons.mpr ⟨lw_p51, List.forall_mem_cons.mpr ⟨lw_p52, List.forall_mem_cons.mpr ⟨lw_p53, List.forall_mem_cons.mpr ⟨lw_p54, List.forall_mem_cons.mpr ⟨lw_p55, List.forall_mem_cons.mpr ⟨lw_p56, List.forall_mem_cons.mpr ⟨lw_p57, List.forall_mem_cons.mpr ⟨lw_p58, List.forall_mem_cons.mpr ⟨lw_p59, List.forall_mem_cons.mpr ⟨lw_p60, List.forall_mem_cons.mpr ⟨lw_p61, List.forall_mem_cons.mpr ⟨lw_p62, List.forall_mem_cons.mpr ⟨lw_p63, fun _ h => absurd h List.not_mem_nil⟩⟩⟩⟩⟩⟩⟩⟩⟩⟩⟩⟩⟩⟩⟩⟩
theorem lw_p64 : lw_okq (⟨"JobTextModel", "bounded", "(II)Z"⟩, 82) := ⟨⟨by decide +kernel, by decide +kernel⟩, List.mem_of_getElem? (i := 1275) (by decide +kernel), List.mem_of_getElem? (i := 1604) (by decide +kernel), List.mem_of_getElem? (i := 1605) (by decide +kernel)⟩
theorem lw_p65 : lw_okq (⟨"JobTextModel", "readSet", "()Z"⟩, 82) := ⟨⟨by decide +kernel, by decide +kernel⟩, List.mem_of_getElem? (i := 1275) (by decide +kernel), List.mem_of_getElem? (i := 1608) (by decide +kernel), List.mem_of_getElem? (i := 1609) (by decide +kernel)⟩
theorem lw_p66 : lw_okq (⟨"JobTextModel", "begin", "(II)V"⟩, 82) := ⟨⟨by decide +kernel, by decide +kernel⟩, List.mem_of_getElem? (i := 1275) (by decide +kernel), List.mem_of_getElem? (i := 1612) (by decide +kernel), List.mem_of_getElem? (i := 1613) (by decide +kernel)⟩
theorem lw_p67 : lw_okq (⟨"JobTextModel", "readLoop", "()Z"⟩, 82) := ⟨⟨by decide +kernel, by decide +kernel⟩, List.mem_of_getElem? (i := 1275) (by decide +kernel), List.mem_of_getElem? (i := 1616) (by decide +kernel), List.mem_of_getElem? (i := 1617) (by decide +kernel)⟩
theorem lw_p68 : lw_okq (⟨"JobTextModel", "readSource", "()Z"⟩, 82) := ⟨⟨by decide +kernel, by decide +kernel⟩, List.mem_of_getElem? (i := 1275) (by decide +kernel), List.mem_of_getElem? (i := 1621) (by decide +kernel), List.mem_of_getElem? (i := 1622) (by decide +kernel)⟩
theorem lw_p69 : lw_okq (⟨"JobTextModel", "readName", "()Z"⟩, 82) := ⟨⟨by decide +kernel, by decide +kernel⟩, List.mem_of_getElem? (i := 1275) (by decide +kernel), List.mem_of_getElem? (i := 1625) (by decide +kernel), List.mem_of_getElem? (i := 1626) (by decide +kernel)⟩
theorem lw_p70 : lw_okq (⟨"JobTextModel", "operatorOf", "(IJ)I"⟩, 82) := ⟨⟨by decide +kernel, by decide +kernel⟩, List.mem_of_getElem? (i := 1275) (by decide +kernel), List.mem_of_getElem? (i := 1629) (by decide +kernel), List.mem_of_getElem? (i := 1630) (by decide +kernel)⟩
theorem lw_p71 : lw_okq (⟨"JobTextModel", "readRest", "(IZ)Z"⟩, 82) := ⟨⟨by decide +kernel, by decide +kernel⟩, List.mem_of_getElem? (i := 1275) (by decide +kernel), List.mem_of_getElem? (i := 1633) (by decide +kernel), List.mem_of_getElem? (i := 1634) (by decide +kernel)⟩
theorem lw_p72 : lw_okq (⟨"JobTextModel", "readInputSide", "(I)Z"⟩, 82) := ⟨⟨by decide +kernel, by decide +kernel⟩, List.mem_of_getElem? (i := 1275) (by decide +kernel), List.mem_of_getElem? (i := 1646) (by decide +kernel), List.mem_of_getElem? (i := 1647) (by decide +kernel)⟩
theorem lw_p73 : lw_okq (⟨"JobTextModel", "readInput", "(I)Z"⟩, 82) := ⟨⟨by decide +kernel, by decide +kernel⟩, List.mem_of_getElem? (i := 1275) (by decide +kernel), List.mem_of_getElem? (i := 1650) (by decide +kernel), List.mem_of_getElem? (i := 1651) (by decide +kernel)⟩
theorem lw_p74 : lw_okq (⟨"JobTextModel", "readSide", "(I)Z"⟩, 82) := ⟨⟨by decide +kernel, by decide +kernel⟩, List.mem_of_getElem? (i := 1275) (by decide +kernel), List.mem_of_getElem? (i := 1654) (by decide +kernel), List.mem_of_getElem? (i := 1655) (by decide +kernel)⟩
theorem lw_p75 : lw_okq (⟨"JobTextModel", "readProperty", "(II)Z"⟩, 82) := ⟨⟨by decide +kernel, by decide +kernel⟩, List.mem_of_getElem? (i := 1275) (by decide +kernel), List.mem_of_getElem? (i := 1658) (by decide +kernel), List.mem_of_getElem? (i := 1659) (by decide +kernel)⟩
theorem lw_p76 : lw_okq (⟨"JobTextModel", "readNumber", "(II)Z"⟩, 82) := ⟨⟨by decide +kernel, by decide +kernel⟩, List.mem_of_getElem? (i := 1275) (by decide +kernel), List.mem_of_getElem? (i := 1662) (by decide +kernel), List.mem_of_getElem? (i := 1663) (by decide +kernel)⟩
theorem lw_p77 : lw_okq (⟨"JobTextModel", "readOperator", "()Z"⟩, 82) := ⟨⟨by decide +kernel, by decide +kernel⟩, List.mem_of_getElem? (i := 1275) (by decide +kernel), List.mem_of_getElem? (i := 1667) (by decide +kernel), List.mem_of_getElem? (i := 1668) (by decide +kernel)⟩
theorem lw_p78 : lw_okq (⟨"JobTextModel", "judge", "()Z"⟩, 82) := ⟨⟨by decide +kernel, by decide +kernel⟩, List.mem_of_getElem? (i := 1275) (by decide +kernel), List.mem_of_getElem? (i := 1672) (by decide +kernel), List.mem_of_getElem? (i := 1673) (by decide +kernel)⟩
theorem lw_p79 : lw_okq (⟨"JobTextModel", "judgeOperators", "()Z"⟩, 82) := ⟨⟨by decide +kernel, by decide +kernel⟩, List.mem_of_getElem? (i := 1275) (by decide +kernel), List.mem_of_getElem? (i := 1676) (by decide +kernel), List.mem_of_getElem? (i := 1677) (by decide +kernel)⟩
def lw_privs_5 : List (MethodName × Nat) := [(⟨"JobTextModel", "bounded", "(II)Z"⟩, 82), (⟨"JobTextModel", "readSet", "()Z"⟩, 82), (⟨"JobTextModel", "begin", "(II)V"⟩, 82), (⟨"JobTextModel", "readLoop", "()Z"⟩, 82), (⟨"JobTextModel", "readSource", "()Z"⟩, 82), (⟨"JobTextModel", "readName", "()Z"⟩, 82), (⟨"JobTextModel", "operatorOf", "(IJ)I"⟩, 82), (⟨"JobTextModel", "readRest", "(IZ)Z"⟩, 82), (⟨"JobTextModel", "readInputSide", "(I)Z"⟩, 82), (⟨"JobTextModel", "readInput", "(I)Z"⟩, 82), (⟨"JobTextModel", "readSide", "(I)Z"⟩, 82), (⟨"JobTextModel", "readProperty", "(II)Z"⟩, 82), (⟨"JobTextModel", "readNumber", "(II)Z"⟩, 82), (⟨"JobTextModel", "readOperator", "()Z"⟩, 82), (⟨"JobTextModel", "judge", "()Z"⟩, 82), (⟨"JobTextModel", "judgeOperators", "()Z"⟩, 82)]
theorem lw_r5 : ∀ q ∈ lw_privs_5, lw_okq q := List.forall_mem_cons.mpr ⟨lw_p64, List.forall_mem_cons.mpr ⟨lw_p65, List.forall_mem_cons.mpr ⟨lw_p66, List.forall_mem_cons.mpr ⟨lw_p67, List.forall_mem_cons.mpr ⟨lw_p68, List.forall_mem_cons.mpr ⟨lw_p69, List.forall_mem_cons.mpr ⟨lw_p70, List.forall_mem_cons.mpr ⟨lw_p71, List.forall_mem_cons.mpr ⟨lw_p72, List.forall_mem_cons.mpr ⟨lw_p73, List.forall_mem_cons.mpr ⟨lw_p74, List.forall_mem_cons.mpr ⟨lw_p75, List.forall_mem_cons.mpr ⟨lw_p76, List.forall_mem_cons.mpr ⟨lw_p77, List.forall_mem_cons.mpr ⟨lw_p78, List.forall_mem_cons.mpr ⟨lw_p79, fun _ h => absurd h List.not_mem_nil⟩⟩⟩⟩⟩⟩⟩⟩⟩⟩⟩⟩⟩⟩⟩⟩
theorem lw_p80 : lw_okq (⟨"JobTextModel", "judgeInput", "(I)Z"⟩, 82) := ⟨⟨by decide +kernel, by decide +kernel⟩, List.mem_of_getElem? (i := 1275) (by decide +kernel), List.mem_of_getElem? (i := 1680) (by decide +kernel), List.mem_of_getElem? (i := 1681) (by decide +kernel)⟩
theorem lw_p81 : lw_okq (⟨"JobTextModel", "sideOf", "(IJ)I"⟩, 82) := ⟨⟨by decide +kernel, by decide +kernel⟩, List.mem_of_getElem? (i := 1275) (by decide +kernel), List.mem_of_getElem? (i := 1684) (by decide +kernel), List.mem_of_getElem? (i := 1685) (by decide +kernel)⟩
theorem lw_p82 : lw_okq (⟨"JobTextModel", "judgeLoops", "()Z"⟩, 82) := ⟨⟨by decide +kernel, by decide +kernel⟩, List.mem_of_getElem? (i := 1275) (by decide +kernel), List.mem_of_getElem? (i := 1688) (by decide +kernel), List.mem_of_getElem? (i := 1689) (by decide +kernel)⟩
theorem lw_p83 : lw_okq (⟨"JobTextModel", "judgeRings", "()Z"⟩, 82) := ⟨⟨by decide +kernel, by decide +kernel⟩, List.mem_of_getElem? (i := 1275) (by decide +kernel), List.mem_of_getElem? (i := 1692) (by decide +kernel), List.mem_of_getElem? (i := 1693) (by decide +kernel)⟩
theorem lw_p84 : lw_okq (⟨"JobTextModel", "findComes", "()V"⟩, 82) := ⟨⟨by decide +kernel, by decide +kernel⟩, List.mem_of_getElem? (i := 1275) (by decide +kernel), List.mem_of_getElem? (i := 1696) (by decide +kernel), List.mem_of_getElem? (i := 1697) (by decide +kernel)⟩
theorem lw_p85 : lw_okq (⟨"JobTextModel", "layOut", "()V"⟩, 82) := ⟨⟨by decide +kernel, by decide +kernel⟩, List.mem_of_getElem? (i := 1275) (by decide +kernel), List.mem_of_getElem? (i := 1700) (by decide +kernel), List.mem_of_getElem? (i := 1701) (by decide +kernel)⟩
theorem lw_p86 : lw_okq (⟨"JobTextModel", "isReady", "(I)Z"⟩, 82) := ⟨⟨by decide +kernel, by decide +kernel⟩, List.mem_of_getElem? (i := 1275) (by decide +kernel), List.mem_of_getElem? (i := 1704) (by decide +kernel), List.mem_of_getElem? (i := 1705) (by decide +kernel)⟩
theorem lw_p87 : lw_okq (⟨"JobTextModel", "judgeKeys", "()Z"⟩, 82) := ⟨⟨by decide +kernel, by decide +kernel⟩, List.mem_of_getElem? (i := 1275) (by decide +kernel), List.mem_of_getElem? (i := 1708) (by decide +kernel), List.mem_of_getElem? (i := 1709) (by decide +kernel)⟩
theorem lw_p88 : lw_okq (⟨"JobTextModel", "keyedAt", "(II)J"⟩, 82) := ⟨⟨by decide +kernel, by decide +kernel⟩, List.mem_of_getElem? (i := 1275) (by decide +kernel), List.mem_of_getElem? (i := 1712) (by decide +kernel), List.mem_of_getElem? (i := 1713) (by decide +kernel)⟩
theorem lw_p89 : lw_okq (⟨"JobTextModel", "findKey", "(I)V"⟩, 82) := ⟨⟨by decide +kernel, by decide +kernel⟩, List.mem_of_getElem? (i := 1275) (by decide +kernel), List.mem_of_getElem? (i := 1716) (by decide +kernel), List.mem_of_getElem? (i := 1717) (by decide +kernel)⟩
theorem lw_p90 : lw_okq (⟨"JobTextModel", "findFlow", "(I)V"⟩, 82) := ⟨⟨by decide +kernel, by decide +kernel⟩, List.mem_of_getElem? (i := 1275) (by decide +kernel), List.mem_of_getElem? (i := 1720) (by decide +kernel), List.mem_of_getElem? (i := 1721) (by decide +kernel)⟩
theorem lw_p91 : lw_okq (⟨"JobTextModel", "comesTo", "(I)V"⟩, 82) := ⟨⟨by decide +kernel, by decide +kernel⟩, List.mem_of_getElem? (i := 1275) (by decide +kernel), List.mem_of_getElem? (i := 1724) (by decide +kernel), List.mem_of_getElem? (i := 1725) (by decide +kernel)⟩
theorem lw_p92 : lw_okq (⟨"JobTextModel", "big", "()V"⟩, 82) := ⟨⟨by decide +kernel, by decide +kernel⟩, List.mem_of_getElem? (i := 1275) (by decide +kernel), List.mem_of_getElem? (i := 1728) (by decide +kernel), List.mem_of_getElem? (i := 1729) (by decide +kernel)⟩
theorem lw_p93 : lw_okq (⟨"JobTextModel", "fraction", "(JJ)V"⟩, 82) := ⟨⟨by decide +kernel, by decide +kernel⟩, List.mem_of_getElem? (i := 1275) (by decide +kernel), List.mem_of_getElem? (i := 1733) (by decide +kernel), List.mem_of_getElem? (i := 1734) (by decide +kernel)⟩
theorem lw_p94 : lw_okq (⟨"JobTextModel", "findChains", "()V"⟩, 82) := ⟨⟨by decide +kernel, by decide +kernel⟩, List.mem_of_getElem? (i := 1275) (by decide +kernel), List.mem_of_getElem? (i := 1738) (by decide +kernel), List.mem_of_getElem? (i := 1739) (by decide +kernel)⟩
theorem lw_p95 : lw_okq (⟨"JobTextModel", "findFused", "(I)V"⟩, 82) := ⟨⟨by decide +kernel, by decide +kernel⟩, List.mem_of_getElem? (i := 1275) (by decide +kernel), List.mem_of_getElem? (i := 1742) (by decide +kernel), List.mem_of_getElem? (i := 1743) (by decide +kernel)⟩
def lw_privs_6 : List (MethodName × Nat) := [(⟨"JobTextModel", "judgeInput", "(I)Z"⟩, 82), (⟨"JobTextModel", "sideOf", "(IJ)I"⟩, 82), (⟨"JobTextModel", "judgeLoops", "()Z"⟩, 82), (⟨"JobTextModel", "judgeRings", "()Z"⟩, 82), (⟨"JobTextModel", "findComes", "()V"⟩, 82), (⟨"JobTextModel", "layOut", "()V"⟩, 82), (⟨"JobTextModel", "isReady", "(I)Z"⟩, 82), (⟨"JobTextModel", "judgeKeys", "()Z"⟩, 82), (⟨"JobTextModel", "keyedAt", "(II)J"⟩, 82), (⟨"JobTextModel", "findKey", "(I)V"⟩, 82), (⟨"JobTextModel", "findFlow", "(I)V"⟩, 82), (⟨"JobTextModel", "comesTo", "(I)V"⟩, 82), (⟨"JobTextModel", "big", "()V"⟩, 82), (⟨"JobTextModel", "fraction", "(JJ)V"⟩, 82), (⟨"JobTextModel", "findChains", "()V"⟩, 82), (⟨"JobTextModel", "findFused", "(I)V"⟩, 82)]
theorem lw_r6 : ∀ q ∈ lw_privs_6, lw_okq q := List.forall_mem_cons.mpr ⟨lw_p80, List.forall_mem_cons.mpr ⟨lw_p81, List.forall_mem_cons.mpr ⟨lw_p82, List.forall_mem_cons.mpr ⟨lw_p83, List.forall_mem_cons.mpr ⟨lw_p84, List.forall_mem_cons.mpr ⟨lw_p85, List.forall_mem_cons.mpr ⟨lw_p86, List.forall_mem_cons.mpr ⟨lw_p87, List.forall_mem_cons.mpr ⟨lw_p88, List.forall_mem_cons.mpr ⟨lw_p89, List.forall_mem_cons.mpr ⟨lw_p90, List.forall_mem_cons.mpr ⟨lw_p91, List.forall_mem_cons.mpr ⟨lw_p92, List.forall_mem_cons.mpr ⟨lw_p93, List.forall_mem_cons.mpr ⟨lw_p94, List.forall_mem_cons.mpr ⟨lw_p95, fun _ h => absurd h List.not_mem_nil⟩⟩⟩⟩⟩⟩⟩⟩⟩⟩⟩⟩⟩⟩⟩⟩
theorem lw_p96 : lw_okq (⟨"JobTextModel", "parOf", "(I)I"⟩, 82) := ⟨⟨by decide +kernel, by decide +kernel⟩, List.mem_of_getElem? (i := 1275) (by decide +kernel), List.mem_of_getElem? (i := 1746) (by decide +kernel), List.mem_of_getElem? (i := 1747) (by decide +kernel)⟩
theorem lw_p97 : lw_okq (⟨"JobTextModel", "readersOf", "(IIZ)I"⟩, 82) := ⟨⟨by decide +kernel, by decide +kernel⟩, List.mem_of_getElem? (i := 1275) (by decide +kernel), List.mem_of_getElem? (i := 1750) (by decide +kernel), List.mem_of_getElem? (i := 1751) (by decide +kernel)⟩
theorem lw_p98 : lw_okq (⟨"JobTextModel", "channelsOf", "(II)I"⟩, 82) := ⟨⟨by decide +kernel, by decide +kernel⟩, List.mem_of_getElem? (i := 1275) (by decide +kernel), List.mem_of_getElem? (i := 1754) (by decide +kernel), List.mem_of_getElem? (i := 1755) (by decide +kernel)⟩
theorem lw_p99 : lw_okq (⟨"JobTextModel", "numberOf", "(J)I"⟩, 82) := ⟨⟨by decide +kernel, by decide +kernel⟩, List.mem_of_getElem? (i := 1275) (by decide +kernel), List.mem_of_getElem? (i := 1758) (by decide +kernel), List.mem_of_getElem? (i := 1759) (by decide +kernel)⟩
theorem lw_p100 : lw_okq (⟨"JobTextModel", "keep", "(I)V"⟩, 82) := ⟨⟨by decide +kernel, by decide +kernel⟩, List.mem_of_getElem? (i := 1275) (by decide +kernel), List.mem_of_getElem? (i := 1762) (by decide +kernel), List.mem_of_getElem? (i := 1763) (by decide +kernel)⟩
theorem lw_p101 : lw_okq (⟨"JobTextModel", "keepOperator", "(II)V"⟩, 82) := ⟨⟨by decide +kernel, by decide +kernel⟩, List.mem_of_getElem? (i := 1275) (by decide +kernel), List.mem_of_getElem? (i := 1766) (by decide +kernel), List.mem_of_getElem? (i := 1767) (by decide +kernel)⟩
theorem lw_p102 : lw_okq (⟨"JobTextModel", "keepInputs", "(II)V"⟩, 82) := ⟨⟨by decide +kernel, by decide +kernel⟩, List.mem_of_getElem? (i := 1275) (by decide +kernel), List.mem_of_getElem? (i := 1770) (by decide +kernel), List.mem_of_getElem? (i := 1771) (by decide +kernel)⟩
theorem lw_p103 : lw_okq (⟨"JobTextModel", "against", "(IZ)I"⟩, 82) := ⟨⟨by decide +kernel, by decide +kernel⟩, List.mem_of_getElem? (i := 1275) (by decide +kernel), List.mem_of_getElem? (i := 1778) (by decide +kernel), List.mem_of_getElem? (i := 1779) (by decide +kernel)⟩
theorem lw_p104 : lw_okq (⟨"JobTextModel", "countOf", "([II)I"⟩, 82) := ⟨⟨by decide +kernel, by decide +kernel⟩, List.mem_of_getElem? (i := 1275) (by decide +kernel), List.mem_of_getElem? (i := 1794) (by decide +kernel), List.mem_of_getElem? (i := 1795) (by decide +kernel)⟩
theorem lw_p105 : lw_okq (⟨"JobTextModel", "againstOne", "(IZII)I"⟩, 82) := ⟨⟨by decide +kernel, by decide +kernel⟩, List.mem_of_getElem? (i := 1275) (by decide +kernel), List.mem_of_getElem? (i := 1798) (by decide +kernel), List.mem_of_getElem? (i := 1799) (by decide +kernel)⟩
theorem lw_p106 : lw_okq (⟨"JobTextModel", "putComments", "(II)V"⟩, 82) := ⟨⟨by decide +kernel, by decide +kernel⟩, List.mem_of_getElem? (i := 1275) (by decide +kernel), List.mem_of_getElem? (i := 1836) (by decide +kernel), List.mem_of_getElem? (i := 1837) (by decide +kernel)⟩
theorem lw_p107 : lw_okq (⟨"JobTextModel", "put", "(I)V"⟩, 82) := ⟨⟨by decide +kernel, by decide +kernel⟩, List.mem_of_getElem? (i := 1275) (by decide +kernel), List.mem_of_getElem? (i := 1840) (by decide +kernel), List.mem_of_getElem? (i := 1841) (by decide +kernel)⟩
theorem lw_p108 : lw_okq (⟨"JobTextModel", "putStatement", "(II)V"⟩, 82) := ⟨⟨by decide +kernel, by decide +kernel⟩, List.mem_of_getElem? (i := 1275) (by decide +kernel), List.mem_of_getElem? (i := 1844) (by decide +kernel), List.mem_of_getElem? (i := 1845) (by decide +kernel)⟩
theorem lw_p109 : lw_okq (⟨"JobTextModel", "putOperator", "(I)V"⟩, 82) := ⟨⟨by decide +kernel, by decide +kernel⟩, List.mem_of_getElem? (i := 1275) (by decide +kernel), List.mem_of_getElem? (i := 1848) (by decide +kernel), List.mem_of_getElem? (i := 1849) (by decide +kernel)⟩
theorem lw_p110 : lw_okq (⟨"JobTextModel", "putKey", "(I)V"⟩, 82) := ⟨⟨by decide +kernel, by decide +kernel⟩, List.mem_of_getElem? (i := 1275) (by decide +kernel), List.mem_of_getElem? (i := 1852) (by decide +kernel), List.mem_of_getElem? (i := 1853) (by decide +kernel)⟩
theorem lw_p111 : lw_okq (⟨"JobTextModel", "putName", "(J)V"⟩, 82) := ⟨⟨by decide +kernel, by decide +kernel⟩, List.mem_of_getElem? (i := 1275) (by decide +kernel), List.mem_of_getElem? (i := 1856) (by decide +kernel), List.mem_of_getElem? (i := 1857) (by decide +kernel)⟩
def lw_privs_7 : List (MethodName × Nat) := [(⟨"JobTextModel", "parOf", "(I)I"⟩, 82), (⟨"JobTextModel", "readersOf", "(IIZ)I"⟩, 82), (⟨"JobTextModel", "channelsOf", "(II)I"⟩, 82), (⟨"JobTextModel", "numberOf", "(J)I"⟩, 82), (⟨"JobTextModel", "keep", "(I)V"⟩, 82), (⟨"JobTextModel", "keepOperator", "(II)V"⟩, 82), (⟨"JobTextModel", "keepInputs", "(II)V"⟩, 82), (⟨"JobTextModel", "against", "(IZ)I"⟩, 82), (⟨"JobTextModel", "countOf", "([II)I"⟩, 82), (⟨"JobTextModel", "againstOne", "(IZII)I"⟩, 82), (⟨"JobTextModel", "putComments", "(II)V"⟩, 82), (⟨"JobTextModel", "put", "(I)V"⟩, 82), (⟨"JobTextModel", "putStatement", "(II)V"⟩, 82), (⟨"JobTextModel", "putOperator", "(I)V"⟩, 82), (⟨"JobTextModel", "putKey", "(I)V"⟩, 82), (⟨"JobTextModel", "putName", "(J)V"⟩, 82)]
theorem lw_r7 : ∀ q ∈ lw_privs_7, lw_okq q := List.forall_mem_cons.mpr ⟨lw_p96, List.forall_mem_cons.mpr ⟨lw_p97, List.forall_mem_cons.mpr ⟨lw_p98, List.forall_mem_cons.mpr ⟨lw_p99, List.forall_mem_cons.mpr ⟨lw_p100, List.forall_mem_cons.mpr ⟨lw_p101, List.forall_mem_cons.mpr ⟨lw_p102, List.forall_mem_cons.mpr ⟨lw_p103, List.forall_mem_cons.mpr ⟨lw_p104, List.forall_mem_cons.mpr ⟨lw_p105, List.forall_mem_cons.mpr ⟨lw_p106, List.forall_mem_cons.mpr ⟨lw_p107, List.forall_mem_cons.mpr ⟨lw_p108, List.forall_mem_cons.mpr ⟨lw_p109, List.forall_mem_cons.mpr ⟨lw_p110, List.forall_mem_cons.mpr ⟨lw_p111, fun _ h => absurd h List.not_mem_nil⟩⟩⟩⟩⟩⟩⟩⟩⟩⟩⟩⟩⟩⟩⟩⟩
theorem lw_p112 : lw_okq (⟨"JobTextModel", "putProperties", "(I)V"⟩, 82) := ⟨⟨by decide +kernel, by decide +kernel⟩, List.mem_of_getElem? (i := 1275) (by decide +kernel), List.mem_of_getElem? (i := 1860) (by decide +kernel), List.mem_of_getElem? (i := 1861) (by decide +kernel)⟩
theorem lw_p113 : lw_okq (⟨"JobTextModel", "putNumberProperty", "(II)V"⟩, 82) := ⟨⟨by decide +kernel, by decide +kernel⟩, List.mem_of_getElem? (i := 1275) (by decide +kernel), List.mem_of_getElem? (i := 1864) (by decide +kernel), List.mem_of_getElem? (i := 1865) (by decide +kernel)⟩
theorem lw_p114 : lw_okq (⟨"JobTextModel", "putNumber", "(I)V"⟩, 82) := ⟨⟨by decide +kernel, by decide +kernel⟩, List.mem_of_getElem? (i := 1275) (by decide +kernel), List.mem_of_getElem? (i := 1868) (by decide +kernel), List.mem_of_getElem? (i := 1869) (by decide +kernel)⟩
theorem lw_p115 : lw_okq (⟨"JobTextModel", "bitsOf", "(II)I"⟩, 82) := ⟨⟨by decide +kernel, by decide +kernel⟩, List.mem_of_getElem? (i := 1275) (by decide +kernel), List.mem_of_getElem? (i := 1884) (by decide +kernel), List.mem_of_getElem? (i := 1885) (by decide +kernel)⟩
theorem lw_p116 : lw_okq (⟨"JobTextModel", "haveLikeInputs", "(II)Z"⟩, 82) := ⟨⟨by decide +kernel, by decide +kernel⟩, List.mem_of_getElem? (i := 1275) (by decide +kernel), List.mem_of_getElem? (i := 1888) (by decide +kernel), List.mem_of_getElem? (i := 1889) (by decide +kernel)⟩
theorem lw_p117 : lw_okq (⟨"JobTextModel", "haveLikeSides", "(II)Z"⟩, 82) := ⟨⟨by decide +kernel, by decide +kernel⟩, List.mem_of_getElem? (i := 1275) (by decide +kernel), List.mem_of_getElem? (i := 1892) (by decide +kernel), List.mem_of_getElem? (i := 1893) (by decide +kernel)⟩
theorem lw_p118 : lw_okq (⟨"JobTextModel", "note", "(III)V"⟩, 82) := ⟨⟨by decide +kernel, by decide +kernel⟩, List.mem_of_getElem? (i := 1275) (by decide +kernel), List.mem_of_getElem? (i := 1896) (by decide +kernel), List.mem_of_getElem? (i := 1897) (by decide +kernel)⟩
def lw_privs_8 : List (MethodName × Nat) := [(⟨"JobTextModel", "putProperties", "(I)V"⟩, 82), (⟨"JobTextModel", "putNumberProperty", "(II)V"⟩, 82), (⟨"JobTextModel", "putNumber", "(I)V"⟩, 82), (⟨"JobTextModel", "bitsOf", "(II)I"⟩, 82), (⟨"JobTextModel", "haveLikeInputs", "(II)Z"⟩, 82), (⟨"JobTextModel", "haveLikeSides", "(II)Z"⟩, 82), (⟨"JobTextModel", "note", "(III)V"⟩, 82)]
theorem lw_r8 : ∀ q ∈ lw_privs_8, lw_okq q := List.forall_mem_cons.mpr ⟨lw_p112, List.forall_mem_cons.mpr ⟨lw_p113, List.forall_mem_cons.mpr ⟨lw_p114, List.forall_mem_cons.mpr ⟨lw_p115, List.forall_mem_cons.mpr ⟨lw_p116, List.forall_mem_cons.mpr ⟨lw_p117, List.forall_mem_cons.mpr ⟨lw_p118, fun _ h => absurd h List.not_mem_nil⟩⟩⟩⟩⟩⟩⟩
def lw_privs : List (MethodName × Nat) := lw_privs_1 ++ (lw_privs_2 ++ (lw_privs_3 ++ (lw_privs_4 ++ (lw_privs_5 ++ (lw_privs_6 ++ (lw_privs_7 ++ (lw_privs_8)))))))
def lw_tbl : List Cond := k2_sels lw_privs ++ tables_1
theorem lw_privs_ok : ∀ q ∈ lw_privs, lw_okq q := by
  show ∀ q ∈ lw_privs_1 ++ (lw_privs_2 ++ (lw_privs_3 ++ (lw_privs_4 ++ (lw_privs_5 ++ (lw_privs_6 ++ (lw_privs_7 ++ (lw_privs_8))))))), lw_okq q
  exact List.forall_mem_append.mpr ⟨lw_r1, List.forall_mem_append.mpr ⟨lw_r2, List.forall_mem_append.mpr ⟨lw_r3, List.forall_mem_append.mpr ⟨lw_r4, List.forall_mem_append.mpr ⟨lw_r5, List.forall_mem_append.mpr ⟨lw_r6, List.forall_mem_append.mpr ⟨lw_r7, lw_r8⟩⟩⟩⟩⟩⟩⟩
def RX0 : String := "JobText$Bytes"
def TX0 : u_T := fun k => match k with
  | 0 => ("JobText$Bytes", "row", "[B", true)
  | _ => ("JobText$Bytes", "size", "I", false)
def tyX0 : Nat → FieldType := fun k => match k with
  | 0 => .array .byte
  | _ => .int
abbrev wsX00 : List Cond := u_ws RX0 TX0 2
theorem nmX0 : ∀ a, a < 2 → ∀ b, b < 2 → a ≠ b → (TX0 a).2.1 ≠ (TX0 b).2.1 := by decide +kernel
theorem tyX0_ok : ∀ k, k < 2 → parseFieldDescriptor (TX0 k).2.2.1 = some (tyX0 k) := by decide +kernel
def RX1 : String := "JobText$Fault"
def TX1 : u_T := fun k => match k with
  | 0 => ("JobText$Fault", "what", "I", false)
  | 1 => ("JobText$Fault", "file", "I", false)
  | 2 => ("JobText$Fault", "place", "I", false)
  | _ => ("JobText$Fault", "expected", "I", false)
def tyX1 : Nat → FieldType := fun k => match k with
  | 0 => .int
  | 1 => .int
  | 2 => .int
  | _ => .int
abbrev wsX10 : List Cond := u_ws RX1 TX1 4
theorem nmX1 : ∀ a, a < 4 → ∀ b, b < 4 → a ≠ b → (TX1 a).2.1 ≠ (TX1 b).2.1 := by decide +kernel
theorem tyX1_ok : ∀ k, k < 4 → parseFieldDescriptor (TX1 k).2.2.1 = some (tyX1 k) := by decide +kernel
def RX2 : String := "JobText$Flow"
def TX2 : u_T := fun k => match k with
  | 0 => ("JobText$Flow", "upper", "J", false)
  | 1 => ("JobText$Flow", "lower", "J", false)
  | _ => ("JobText$Flow", "big", "Z", false)
def tyX2 : Nat → FieldType := fun k => match k with
  | 0 => .long
  | 1 => .long
  | _ => .boolean
abbrev wsX20 : List Cond := u_ws RX2 TX2 3
theorem nmX2 : ∀ a, a < 3 → ∀ b, b < 3 → a ≠ b → (TX2 a).2.1 ≠ (TX2 b).2.1 := by decide +kernel
theorem tyX2_ok : ∀ k, k < 3 → parseFieldDescriptor (TX2 k).2.2.1 = some (tyX2 k) := by decide +kernel
def RX3 : String := "JobText$Input"
def TX3 : u_T := fun k => match k with
  | 0 => ("JobText$Input", "name", "J", false)
  | 1 => ("JobText$Input", "place", "I", false)
  | 2 => ("JobText$Input", "sideName", "J", false)
  | 3 => ("JobText$Input", "sidePlace", "I", false)
  | 4 => ("JobText$Input", "from", "I", false)
  | _ => ("JobText$Input", "side", "I", false)
def tyX3 : Nat → FieldType := fun k => match k with
  | 0 => .long
  | 1 => .int
  | 2 => .long
  | 3 => .int
  | 4 => .int
  | _ => .int
abbrev wsX30 : List Cond := u_ws RX3 TX3 6
theorem nmX3 : ∀ a, a < 6 → ∀ b, b < 6 → a ≠ b → (TX3 a).2.1 ≠ (TX3 b).2.1 := by decide +kernel
theorem tyX3_ok : ∀ k, k < 6 → parseFieldDescriptor (TX3 k).2.2.1 = some (tyX3 k) := by decide +kernel
def RX4 : String := "JobText$Job"
def TX4 : u_T := fun k => match k with
  | 0 => ("JobText$Job", "isRead", "Z", false)
  | 1 => ("JobText$Job", "operators", "[LJobText$Operator;", true)
  | 2 => ("JobText$Job", "operatorCount", "I", false)
  | 3 => ("JobText$Job", "sets", "[LJobText$Pair;", true)
  | 4 => ("JobText$Job", "setCount", "I", false)
  | 5 => ("JobText$Job", "loops", "[LJobText$Pair;", true)
  | 6 => ("JobText$Job", "loopCount", "I", false)
  | 7 => ("JobText$Job", "comments", "[LJobText$Bytes;", true)
  | 8 => ("JobText$Job", "commentOwners", "[I", true)
  | 9 => ("JobText$Job", "commentCount", "I", false)
  | 10 => ("JobText$Job", "statementSorts", "[I", true)
  | 11 => ("JobText$Job", "statementRows", "[I", true)
  | 12 => ("JobText$Job", "statementCount", "I", false)
  | _ => ("JobText$Job", "layout", "LJobText$Layout;", true)
def tyX4 : Nat → FieldType := fun k => match k with
  | 0 => .boolean
  | 1 => .array (.object "JobText$Operator")
  | 2 => .int
  | 3 => .array (.object "JobText$Pair")
  | 4 => .int
  | 5 => .array (.object "JobText$Pair")
  | 6 => .int
  | 7 => .array (.object "JobText$Bytes")
  | 8 => .array .int
  | 9 => .int
  | 10 => .array .int
  | 11 => .array .int
  | 12 => .int
  | _ => .object "JobText$Layout"
abbrev wsX40 : List Cond := u_ws RX4 TX4 14
theorem nmX4 : ∀ a, a < 14 → ∀ b, b < 14 → a ≠ b → (TX4 a).2.1 ≠ (TX4 b).2.1 := by decide +kernel
theorem tyX4_ok : ∀ k, k < 14 → parseFieldDescriptor (TX4 k).2.2.1 = some (tyX4 k) := by decide +kernel
def RX5 : String := "JobText$Judge"
def TX5 : u_T := fun k => match k with
  | 0 => ("JobText$Judge", "fault", "LJobText$Fault;", true)
  | _ => ("JobText$Judge", "origins", "[J", true)
def tyX5 : Nat → FieldType := fun k => match k with
  | 0 => .object "JobText$Fault"
  | _ => .array .long
abbrev wsX50 : List Cond := u_ws RX5 TX5 2
theorem nmX5 : ∀ a, a < 2 → ∀ b, b < 2 → a ≠ b → (TX5 a).2.1 ≠ (TX5 b).2.1 := by decide +kernel
theorem tyX5_ok : ∀ k, k < 2 → parseFieldDescriptor (TX5 k).2.2.1 = some (tyX5 k) := by decide +kernel
def RX6 : String := "JobText$Layout"
def TX6 : u_T := fun k => match k with
  | 0 => ("JobText$Layout", "order", "[I", true)
  | 1 => ("JobText$Layout", "position", "[I", true)
  | 2 => ("JobText$Layout", "level", "[I", true)
  | 3 => ("JobText$Layout", "keyedBy", "[J", true)
  | 4 => ("JobText$Layout", "mainFlow", "[LJobText$Flow;", true)
  | 5 => ("JobText$Layout", "sideFlow", "[LJobText$Flow;", true)
  | 6 => ("JobText$Layout", "comes", "LJobText$Flow;", true)
  | 7 => ("JobText$Layout", "readers", "[I", true)
  | 8 => ("JobText$Layout", "mainReaders", "[I", true)
  | 9 => ("JobText$Layout", "fused", "[Z", true)
  | 10 => ("JobText$Layout", "chain", "[I", true)
  | 11 => ("JobText$Layout", "levels", "I", false)
  | 12 => ("JobText$Layout", "chains", "I", false)
  | 13 => ("JobText$Layout", "tasks", "I", false)
  | _ => ("JobText$Layout", "channels", "I", false)
def tyX6 : Nat → FieldType := fun k => match k with
  | 0 => .array .int
  | 1 => .array .int
  | 2 => .array .int
  | 3 => .array .long
  | 4 => .array (.object "JobText$Flow")
  | 5 => .array (.object "JobText$Flow")
  | 6 => .object "JobText$Flow"
  | 7 => .array .int
  | 8 => .array .int
  | 9 => .array .boolean
  | 10 => .array .int
  | 11 => .int
  | 12 => .int
  | 13 => .int
  | _ => .int
abbrev wsX60 : List Cond := u_ws RX6 TX6 15
theorem nmX6 : ∀ a, a < 15 → ∀ b, b < 15 → a ≠ b → (TX6 a).2.1 ≠ (TX6 b).2.1 := by decide +kernel
theorem tyX6_ok : ∀ k, k < 15 → parseFieldDescriptor (TX6 k).2.2.1 = some (tyX6 k) := by decide +kernel
def RX7 : String := "JobText$Operator"
def TX7 : u_T := fun k => match k with
  | 0 => ("JobText$Operator", "name", "J", false)
  | 1 => ("JobText$Operator", "kind", "I", false)
  | 2 => ("JobText$Operator", "par", "I", false)
  | 3 => ("JobText$Operator", "rate", "I", false)
  | 4 => ("JobText$Operator", "passUpper", "I", false)
  | 5 => ("JobText$Operator", "passLower", "I", false)
  | 6 => ("JobText$Operator", "key", "J", false)
  | 7 => ("JobText$Operator", "keep", "I", false)
  | 8 => ("JobText$Operator", "inputs", "[LJobText$Input;", true)
  | 9 => ("JobText$Operator", "inputCount", "I", false)
  | 10 => ("JobText$Operator", "sides", "[J", true)
  | 11 => ("JobText$Operator", "sideCount", "I", false)
  | 12 => ("JobText$Operator", "number", "I", false)
  | 13 => ("JobText$Operator", "file", "I", false)
  | 14 => ("JobText$Operator", "place", "I", false)
  | _ => ("JobText$Operator", "kindPlace", "I", false)
def tyX7 : Nat → FieldType := fun k => match k with
  | 0 => .long
  | 1 => .int
  | 2 => .int
  | 3 => .int
  | 4 => .int
  | 5 => .int
  | 6 => .long
  | 7 => .int
  | 8 => .array (.object "JobText$Input")
  | 9 => .int
  | 10 => .array .long
  | 11 => .int
  | 12 => .int
  | 13 => .int
  | 14 => .int
  | _ => .int
abbrev wsX70 : List Cond := u_ws RX7 TX7 16
theorem nmX7 : ∀ a, a < 16 → ∀ b, b < 16 → a ≠ b → (TX7 a).2.1 ≠ (TX7 b).2.1 := by decide +kernel
theorem tyX7_ok : ∀ k, k < 16 → parseFieldDescriptor (TX7 k).2.2.1 = some (tyX7 k) := by decide +kernel
def RX8 : String := "JobText$Pair"
def TX8 : u_T := fun k => match k with
  | 0 => ("JobText$Pair", "first", "J", false)
  | 1 => ("JobText$Pair", "second", "J", false)
  | 2 => ("JobText$Pair", "number", "I", false)
  | 3 => ("JobText$Pair", "file", "I", false)
  | 4 => ("JobText$Pair", "firstPlace", "I", false)
  | 5 => ("JobText$Pair", "secondPlace", "I", false)
  | 6 => ("JobText$Pair", "firstOperator", "I", false)
  | _ => ("JobText$Pair", "secondOperator", "I", false)
def tyX8 : Nat → FieldType := fun k => match k with
  | 0 => .long
  | 1 => .long
  | 2 => .int
  | 3 => .int
  | 4 => .int
  | 5 => .int
  | 6 => .int
  | _ => .int
abbrev wsX80 : List Cond := u_ws RX8 TX8 8
theorem nmX8 : ∀ a, a < 8 → ∀ b, b < 8 → a ≠ b → (TX8 a).2.1 ≠ (TX8 b).2.1 := by decide +kernel
theorem tyX8_ok : ∀ k, k < 8 → parseFieldDescriptor (TX8 k).2.2.1 = some (tyX8 k) := by decide +kernel
def RX9 : String := "JobText$Reader"
def TX9 : u_T := fun k => match k with
  | 0 => ("JobText$Reader", "words", "LJobText$Words;", true)
  | 1 => ("JobText$Reader", "fault", "LJobText$Fault;", true)
  | 2 => ("JobText$Reader", "job", "LJobText$Job;", false)
  | 3 => ("JobText$Reader", "state", "I", false)
  | 4 => ("JobText$Reader", "uses", "I", false)
  | 5 => ("JobText$Reader", "usePlace", "I", false)
  | 6 => ("JobText$Reader", "useFile", "I", false)
  | 7 => ("JobText$Reader", "operator", "LJobText$Operator;", false)
  | 8 => ("JobText$Reader", "line", "LJobText$Pair;", false)
  | _ => ("JobText$Reader", "propertiesLeft", "I", false)
def tyX9 : Nat → FieldType := fun k => match k with
  | 0 => .object "JobText$Words"
  | 1 => .object "JobText$Fault"
  | 2 => .object "JobText$Job"
  | 3 => .int
  | 4 => .int
  | 5 => .int
  | 6 => .int
  | 7 => .object "JobText$Operator"
  | 8 => .object "JobText$Pair"
  | _ => .int
abbrev wsX90 : List Cond := u_ws RX9 TX9 10
theorem nmX9 : ∀ a, a < 10 → ∀ b, b < 10 → a ≠ b → (TX9 a).2.1 ≠ (TX9 b).2.1 := by decide +kernel
theorem tyX9_ok : ∀ k, k < 10 → parseFieldDescriptor (TX9 k).2.2.1 = some (tyX9 k) := by decide +kernel
def RX10 : String := "JobText$Words"
def TX10 : u_T := fun k => match k with
  | 0 => ("JobText$Words", "keys", "[J", true)
  | 1 => ("JobText$Words", "files", "[LJobText$Bytes;", true)
  | 2 => ("JobText$Words", "fault", "LJobText$Fault;", true)
  | 3 => ("JobText$Words", "job", "LJobText$Job;", false)
  | 4 => ("JobText$Words", "openFiles", "[I", true)
  | 5 => ("JobText$Words", "openPlaces", "[I", true)
  | 6 => ("JobText$Words", "depth", "I", false)
  | 7 => ("JobText$Words", "next", "I", false)
  | 8 => ("JobText$Words", "thing", "I", false)
  | 9 => ("JobText$Words", "file", "I", false)
  | 10 => ("JobText$Words", "place", "I", false)
  | 11 => ("JobText$Words", "value", "I", false)
  | _ => ("JobText$Words", "name", "J", false)
def tyX10 : Nat → FieldType := fun k => match k with
  | 0 => .array .long
  | 1 => .array (.object "JobText$Bytes")
  | 2 => .object "JobText$Fault"
  | 3 => .object "JobText$Job"
  | 4 => .array .int
  | 5 => .array .int
  | 6 => .int
  | 7 => .int
  | 8 => .int
  | 9 => .int
  | 10 => .int
  | 11 => .int
  | _ => .long
abbrev wsX100 : List Cond := u_ws RX10 TX10 13
theorem nmX10 : ∀ a, a < 13 → ∀ b, b < 13 → a ≠ b → (TX10 a).2.1 ≠ (TX10 b).2.1 := by decide +kernel
theorem tyX10_ok : ∀ k, k < 13 → parseFieldDescriptor (TX10 k).2.2.1 = some (tyX10 k) := by decide +kernel
def RX11 : String := "JobText"
def TX11 : u_T := fun k => match k with
  | 0 => ("JobText", "tape", "LJobText$Bytes;", true)
  | 1 => ("JobText", "files", "[LJobText$Bytes;", true)
  | 2 => ("JobText", "page", "LJobText$Bytes;", true)
  | 3 => ("JobText", "jobs", "[LJobText$Job;", true)
  | 4 => ("JobText", "spare", "LJobText$Job;", false)
  | 5 => ("JobText", "latest", "LJobText$Fault;", true)
  | 6 => ("JobText", "reader", "LJobText$Reader;", true)
  | 7 => ("JobText", "judge", "LJobText$Judge;", true)
  | 8 => ("JobText", "numberNames", "[J", true)
  | 9 => ("JobText", "numberCount", "I", false)
  | 10 => ("JobText", "differences", "[I", true)
  | _ => ("JobText", "differenceCount", "I", false)
def tyX11 : Nat → FieldType := fun k => match k with
  | 0 => .object "JobText$Bytes"
  | 1 => .array (.object "JobText$Bytes")
  | 2 => .object "JobText$Bytes"
  | 3 => .array (.object "JobText$Job")
  | 4 => .object "JobText$Job"
  | 5 => .object "JobText$Fault"
  | 6 => .object "JobText$Reader"
  | 7 => .object "JobText$Judge"
  | 8 => .array .long
  | 9 => .int
  | 10 => .array .int
  | _ => .int
abbrev wsX110 : List Cond := u_ws RX11 TX11 12
theorem nmX11 : ∀ a, a < 12 → ∀ b, b < 12 → a ≠ b → (TX11 a).2.1 ≠ (TX11 b).2.1 := by decide +kernel
theorem tyX11_ok : ∀ k, k < 12 → parseFieldDescriptor (TX11 k).2.2.1 = some (tyX11 k) := by decide +kernel
def RX12 : String := "JobTextModel"
def TX12 : u_T := fun k => match k with
  | 0 => ("JobTextModel", "tape", "[I", true)
  | 1 => ("JobTextModel", "taped", "I", false)
  | 2 => ("JobTextModel", "files", "[I", true)
  | 3 => ("JobTextModel", "sizes", "[I", true)
  | 4 => ("JobTextModel", "thing", "I", false)
  | 5 => ("JobTextModel", "tokenName", "J", false)
  | 6 => ("JobTextModel", "tokenNumber", "I", false)
  | 7 => ("JobTextModel", "tokenFile", "I", false)
  | 8 => ("JobTextModel", "tokenPlace", "I", false)
  | 9 => ("JobTextModel", "depth", "I", false)
  | 10 => ("JobTextModel", "openFile", "[I", true)
  | 11 => ("JobTextModel", "openAt", "[I", true)
  | 12 => ("JobTextModel", "faulty", "I", false)
  | 13 => ("JobTextModel", "faultFile", "I", false)
  | 14 => ("JobTextModel", "faultPlace", "I", false)
  | 15 => ("JobTextModel", "expected", "I", false)
  | 16 => ("JobTextModel", "isRead", "[Z", true)
  | 17 => ("JobTextModel", "operators", "[I", true)
  | 18 => ("JobTextModel", "sets", "[I", true)
  | 19 => ("JobTextModel", "loops", "[I", true)
  | 20 => ("JobTextModel", "statements", "[I", true)
  | 21 => ("JobTextModel", "comments", "[I", true)
  | 22 => ("JobTextModel", "uses", "I", false)
  | 23 => ("JobTextModel", "names", "[J", true)
  | 24 => ("JobTextModel", "kinds", "[I", true)
  | 25 => ("JobTextModel", "pars", "[I", true)
  | 26 => ("JobTextModel", "rates", "[I", true)
  | 27 => ("JobTextModel", "passUp", "[I", true)
  | 28 => ("JobTextModel", "passDown", "[I", true)
  | 29 => ("JobTextModel", "keeps", "[I", true)
  | 30 => ("JobTextModel", "keys", "[J", true)
  | 31 => ("JobTextModel", "inputs", "[I", true)
  | 32 => ("JobTextModel", "sides", "[I", true)
  | 33 => ("JobTextModel", "fileOf", "[I", true)
  | 34 => ("JobTextModel", "placeOf", "[I", true)
  | 35 => ("JobTextModel", "kindFile", "[I", true)
  | 36 => ("JobTextModel", "kindPlace", "[I", true)
  | 37 => ("JobTextModel", "inName", "[J", true)
  | 38 => ("JobTextModel", "inSide", "[J", true)
  | 39 => ("JobTextModel", "inFile", "[I", true)
  | 40 => ("JobTextModel", "inPlace", "[I", true)
  | 41 => ("JobTextModel", "inSideFile", "[I", true)
  | 42 => ("JobTextModel", "inSidePlace", "[I", true)
  | 43 => ("JobTextModel", "inOf", "[I", true)
  | 44 => ("JobTextModel", "inWhich", "[I", true)
  | 45 => ("JobTextModel", "sideNames", "[J", true)
  | 46 => ("JobTextModel", "setNames", "[J", true)
  | 47 => ("JobTextModel", "setValues", "[J", true)
  | 48 => ("JobTextModel", "setNumbers", "[I", true)
  | 49 => ("JobTextModel", "setFile", "[I", true)
  | 50 => ("JobTextModel", "setPlace", "[I", true)
  | 51 => ("JobTextModel", "loopNames", "[J", true)
  | 52 => ("JobTextModel", "loopFile", "[I", true)
  | 53 => ("JobTextModel", "loopPlace", "[I", true)
  | 54 => ("JobTextModel", "loopOf", "[I", true)
  | 55 => ("JobTextModel", "what", "[I", true)
  | 56 => ("JobTextModel", "which", "[I", true)
  | 57 => ("JobTextModel", "commentOwner", "[I", true)
  | 58 => ("JobTextModel", "commentSize", "[I", true)
  | 59 => ("JobTextModel", "commentText", "[I", true)
  | 60 => ("JobTextModel", "levels", "[I", true)
  | 61 => ("JobTextModel", "layoutAt", "[I", true)
  | 62 => ("JobTextModel", "layout", "[I", true)
  | 63 => ("JobTextModel", "chains", "[I", true)
  | 64 => ("JobTextModel", "isFused", "[Z", true)
  | 65 => ("JobTextModel", "keyed", "[J", true)
  | 66 => ("JobTextModel", "flowUp", "[J", true)
  | 67 => ("JobTextModel", "flowDown", "[J", true)
  | 68 => ("JobTextModel", "sideUp", "[J", true)
  | 69 => ("JobTextModel", "sideDown", "[J", true)
  | 70 => ("JobTextModel", "chainCount", "[I", true)
  | 71 => ("JobTextModel", "tasks", "[I", true)
  | 72 => ("JobTextModel", "channels", "[I", true)
  | 73 => ("JobTextModel", "comes", "[Z", true)
  | 74 => ("JobTextModel", "up", "J", false)
  | 75 => ("JobTextModel", "down", "J", false)
  | 76 => ("JobTextModel", "numbers", "I", false)
  | 77 => ("JobTextModel", "numberNames", "[J", true)
  | 78 => ("JobTextModel", "out", "[I", true)
  | 79 => ("JobTextModel", "printed", "I", false)
  | 80 => ("JobTextModel", "differences", "I", false)
  | _ => ("JobTextModel", "differs", "[I", true)
def tyX12 : Nat → FieldType := fun k => match k with
  | 0 => .array .int
  | 1 => .int
  | 2 => .array .int
  | 3 => .array .int
  | 4 => .int
  | 5 => .long
  | 6 => .int
  | 7 => .int
  | 8 => .int
  | 9 => .int
  | 10 => .array .int
  | 11 => .array .int
  | 12 => .int
  | 13 => .int
  | 14 => .int
  | 15 => .int
  | 16 => .array .boolean
  | 17 => .array .int
  | 18 => .array .int
  | 19 => .array .int
  | 20 => .array .int
  | 21 => .array .int
  | 22 => .int
  | 23 => .array .long
  | 24 => .array .int
  | 25 => .array .int
  | 26 => .array .int
  | 27 => .array .int
  | 28 => .array .int
  | 29 => .array .int
  | 30 => .array .long
  | 31 => .array .int
  | 32 => .array .int
  | 33 => .array .int
  | 34 => .array .int
  | 35 => .array .int
  | 36 => .array .int
  | 37 => .array .long
  | 38 => .array .long
  | 39 => .array .int
  | 40 => .array .int
  | 41 => .array .int
  | 42 => .array .int
  | 43 => .array .int
  | 44 => .array .int
  | 45 => .array .long
  | 46 => .array .long
  | 47 => .array .long
  | 48 => .array .int
  | 49 => .array .int
  | 50 => .array .int
  | 51 => .array .long
  | 52 => .array .int
  | 53 => .array .int
  | 54 => .array .int
  | 55 => .array .int
  | 56 => .array .int
  | 57 => .array .int
  | 58 => .array .int
  | 59 => .array .int
  | 60 => .array .int
  | 61 => .array .int
  | 62 => .array .int
  | 63 => .array .int
  | 64 => .array .boolean
  | 65 => .array .long
  | 66 => .array .long
  | 67 => .array .long
  | 68 => .array .long
  | 69 => .array .long
  | 70 => .array .int
  | 71 => .array .int
  | 72 => .array .int
  | 73 => .array .boolean
  | 74 => .long
  | 75 => .long
  | 76 => .int
  | 77 => .array .long
  | 78 => .array .int
  | 79 => .int
  | 80 => .int
  | _ => .array .int
abbrev wsX120 : List Cond := u_ws RX12 TX12 82
theorem nmX12 : ∀ a, a < 82 → ∀ b, b < 82 → a ≠ b → (TX12 a).2.1 ≠ (TX12 b).2.1 := by decide +kernel
theorem tyX12_ok : ∀ k, k < 82 → parseFieldDescriptor (TX12 k).2.2.1 = some (tyX12 k) := by decide +kernel
end
section
/-- the tables' words that go down into every callee -/
def zTG : List Cond := lw_tbl.filter goodWord
theorem zTG_of {i : Nat} {w : Cond} (h : lw_tbl[i]? = some w) (hg : goodWord w = true) : w ∈ zTG := List.mem_filter.mpr ⟨List.mem_of_getElem? h, hg⟩
theorem zTG_good {w : Cond} (h : w ∈ zTG) : (w.onTables && w.keeps) = true ∨ ∃ ty, w = .arrayClass ty := good_of_word (List.mem_filter.mp h).2
theorem zTG_in : GoodIn zTG zTG := fun w h => ⟨h, zTG_good h⟩
/-- the classes whose objects the world holds -/
abbrev zcl : List vw_C := [(RX0, TX0, 2), (RX1, TX1, 4), (RX2, TX2, 3), (RX3, TX3, 6), (RX4, TX4, 14), (RX5, TX5, 2), (RX6, TX6, 15), (RX7, TX7, 16), (RX8, TX8, 8), (RX9, TX9, 10), (RX10, TX10, 13), (RX11, TX11, 12), (RX12, TX12, 82)]
theorem zcl_in : (zcl.all fun q => (u_ws q.1 q.2.1 q.2.2).all fun w => goodWord w && decide (w ∈ lw_tbl)) = true := by decide +kernel
theorem zcl_words {c : Nat} {q : vw_C} (h : zcl[c]? = some q) : ∀ w ∈ u_ws q.1 q.2.1 q.2.2, w ∈ zTG := by
  intro w hw
  have h1 := List.all_eq_true.mp zcl_in q (List.mem_of_getElem? h)
  have h2 := List.all_eq_true.mp h1 w hw
  simp only [Bool.and_eq_true, decide_eq_true_eq] at h2
  exact List.mem_filter.mpr ⟨h2.2, h2.1⟩
end
section
abbrev zR : Type := Nat × Nat × Nat
abbrev zV : Type := Int32 ⊕ Int64 ⊕ zR
abbrev zH : Type := (zR → Nat → Int32) × (zR → Nat → Int64) × (zR → Nat → Option zR)
abbrev zL : Type := List (Option zV)
/-- how many places j a kind has at i -/
def z_bds : List (List Nat) := [[1, 1, 1, 1, 1, 1, 1, 1, 1, 1, 1, 1, 1, 1, 1, 1, 1, 1, 1, 1, 1, 1, 1, 1, 1, 1], [1, 1, 1, 1, 1, 1, 1, 1, 1, 1, 1, 1, 1, 1, 1, 1, 1, 1, 1, 1, 1, 1, 1, 1, 1, 1], [1, 1], [1], [], [], [], [], [], [], [6, 1, 1, 40, 40, 40], [1], [40, 40, 40, 40, 40, 40, 1, 1, 1], [160, 160, 160, 4], [1, 1, 1], [1], [1, 1, 1], [40, 40, 40, 1], [16, 16, 16, 8, 8, 8, 1], [1], [1], [1], [1], [], [], [], [], [], [], [], [6, 1, 1, 40, 40, 40], [1], [1], [1, 1, 1], [40, 40, 40, 1], [40, 40, 40, 1], [1, 1, 1, 1, 1, 1], [1, 1, 1], [1, 1, 1], [1, 1, 1], [1, 1, 1], [1, 1, 1], [1, 1, 1], [1, 1, 1], [1, 1, 1], [1, 1, 1], [1, 1, 1], [1, 1, 1], [1, 1, 1], [1, 1, 1], [1, 1, 1], [1], [1], [1], [1], [1], [1], [], [], [], [], [], [], [], [], [], [], [], [], [], [], [], [], [], [], [], [], [], [], [], [], [], [], [], [], [], [], [], [], [], [], [], [], [], [], [], [], [], [], [], [1], [], [1], [1], [], [], [], [], [], [], [1], [1], [], [], [], [], [1], [1], [1], [1], [1], [1], [], [1], [1], [1], [1], [1], [1], [1], [1], [1], [1], [1], [1], [1], [1], [1], [1], [1], [1], [1], [1], [1], [1], [1], [1], [1], [1], [1], [1], [1], [1], [1], [1], [1], [1], [1], [1], [1], [1], [1], [1], [1], [1], [1], [1], [1], [1], [1], [1], [1], [1], [1], [], [], [], [1], [1], [], [], [1]]
def z_bd (k i : Nat) : Nat := (z_bds.getD k []).getD i 0
def z_vl (q : zR) : Prop := q.2.2 < z_bd q.1 q.2.1
def z_ats : List Nat := [99, 8, 9, 99, 99, 99, 99, 99, 99, 99, 99, 99, 99, 99, 99, 99, 99, 99, 99, 99, 99, 99, 99, 99, 99, 99, 99, 99, 99, 99, 2, 4, 5, 4, 4, 1, 4, 4, 0, 0, 0, 0, 0, 0, 1, 4, 4, 0, 0, 3, 0, 1, 0, 0, 1, 1, 0, 99, 99, 99, 99, 99, 99, 99, 99, 99, 99, 99, 99, 99, 99, 99, 99, 99, 99, 99, 99, 99, 99, 99, 99, 99, 99, 99, 99, 99, 99, 99, 99, 99, 99, 99, 99, 99, 99, 99, 99, 99, 99, 99, 0, 99, 0, 0, 99, 99, 99, 99, 99, 99, 0, 0, 99, 99, 99, 99, 3, 0, 0, 0, 0, 0, 99, 1, 0, 0, 0, 0, 0, 0, 1, 0, 0, 0, 0, 0, 0, 1, 1, 0, 0, 0, 0, 0, 0, 1, 1, 1, 0, 0, 0, 1, 0, 0, 0, 0, 0, 0, 0, 0, 0, 0, 0, 0, 3, 1, 1, 1, 1, 1, 0, 0, 0, 3, 99, 99, 99, 1, 0, 99, 99, 0]
def z_at (k : Nat) : Nat := z_ats.getD k 99
def z_t0s : List Nat := [99, 99, 99, 99, 99, 99, 99, 99, 99, 99, 99, 99, 99, 99, 99, 99, 99, 99, 99, 99, 99, 99, 99, 99, 99, 99, 99, 99, 99, 99, 2, 4, 5, 6, 7, 1, 8, 4, 0, 0, 0, 0, 0, 0, 1, 9, 9, 0, 0, 3, 0, 1, 0, 0, 1, 1, 0, 99, 99, 99, 99, 99, 99, 99, 99, 99, 99, 99, 99, 99, 99, 99, 99, 99, 99, 99, 99, 99, 99, 99, 99, 99, 99, 99, 99, 99, 99, 99, 99, 99, 99, 99, 99, 99, 99, 99, 99, 99, 99, 99, 0, 99, 0, 0, 99, 99, 99, 99, 99, 99, 0, 0, 99, 99, 99, 99, 3, 0, 0, 0, 0, 0, 99, 1, 0, 0, 0, 0, 0, 0, 1, 0, 0, 0, 0, 0, 0, 1, 1, 0, 0, 0, 0, 0, 0, 1, 1, 1, 0, 0, 0, 1, 0, 0, 0, 0, 0, 0, 0, 0, 0, 0, 0, 0, 3, 1, 1, 1, 1, 1, 0, 0, 0, 3, 99, 99, 99, 1, 0, 99, 99, 0]
def z_t0 (k : Nat) : Nat := z_t0s.getD k 99
def z_lns : List Nat := [0, 0, 0, 0, 0, 0, 0, 0, 0, 0, 0, 0, 0, 0, 0, 0, 0, 0, 0, 0, 0, 0, 0, 0, 0, 0, 0, 0, 0, 0, 0, 6, 2, 40, 4, 3, 0, 40, 40, 64, 64, 40, 40, 40, 40, 40, 40, 40, 40, 40, 40, 21, 6, 6, 40, 200, 240, 0, 0, 0, 0, 0, 0, 0, 0, 0, 0, 0, 0, 0, 0, 0, 0, 0, 0, 0, 0, 0, 0, 0, 0, 0, 0, 0, 0, 0, 0, 0, 0, 0, 0, 0, 0, 0, 0, 0, 0, 0, 0, 0, 1200, 0, 7200, 6, 0, 0, 0, 0, 0, 0, 8, 8, 0, 0, 0, 0, 3, 3, 3, 3, 3, 3, 0, 120, 120, 120, 120, 120, 120, 120, 120, 120, 120, 120, 120, 120, 120, 480, 480, 480, 480, 480, 480, 480, 480, 360, 48, 48, 48, 48, 48, 48, 48, 48, 48, 192, 192, 120, 120, 7200, 120, 120, 120, 120, 120, 120, 120, 120, 120, 120, 3, 3, 3, 1600, 0, 0, 0, 200, 16000, 0, 0, 240]
def z_sb : List (List Int32) := [[117, 115, 101, 32, 115, 101, 116, 32, 115, 111, 117, 114, 99, 101, 32, 111, 112, 32, 108, 111, 111, 112, 32, 102, 114, 111, 109, 32, 116, 111, 32, 112, 97, 114, 32, 114, 97, 116, 101, 32, 112, 97, 115, 115, 32, 107, 101, 121, 32, 107, 101, 101, 112, 32, 115, 105, 100, 101, 32, 109, 97, 112, 32, 102, 105, 108, 116, 101, 114, 32, 102, 108, 97, 116, 32, 115, 112, 97, 110, 32, 106, 111, 105, 110, 32, 117, 110, 105, 111, 110, 32, 102, 111, 108, 100, 32, 115, 105, 110, 107], [59, 44, 58, 46, 61, 47], [115, 111, 117, 114, 99, 101, 32], [111, 112, 32], [58, 32], [109, 97, 112], [102, 105, 108, 116, 101, 114], [102, 108, 97, 116], [115, 112, 97, 110], [106, 111, 105, 110], [117, 110, 105, 111, 110], [102, 111, 108, 100], [115, 105, 110, 107], [32, 102, 114, 111, 109, 32], [44, 32], [32, 112, 97, 114, 32], [32, 114, 97, 116, 101, 32], [32, 112, 97, 115, 115, 32], [32, 107, 101, 121, 32], [32, 107, 101, 101, 112, 32], [32, 115, 105, 100, 101, 32], [59, 10], [115, 101, 116, 32], [32, 61, 32], [108, 111, 111, 112, 32], [32, 116, 111, 32]]
def z_ci : List (List Int32) := [[16128, 2, 4, 1, 64, 3, 1, 32768, 1, 4, 1, 1, 16, 1069547520, 16384, 1, 1, 2, 2, 2, 128, 2, 1, 2, 1, 44, 12, 4, 12], [2818048, 2949120, 2949120, 2949120, 3473408, 3473408, 589824, 3473408, 65536]]
def z_rl (i : Nat) : Nat := if i < 2 then 1200 else if i = 2 then 9728 else 60
def z_ln (q : zR) : Nat := match q.1 with
  | 1 => (z_sb.getD q.2.1 []).length
  | 2 => if q.2.1 = 0 then 29 else 9
  | 30 => z_rl q.2.1
  | 36 => if q.2.1 < 3 then 16 else 8
  | k => z_lns.getD k 0
def z_tcs : List (List Nat) := [[2, 0], [0, 0, 0, 0], [1, 1, 5], [1, 0, 1, 0, 0, 0], [5, 2, 0, 2, 0, 2, 0, 2, 2, 0, 2, 2, 0, 2], [2, 2], [2, 2, 2, 2, 2, 2, 2, 2, 2, 2, 2, 0, 0, 0, 0], [1, 0, 0, 0, 0, 0, 1, 0, 2, 0, 2, 0, 0, 0, 0, 0], [1, 1, 0, 0, 0, 0, 0, 0], [2, 2, 3, 0, 0, 0, 0, 3, 3, 0], [2, 2, 2, 3, 2, 2, 0, 0, 0, 0, 0, 0, 1], [2, 2, 2, 2, 3, 2, 2, 2, 2, 0, 2, 0], [2, 0, 2, 2, 0, 1, 0, 0, 0, 0, 2, 2, 0, 0, 0, 0, 2, 2, 2, 2, 2, 2, 0, 2, 2, 2, 2, 2, 2, 2, 2, 2, 2, 2, 2, 2, 2, 2, 2, 2, 2, 2, 2, 2, 2, 2, 2, 2, 2, 2, 2, 2, 2, 2, 2, 2, 2, 2, 2, 2, 2, 2, 2, 2, 2, 2, 2, 2, 2, 2, 2, 2, 2, 2, 1, 1, 0, 2, 2, 0, 0, 2]]
def z_tc (kd k : Nat) : Nat := (z_tcs.getD (kd - 10) []).getD k 9
def z_nf (c : Nat) : Nat := (z_tcs.getD c []).length
/-- where a final field leads -/
def z_fr (q : zR) (k : Nat) : zR := match q.1 with
  | 10 => (30, q.2.1, q.2.2)
  | 14 => (match k with
    | 1 => (33, q.2.1, 0)
    | 3 => (36, q.2.1, 0)
    | 5 => (36, q.2.1 + 3, 0)
    | 7 => (37, q.2.1, 0)
    | 8 => (38, q.2.1, 0)
    | 10 => (39, q.2.1, 0)
    | 11 => (40, q.2.1, 0)
    | _ => (16, q.2.1, 0))
  | 15 => (match k with
    | 0 => (11, 0, 0)
    | _ => (54, 0, 0))
  | 16 => (match k with
    | 0 => (41, q.2.1, 0)
    | 1 => (42, q.2.1, 0)
    | 2 => (43, q.2.1, 0)
    | 3 => (44, q.2.1, 0)
    | 4 => (45, q.2.1, 0)
    | 5 => (46, q.2.1, 0)
    | 6 => (12, q.2.1 + 6, 0)
    | 7 => (47, q.2.1, 0)
    | 8 => (48, q.2.1, 0)
    | 9 => (49, q.2.1, 0)
    | _ => (50, q.2.1, 0))
  | 17 => (match k with
    | 8 => (34, q.2.1, q.2.2)
    | _ => (35, q.2.1, q.2.2))
  | 19 => (match k with
    | 0 => (20, 0, 0)
    | _ => (11, 0, 0))
  | 20 => (match k with
    | 0 => (51, 0, 0)
    | 1 => (31, 0, 0)
    | 2 => (11, 0, 0)
    | 4 => (52, 0, 0)
    | _ => (53, 0, 0))
  | 21 => (match k with
    | 0 => (10, 1, 0)
    | 1 => (31, 0, 0)
    | 2 => (10, 2, 0)
    | 3 => (32, 0, 0)
    | 5 => (11, 0, 0)
    | 6 => (19, 0, 0)
    | 7 => (15, 0, 0)
    | 8 => (55, 0, 0)
    | _ => (56, 0, 0))
  | _ => (100 + k, 0, 0)
/-- what an array of cells that never changes holds -/
def z_el (q : zR) (k : Nat) : zR := match q.1 with
  | 31 => (10, 0, k)
  | 33 => (17, q.2.1, k)
  | 34 => (13, q.2.1, 4 * q.2.2 + k)
  | 36 => (18, q.2.1, k)
  | 37 => (10, q.2.1 + 3, k)
  | 45 => (12, q.2.1, k)
  | _ => (12, q.2.1 + 3, k)
def z_cns : List String := ["JobText$Bytes", "JobText$Fault", "JobText$Flow", "JobText$Input", "JobText$Job", "JobText$Judge", "JobText$Layout", "JobText$Operator", "JobText$Pair", "JobText$Reader", "JobText$Words", "JobText", "JobTextModel", "java/lang/String", "java/lang/StringLatin1", "jdk/internal/util/Preconditions", "java/lang/Math"]
def z_cn (c : Nat) : String := z_cns.getD c ""
/-- a method: name, bytes, locals, answer, (own class, frames, locals of its room), (static, parameters), places of its words -/
abbrev zM : Type := MethodName × ByteArray × Nat × Option FieldType × (Nat × Nat × Nat) × (Bool × Nat) × (Nat × Nat × Nat × Nat)
def z_ms0 : List zM := [
  (⟨"java/lang/String", "coder", "()B"⟩, prog_17_method_152_code, 1, (some .byte), (13, 1, 21), (false, 0), (548, 132, 546, 547)),
  (⟨"java/lang/String", "length", "()I"⟩, prog_17_method_54_code, 1, (some .int), (13, 2, 41), (false, 0), (544, 132, 542, 543)),
  (⟨"java/lang/String", "isLatin1", "()Z"⟩, prog_17_method_154_code, 1, (some .boolean), (13, 1, 21), (false, 0), (558, 132, 556, 557)),
  (⟨"jdk/internal/util/Preconditions", "checkIndex", "(IILjava/util/function/BiFunction;)I"⟩, prog_20_method_11_code, 3, (some .int), (15, 1, 21), (true, 3), (569, 134, 568, 0)),
  (⟨"java/lang/String", "checkIndex", "(II)V"⟩, prog_17_method_155_code, 2, none, (13, 2, 43), (true, 2), (564, 132, 563, 0)),
  (⟨"java/lang/StringLatin1", "charAt", "([BI)C"⟩, prog_18_method_2_code, 2, (some .char), (14, 3, 64), (true, 2), (561, 133, 560, 0)),
  (⟨"java/lang/String", "charAt", "(I)C"⟩, prog_17_method_56_code, 2, (some .char), (13, 4, 85), (false, 1), (554, 132, 552, 553)),
  (⟨"JobText", "isDigit", "(I)Z"⟩, prog_1_method_38_code, 1, (some .boolean), (11, 1, 21), (true, 1), (595, 120, 594, 0)),
  (⟨"JobText", "longerName", "(JI)J"⟩, prog_1_method_40_code, 3, (some .long), (11, 2, 41), (true, 2), (591, 120, 590, 0)),
  (⟨"JobText", "lowByte", "(JI)I"⟩, prog_1_method_35_code, 3, (some .int), (11, 1, 21), (true, 2), (741, 120, 740, 0)),
  (⟨"JobText", "isTextByte", "(I)Z"⟩, prog_1_method_36_code, 1, (some .boolean), (11, 1, 21), (true, 1), (744, 120, 743, 0)),
  (⟨"JobText$Bytes", "add", "(I)V"⟩, prog_2_method_4_code, 2, none, (0, 1, 21), (false, 1), (748, 121, 746, 747)),
  (⟨"JobText", "type", "(JI)I"⟩, prog_1_method_2_code, 5, (some .int), (11, 2, 43), (false, 2), (738, 120, 736, 737)),
  (⟨"JobText", "cut", "(I)I"⟩, prog_1_method_3_code, 2, (some .int), (11, 1, 21), (false, 1), (752, 120, 750, 751)),
  (⟨"JobText", "isFile", "(I)Z"⟩, prog_1_method_24_code, 1, (some .boolean), (11, 1, 21), (true, 1), (759, 120, 758, 0)),
  (⟨"JobText$Bytes", "clear", "()V"⟩, prog_2_method_2_code, 1, none, (0, 1, 21), (false, 0), (767, 121, 765, 766)),
  (⟨"JobText$Bytes", "at", "(I)I"⟩, prog_2_method_3_code, 2, (some .int), (0, 1, 21), (false, 1), (771, 121, 769, 770)),
  (⟨"JobText$Bytes", "become", "(LJobText$Bytes;II)V"⟩, prog_2_method_5_code, 5, none, (0, 2, 42), (false, 3), (763, 121, 761, 762)),
  (⟨"JobText", "file", "(I)I"⟩, prog_1_method_4_code, 2, (some .int), (11, 3, 66), (false, 1), (756, 120, 754, 755)),
  (⟨"JobText", "byteOf", "(II)I"⟩, prog_1_method_5_code, 3, (some .int), (11, 2, 42), (false, 2), (777, 120, 775, 776)),
  (⟨"JobText", "isJob", "(I)Z"⟩, prog_1_method_25_code, 1, (some .boolean), (11, 1, 21), (true, 1), (785, 120, 784, 0)),
  (⟨"JobText$Fault", "clear", "()V"⟩, prog_3_method_2_code, 1, none, (1, 1, 21), (false, 0), (789, 123, 787, 788)),
  (⟨"JobText$Job", "clear", "()V"⟩, prog_6_method_2_code, 1, none, (4, 1, 21), (false, 0), (797, 124, 795, 796)),
  (⟨"JobText$Words", "open", "(I)V"⟩, prog_12_method_3_code, 2, none, (10, 2, 41), (false, 1), (805, 131, 803, 804)),
  (⟨"JobText$Words", "begin", "(LJobText$Job;I)V"⟩, prog_12_method_2_code, 3, none, (10, 3, 62), (false, 2), (801, 131, 799, 800)),
  (⟨"JobText$Words", "here", "()I"⟩, prog_12_method_7_code, 1, (some .int), (10, 2, 42), (false, 0), (815, 131, 814, 0)),
  (⟨"JobText$Fault", "tell", "(III)V"⟩, prog_3_method_3_code, 4, none, (1, 1, 21), (false, 3), (824, 123, 822, 823)),
  (⟨"JobText$Job", "addComment", "(LJobText$Bytes;II)V"⟩, prog_6_method_5_code, 4, none, (4, 3, 66), (false, 3), (828, 124, 826, 827)),
  (⟨"JobText$Words", "meetComment", "()V"⟩, prog_12_method_9_code, 5, none, (10, 4, 89), (false, 0), (820, 131, 819, 1)),
  (⟨"JobText$Words", "skipToToken", "()V"⟩, prog_12_method_8_code, 3, none, (10, 5, 113), (false, 0), (811, 131, 809, 810)),
  (⟨"JobText", "isSmallLetter", "(I)Z"⟩, prog_1_method_37_code, 1, (some .boolean), (11, 1, 21), (true, 1), (836, 120, 835, 0)),
  (⟨"JobText", "isWordByte", "(I)Z"⟩, prog_1_method_39_code, 1, (some .boolean), (11, 2, 41), (true, 1), (843, 120, 842, 0)),
  (⟨"JobText$Words", "lookAtName", "()V"⟩, prog_12_method_10_code, 2, none, (10, 3, 63), (false, 0), (840, 131, 839, 2)),
  (⟨"JobText$Words", "lookAtNumber", "()V"⟩, prog_12_method_11_code, 4, none, (10, 3, 62), (false, 0), (849, 131, 848, 3)),
  (⟨"java/lang/StringLatin1", "canEncode", "(I)Z"⟩, prog_18_method_4_code, 1, (some .boolean), (14, 1, 21), (true, 1), (865, 133, 864, 0)),
  (⟨"java/lang/StringLatin1", "indexOfChar", "([BIII)I"⟩, prog_18_method_23_code, 6, (some .int), (14, 1, 21), (true, 4), (872, 133, 871, 0)),
  (⟨"java/lang/StringLatin1", "indexOf", "([BIII)I"⟩, prog_18_method_22_code, 4, (some .int), (14, 2, 46), (true, 4), (862, 133, 861, 0)),
  (⟨"java/lang/String", "indexOf", "(II)I"⟩, prog_17_method_80_code, 3, (some .int), (13, 3, 69), (false, 2), (858, 132, 856, 857)),
  (⟨"java/lang/String", "indexOf", "(I)I"⟩, prog_17_method_79_code, 2, (some .int), (13, 4, 91), (false, 1), (854, 132, 852, 853)),
  (⟨"JobText$Words", "look", "()V"⟩, prog_12_method_6_code, 3, none, (10, 5, 112), (false, 0), (833, 131, 831, 832)),
  (⟨"JobText$Reader", "tellHere", "(I)V"⟩, prog_11_method_4_code, 2, none, (9, 2, 44), (false, 1), (917, 130, 916, 5)),
  (⟨"JobText$Words", "close", "()V"⟩, prog_12_method_4_code, 1, none, (10, 1, 21), (false, 0), (926, 131, 924, 925)),
  (⟨"JobText$Reader", "beginStatement", "()V"⟩, prog_11_method_5_code, 1, none, (9, 2, 41), (false, 0), (922, 130, 921, 6)),
  (⟨"JobText$Words", "isOpen", "(I)Z"⟩, prog_12_method_5_code, 3, (some .boolean), (10, 1, 21), (false, 1), (935, 131, 933, 934)),
  (⟨"JobText$Reader", "goOnWithUse", "()V"⟩, prog_11_method_6_code, 1, none, (9, 3, 65), (false, 0), (930, 130, 929, 7)),
  (⟨"JobText$Pair", "begin", "(LJobText$Words;)V"⟩, prog_10_method_2_code, 2, none, (8, 1, 21), (false, 1), (948, 127, 946, 947)),
  (⟨"JobText$Job", "noteStatement", "(II)V"⟩, prog_6_method_4_code, 4, none, (4, 1, 21), (false, 2), (952, 124, 950, 951)),
  (⟨"JobText$Reader", "beginSet", "()V"⟩, prog_11_method_8_code, 2, none, (9, 3, 65), (false, 0), (944, 130, 943, 9)),
  (⟨"JobText$Pair", "tellSecond", "(LJobText$Words;)V"⟩, prog_10_method_3_code, 2, none, (8, 1, 21), (false, 1), (956, 127, 954, 955)),
  (⟨"JobText$Reader", "beginLoop", "()V"⟩, prog_11_method_9_code, 1, none, (9, 3, 65), (false, 0), (960, 130, 959, 10))]
def z_ms1 : List zM := [
  (⟨"JobText$Reader", "goOnWithLine", "()V"⟩, prog_11_method_7_code, 1, none, (9, 4, 86), (false, 0), (940, 130, 939, 8)),
  (⟨"JobText$Job", "find", "(J)I"⟩, prog_6_method_3_code, 4, (some .int), (4, 1, 21), (false, 1), (972, 124, 970, 971)),
  (⟨"JobText$Operator", "begin", "(LJobText$Words;)V"⟩, prog_9_method_2_code, 2, none, (7, 1, 21), (false, 1), (976, 125, 974, 975)),
  (⟨"JobText$Reader", "beginOperator", "()V"⟩, prog_11_method_11_code, 1, none, (9, 3, 65), (false, 0), (968, 130, 967, 12)),
  (⟨"JobText$Reader", "tellKind", "(I)V"⟩, prog_11_method_13_code, 2, none, (9, 1, 21), (false, 1), (980, 130, 979, 13)),
  (⟨"JobText$Reader", "kindOf", "(I)I"⟩, prog_11_method_12_code, 2, (some .int), (9, 1, 21), (true, 1), (985, 130, 984, 0)),
  (⟨"JobText$Operator", "addInput", "(LJobText$Words;)V"⟩, prog_9_method_3_code, 3, none, (7, 1, 21), (false, 1), (993, 125, 991, 992)),
  (⟨"JobText$Reader", "addInput", "()V"⟩, prog_11_method_14_code, 1, none, (9, 3, 65), (false, 0), (989, 130, 988, 14)),
  (⟨"JobText$Operator", "tellInputSide", "(LJobText$Words;)V"⟩, prog_9_method_4_code, 2, none, (7, 1, 21), (false, 1), (997, 125, 995, 996)),
  (⟨"JobText$Reader", "goOnWithOperator", "()V"⟩, prog_11_method_10_code, 1, none, (9, 4, 85), (false, 0), (964, 130, 963, 11)),
  (⟨"JobText$Reader", "boundedNumber", "(II)I"⟩, prog_11_method_18_code, 3, (some .int), (9, 3, 65), (false, 2), (1005, 130, 1004, 16)),
  (⟨"JobText$Operator", "sideOf", "(J)I"⟩, prog_9_method_5_code, 4, (some .int), (7, 1, 21), (false, 1), (1014, 125, 1012, 1013)),
  (⟨"JobText$Reader", "addSide", "()V"⟩, prog_11_method_19_code, 1, none, (9, 3, 65), (false, 0), (1010, 130, 1009, 17)),
  (⟨"JobText$Reader", "goOnWithProperty", "()V"⟩, prog_11_method_17_code, 1, none, (9, 4, 87), (false, 0), (1001, 130, 1000, 15)),
  (⟨"JobText$Reader", "propertyState", "(I)I"⟩, prog_11_method_16_code, 1, (some .int), (9, 1, 21), (true, 1), (1021, 130, 1020, 0)),
  (⟨"JobText$Reader", "goOnBehind", "()V"⟩, prog_11_method_15_code, 1, none, (9, 2, 41), (false, 0), (1018, 130, 1017, 18)),
  (⟨"JobText$Reader", "meetToken", "()V"⟩, prog_11_method_3_code, 2, none, (9, 5, 107), (false, 0), (911, 130, 910, 4)),
  (⟨"JobText$Reader", "readText", "(LJobText$Job;I)V"⟩, prog_11_method_2_code, 4, none, (9, 6, 135), (false, 2), (793, 130, 791, 792)),
  (⟨"JobText$Judge", "judgeInput", "(LJobText$Job;LJobText$Operator;LJobText$Input;)V"⟩, prog_7_method_4_code, 5, none, (5, 2, 44), (false, 3), (1033, 136, 1032, 20)),
  (⟨"JobText$Operator", "hasWrongInputCount", "()Z"⟩, prog_9_method_8_code, 1, (some .boolean), (7, 1, 21), (false, 0), (1040, 125, 1038, 1039)),
  (⟨"JobText$Judge", "judgeOperator", "(LJobText$Job;LJobText$Operator;)V"⟩, prog_7_method_3_code, 4, none, (5, 3, 68), (false, 2), (1029, 136, 1028, 19)),
  (⟨"JobText$Judge", "judgeLoop", "(LJobText$Job;LJobText$Pair;)V"⟩, prog_7_method_5_code, 3, none, (5, 2, 44), (false, 2), (1044, 136, 1043, 21)),
  (⟨"JobText$Judge", "comesFrom", "(II)Z"⟩, prog_7_method_7_code, 3, (some .boolean), (5, 1, 21), (false, 2), (1052, 136, 1051, 23)),
  (⟨"JobText$Judge", "findOrigins", "(LJobText$Job;)V"⟩, prog_7_method_6_code, 5, none, (5, 2, 43), (false, 1), (1048, 136, 1047, 22)),
  (⟨"JobText$Judge", "judgeCycles", "(LJobText$Job;)V"⟩, prog_7_method_8_code, 3, none, (5, 2, 44), (false, 1), (1056, 136, 1055, 24)),
  (⟨"JobText$Judge", "judgeLoopBack", "(LJobText$Pair;)V"⟩, prog_7_method_9_code, 4, none, (5, 2, 44), (false, 1), (1060, 136, 1059, 25)),
  (⟨"JobText$Layout", "inputsStand", "(LJobText$Operator;)Z"⟩, prog_8_method_5_code, 3, (some .boolean), (6, 1, 21), (false, 1), (1072, 128, 1071, 27)),
  (⟨"JobText$Layout", "firstReady", "(LJobText$Job;)I"⟩, prog_8_method_4_code, 3, (some .int), (6, 2, 43), (false, 1), (1068, 128, 1067, 26)),
  (⟨"JobText$Layout", "levelOf", "(LJobText$Operator;)I"⟩, prog_8_method_6_code, 4, (some .int), (6, 1, 21), (false, 1), (1076, 128, 1075, 28)),
  (⟨"JobText$Layout", "commonKey", "(LJobText$Operator;)J"⟩, prog_8_method_8_code, 5, (some .long), (6, 1, 21), (false, 1), (1085, 128, 1083, 1084)),
  (⟨"JobText$Layout", "keyOf", "(LJobText$Operator;)J"⟩, prog_8_method_7_code, 2, (some .long), (6, 2, 45), (false, 1), (1081, 128, 1080, 29)),
  (⟨"JobText$Layout", "arrange", "(LJobText$Job;)V"⟩, prog_8_method_3_code, 4, none, (6, 3, 66), (false, 1), (1064, 128, 1062, 1063)),
  (⟨"JobText$Operator", "wantsKeyedInputs", "()Z"⟩, prog_9_method_7_code, 1, (some .boolean), (7, 1, 21), (false, 0), (1093, 125, 1091, 1092)),
  (⟨"JobText$Judge", "judgeKeys", "(LJobText$Job;)V"⟩, prog_7_method_10_code, 4, none, (5, 2, 45), (false, 1), (1089, 136, 1088, 30)),
  (⟨"JobText$Judge", "judgeText", "(LJobText$Job;)V"⟩, prog_7_method_2_code, 3, none, (5, 4, 91), (false, 1), (1025, 136, 1023, 1024)),
  (⟨"JobText", "numberOf", "(J)I"⟩, prog_1_method_29_code, 4, (some .int), (11, 1, 21), (false, 1), (1102, 120, 1101, 32)),
  (⟨"JobText", "newNames", "(LJobText$Job;)I"⟩, prog_1_method_30_code, 4, (some .int), (11, 2, 44), (false, 1), (1098, 120, 1097, 31)),
  (⟨"JobText", "giveNumbers", "(LJobText$Job;)V"⟩, prog_1_method_31_code, 5, none, (11, 2, 44), (false, 1), (1106, 120, 1105, 33)),
  (⟨"JobText$Flow", "commonDivisor", "(JJ)J"⟩, prog_4_method_7_code, 11, (some .long), (2, 1, 21), (true, 2), (1125, 129, 1124, 0)),
  (⟨"JobText$Flow", "put", "(JJ)V"⟩, prog_4_method_3_code, 7, none, (2, 2, 51), (false, 2), (1122, 129, 1120, 1121)),
  (⟨"JobText$Layout", "flowOf", "(LJobText$Input;)LJobText$Flow;"⟩, prog_8_method_12_code, 2, (some (.object "JobText$Flow")), (6, 1, 21), (false, 1), (1130, 128, 1129, 36)),
  (⟨"JobText$Flow", "become", "(LJobText$Flow;)V"⟩, prog_4_method_2_code, 2, none, (2, 1, 21), (false, 1), (1134, 129, 1132, 1133)),
  (⟨"JobText$Flow", "lessen", "(LJobText$Flow;)V"⟩, prog_4_method_6_code, 2, none, (2, 2, 42), (false, 1), (1138, 129, 1136, 1137)),
  (⟨"JobText$Flow", "add", "(LJobText$Flow;)V"⟩, prog_4_method_5_code, 2, none, (2, 3, 77), (false, 1), (1143, 129, 1141, 1142)),
  (⟨"JobText$Layout", "findWhatComes", "(LJobText$Operator;)V"⟩, prog_8_method_11_code, 3, none, (6, 4, 98), (false, 1), (1118, 128, 1117, 35)),
  (⟨"JobText$Flow", "multiply", "(II)V"⟩, prog_4_method_4_code, 3, none, (2, 3, 77), (false, 2), (1148, 129, 1146, 1147)),
  (⟨"JobText$Layout", "reckonFlow", "(LJobText$Operator;I)V"⟩, prog_8_method_10_code, 5, none, (6, 5, 120), (false, 2), (1114, 128, 1113, 34)),
  (⟨"JobText$Layout", "countReaders", "(LJobText$Job;)V"⟩, prog_8_method_13_code, 6, none, (6, 1, 21), (false, 1), (1152, 128, 1151, 37)),
  (⟨"JobText$Operator", "parOrOne", "()I"⟩, prog_9_method_6_code, 1, (some .int), (7, 1, 21), (false, 0), (1164, 125, 1162, 1163)),
  (⟨"JobText$Layout", "isFused", "(LJobText$Job;LJobText$Operator;)Z"⟩, prog_8_method_15_code, 5, (some .boolean), (6, 2, 41), (false, 2), (1160, 128, 1159, 39))]
def z_ms2 : List zM := [
  (⟨"JobText$Layout", "findChains", "(LJobText$Job;)V"⟩, prog_8_method_14_code, 5, none, (6, 3, 65), (false, 1), (1156, 128, 1155, 38)),
  (⟨"JobText$Layout", "channelsBetween", "(LJobText$Job;II)I"⟩, prog_8_method_17_code, 6, (some .int), (6, 2, 41), (false, 3), (1172, 128, 1171, 41)),
  (⟨"JobText$Layout", "countChannels", "(LJobText$Job;)V"⟩, prog_8_method_16_code, 4, none, (6, 3, 66), (false, 1), (1168, 128, 1167, 40)),
  (⟨"JobText$Layout", "reckon", "(LJobText$Job;)V"⟩, prog_8_method_9_code, 4, none, (6, 6, 144), (false, 1), (1110, 128, 1108, 1109)),
  (⟨"JobText", "putJob", "(I)V"⟩, prog_1_method_28_code, 3, none, (11, 1, 21), (false, 1), (1176, 120, 1175, 42)),
  (⟨"JobText", "read", "(II)I"⟩, prog_1_method_6_code, 3, (some .int), (11, 7, 167), (false, 2), (782, 120, 780, 781)),
  (⟨"JobText", "drop", "(I)I"⟩, prog_1_method_7_code, 2, (some .int), (11, 2, 41), (false, 1), (1180, 120, 1178, 1179)),
  (⟨"JobText", "fault", "(I)I"⟩, prog_1_method_8_code, 2, (some .int), (11, 1, 21), (false, 1), (1184, 120, 1182, 1183)),
  (⟨"JobText", "refusal", "(III)I"⟩, prog_1_method_26_code, 4, (some .int), (11, 2, 41), (false, 3), (1192, 120, 1191, 43)),
  (⟨"JobText$Job", "howMany", "(I)I"⟩, prog_6_method_6_code, 2, (some .int), (4, 1, 21), (false, 1), (1196, 124, 1194, 1195)),
  (⟨"JobText", "count", "(II)I"⟩, prog_1_method_9_code, 4, (some .int), (11, 3, 64), (false, 2), (1188, 120, 1186, 1187)),
  (⟨"JobText", "operatorRefusal", "(IIII)I"⟩, prog_1_method_27_code, 6, (some .int), (11, 3, 64), (false, 4), (1204, 120, 1203, 44)),
  (⟨"JobText$Layout", "laid", "(II)I"⟩, prog_8_method_2_code, 3, (some .int), (6, 1, 21), (false, 2), (1208, 128, 1206, 1207)),
  (⟨"JobText$Operator", "told", "(I)I"⟩, prog_9_method_9_code, 2, (some .int), (7, 1, 21), (false, 1), (1212, 125, 1210, 1211)),
  (⟨"JobText", "operator", "(III)I"⟩, prog_1_method_10_code, 5, (some .int), (11, 4, 89), (false, 3), (1200, 120, 1198, 1199)),
  (⟨"JobText", "nameLength", "(J)I"⟩, prog_1_method_41_code, 5, (some .int), (11, 1, 21), (true, 1), (1222, 120, 1221, 0)),
  (⟨"JobText", "nameByteFromEnd", "(JI)I"⟩, prog_1_method_43_code, 6, (some .int), (11, 1, 21), (true, 2), (1225, 120, 1224, 0)),
  (⟨"JobText", "nameByte", "(JI)I"⟩, prog_1_method_42_code, 4, (some .int), (11, 2, 46), (true, 2), (1219, 120, 1218, 0)),
  (⟨"JobText", "letter", "(IIII)I"⟩, prog_1_method_11_code, 7, (some .int), (11, 4, 89), (false, 4), (1216, 120, 1214, 1215)),
  (⟨"JobText", "input", "(IIII)I"⟩, prog_1_method_12_code, 7, (some .int), (11, 4, 89), (false, 4), (1229, 120, 1227, 1228)),
  (⟨"JobText", "flow", "(III)I"⟩, prog_1_method_13_code, 7, (some .int), (11, 4, 89), (false, 3), (1233, 120, 1231, 1232)),
  (⟨"JobText", "set", "(III)I"⟩, prog_1_method_14_code, 6, (some .int), (11, 3, 64), (false, 3), (1237, 120, 1235, 1236)),
  (⟨"JobText", "setLetter", "(IIZI)I"⟩, prog_1_method_15_code, 7, (some .int), (11, 3, 69), (false, 4), (1241, 120, 1239, 1240)),
  (⟨"JobText", "loop", "(III)I"⟩, prog_1_method_16_code, 6, (some .int), (11, 3, 64), (false, 3), (1245, 120, 1243, 1244)),
  (⟨"JobText$Bytes", "addBytes", "(LJobText$Bytes;)V"⟩, prog_2_method_6_code, 3, none, (0, 2, 42), (false, 1), (1262, 121, 1260, 1261)),
  (⟨"JobText$Job", "printComment", "(LJobText$Bytes;I)V"⟩, prog_6_method_8_code, 3, none, (4, 3, 64), (false, 2), (1257, 124, 1256, 45)),
  (⟨"JobText$Bytes", "addText", "(Ljava/lang/String;)V"⟩, prog_2_method_7_code, 3, none, (0, 5, 106), (false, 1), (1276, 121, 1274, 1275)),
  (⟨"JobText$Bytes", "addName", "(J)V"⟩, prog_2_method_8_code, 4, none, (0, 2, 46), (false, 1), (1282, 121, 1280, 1281)),
  (⟨"JobText$Operator", "kindWord", "()Ljava/lang/String;"⟩, prog_9_method_14_code, 1, (some (.object "java/lang/String")), (7, 1, 21), (false, 0), (1289, 125, 1288, 47)),
  (⟨"JobText$Operator", "printInputs", "(LJobText$Bytes;)V"⟩, prog_9_method_15_code, 3, none, (7, 6, 128), (false, 1), (1302, 125, 1301, 48)),
  (⟨"JobText$Bytes", "addNumber", "(I)V"⟩, prog_2_method_9_code, 3, none, (0, 2, 42), (false, 1), (1312, 121, 1310, 1311)),
  (⟨"JobText$Operator", "printNumber", "(LJobText$Bytes;Ljava/lang/String;I)V"⟩, prog_9_method_16_code, 3, none, (7, 6, 128), (true, 3), (1308, 125, 1307, 0)),
  (⟨"JobText$Operator", "printSides", "(LJobText$Bytes;)V"⟩, prog_9_method_17_code, 3, none, (7, 6, 128), (false, 1), (1320, 125, 1319, 49)),
  (⟨"JobText$Operator", "printTo", "(LJobText$Bytes;)V"⟩, prog_9_method_13_code, 2, none, (7, 7, 150), (false, 1), (1270, 125, 1268, 1269)),
  (⟨"JobText$Pair", "printSetTo", "(LJobText$Bytes;)V"⟩, prog_10_method_4_code, 2, none, (8, 6, 128), (false, 1), (1326, 127, 1324, 1325)),
  (⟨"JobText$Pair", "printLoopTo", "(LJobText$Bytes;)V"⟩, prog_10_method_5_code, 2, none, (8, 6, 128), (false, 1), (1336, 127, 1334, 1335)),
  (⟨"JobText$Job", "printStatement", "(LJobText$Bytes;I)V"⟩, prog_6_method_9_code, 4, none, (4, 8, 171), (false, 2), (1266, 124, 1265, 46)),
  (⟨"JobText$Job", "printTo", "(LJobText$Bytes;)V"⟩, prog_6_method_7_code, 4, none, (4, 9, 194), (false, 1), (1253, 124, 1251, 1252)),
  (⟨"JobText", "print", "(I)I"⟩, prog_1_method_17_code, 3, (some .int), (11, 10, 217), (false, 1), (1249, 120, 1247, 1248)),
  (⟨"JobText", "out", "(I)I"⟩, prog_1_method_18_code, 2, (some .int), (11, 2, 42), (false, 1), (1342, 120, 1340, 1341)),
  (⟨"JobText", "take", "()I"⟩, prog_1_method_19_code, 1, (some .int), (11, 3, 66), (false, 0), (1346, 120, 1344, 1345)),
  (⟨"JobText", "addDifference", "(III)V"⟩, prog_1_method_34_code, 5, none, (11, 1, 21), (false, 3), (1360, 120, 1359, 51)),
  (⟨"JobText$Input", "isLike", "(LJobText$Input;)Z"⟩, prog_5_method_2_code, 2, (some .boolean), (3, 1, 21), (false, 1), (1372, 126, 1370, 1371)),
  (⟨"JobText$Operator", "hasInputsOf", "(LJobText$Operator;)Z"⟩, prog_9_method_11_code, 3, (some .boolean), (7, 2, 42), (false, 1), (1368, 125, 1367, 52)),
  (⟨"JobText$Operator", "hasSidesOf", "(LJobText$Operator;)Z"⟩, prog_9_method_12_code, 3, (some .boolean), (7, 1, 21), (false, 1), (1376, 125, 1375, 53)),
  (⟨"JobText$Operator", "differenceBits", "(LJobText$Operator;)I"⟩, prog_9_method_10_code, 3, (some .int), (7, 3, 64), (false, 1), (1364, 125, 1362, 1363)),
  (⟨"JobText", "compareFirst", "()V"⟩, prog_1_method_32_code, 5, none, (11, 4, 86), (false, 0), (1355, 120, 1354, 50)),
  (⟨"JobText", "findNew", "()V"⟩, prog_1_method_33_code, 2, none, (11, 2, 45), (false, 0), (1380, 120, 1379, 54)),
  (⟨"JobText", "differ", "()I"⟩, prog_1_method_20_code, 1, (some .int), (11, 5, 110), (false, 0), (1351, 120, 1349, 1350)),
  (⟨"JobText", "difference", "(II)I"⟩, prog_1_method_21_code, 3, (some .int), (11, 1, 21), (false, 2), (1384, 120, 1382, 1383))]
def z_ms3 : List zM := [
  (⟨"JobText", "numbers", "()I"⟩, prog_1_method_22_code, 1, (some .int), (11, 1, 21), (false, 0), (1388, 120, 1386, 1387)),
  (⟨"JobText", "numbered", "(II)I"⟩, prog_1_method_23_code, 3, (some .int), (11, 3, 69), (false, 2), (1392, 120, 1390, 1391)),
  (⟨"JobTextModel", "in", "(III)Z"⟩, prog_14_method_2_code, 3, (some .boolean), (12, 1, 21), (true, 3), (1652, 137, 1651, 0)),
  (⟨"JobTextModel", "type", "(JI)I"⟩, prog_14_method_3_code, 6, (some .int), (12, 2, 43), (false, 2), (1649, 137, 1647, 1648)),
  (⟨"JobTextModel", "cut", "(I)I"⟩, prog_14_method_4_code, 2, (some .int), (12, 2, 43), (false, 1), (1657, 137, 1655, 1656)),
  (⟨"JobTextModel", "file", "(I)I"⟩, prog_14_method_5_code, 3, (some .int), (12, 2, 43), (false, 1), (1661, 137, 1659, 1660)),
  (⟨"JobTextModel", "byteOf", "(II)I"⟩, prog_14_method_6_code, 3, (some .int), (12, 2, 43), (false, 2), (1665, 137, 1663, 1664)),
  (⟨"JobTextModel", "empty", "()V"⟩, prog_14_method_21_code, 1, none, (12, 1, 21), (false, 0), (1677, 137, 1676, 56)),
  (⟨"JobTextModel", "byteAt", "(I)I"⟩, prog_14_method_12_code, 2, (some .int), (12, 1, 21), (false, 1), (1693, 137, 1692, 60)),
  (⟨"JobTextModel", "keepComment", "(II)Z"⟩, prog_14_method_17_code, 7, (some .boolean), (12, 2, 42), (false, 2), (1697, 137, 1696, 61)),
  (⟨"JobTextModel", "wrong", "(III)Z"⟩, prog_14_method_11_code, 4, (some .boolean), (12, 1, 21), (false, 3), (1701, 137, 1700, 62)),
  (⟨"JobTextModel", "pass", "()Z"⟩, prog_14_method_16_code, 4, (some .boolean), (12, 3, 68), (false, 0), (1689, 137, 1688, 59)),
  (⟨"JobTextModel", "isLetter", "(I)Z"⟩, prog_14_method_7_code, 1, (some .boolean), (12, 2, 43), (true, 1), (1704, 137, 1703, 0)),
  (⟨"JobTextModel", "isDigit", "(I)Z"⟩, prog_14_method_8_code, 1, (some .boolean), (12, 2, 43), (true, 1), (1707, 137, 1706, 0)),
  (⟨"JobTextModel", "word", "(IIIIII)J"⟩, prog_14_method_14_code, 8, (some .long), (12, 1, 21), (true, 6), (1717, 137, 1716, 0)),
  (⟨"JobTextModel", "keyName", "(I)J"⟩, prog_14_method_15_code, 1, (some .long), (12, 2, 48), (true, 1), (1714, 137, 1713, 0)),
  (⟨"JobTextModel", "keyOf", "(J)I"⟩, prog_14_method_13_code, 3, (some .int), (12, 3, 68), (true, 1), (1711, 137, 1710, 0)),
  (⟨"JobTextModel", "look", "()Z"⟩, prog_14_method_18_code, 7, (some .boolean), (12, 4, 91), (false, 0), (1685, 137, 1684, 58)),
  (⟨"JobTextModel", "want", "(I)Z"⟩, prog_14_method_19_code, 2, (some .boolean), (12, 5, 117), (false, 1), (1681, 137, 1680, 57)),
  (⟨"JobTextModel", "bounded", "(II)Z"⟩, prog_14_method_20_code, 3, (some .boolean), (12, 2, 44), (false, 2), (1725, 137, 1724, 64)),
  (⟨"JobTextModel", "readUse", "()Z"⟩, prog_14_method_24_code, 5, (some .boolean), (12, 6, 138), (false, 0), (1721, 137, 1720, 63)),
  (⟨"JobTextModel", "begin", "(II)V"⟩, prog_14_method_22_code, 3, none, (12, 1, 21), (false, 2), (1733, 137, 1732, 66)),
  (⟨"JobTextModel", "readSet", "()Z"⟩, prog_14_method_25_code, 2, (some .boolean), (12, 6, 138), (false, 0), (1729, 137, 1728, 65)),
  (⟨"JobTextModel", "readLoop", "()Z"⟩, prog_14_method_26_code, 3, (some .boolean), (12, 6, 138), (false, 0), (1737, 137, 1736, 67)),
  (⟨"JobTextModel", "operatorOf", "(IJ)I"⟩, prog_14_method_23_code, 5, (some .int), (12, 1, 21), (false, 2), (1750, 137, 1749, 70)),
  (⟨"JobTextModel", "readName", "()Z"⟩, prog_14_method_27_code, 2, (some .boolean), (12, 6, 138), (false, 0), (1746, 137, 1745, 69)),
  (⟨"JobTextModel", "mayHave", "(I)I"⟩, prog_14_method_31_code, 2, (some .int), (12, 1, 21), (true, 1), (1757, 137, 1756, 0)),
  (⟨"JobTextModel", "readInputSide", "(I)Z"⟩, prog_14_method_29_code, 3, (some .boolean), (12, 6, 138), (false, 1), (1767, 137, 1766, 72)),
  (⟨"JobTextModel", "readInput", "(I)Z"⟩, prog_14_method_28_code, 3, (some .boolean), (12, 6, 138), (false, 1), (1771, 137, 1770, 73)),
  (⟨"JobTextModel", "readSide", "(I)Z"⟩, prog_14_method_30_code, 3, (some .boolean), (12, 6, 138), (false, 1), (1775, 137, 1774, 74)),
  (⟨"JobTextModel", "readNumber", "(II)Z"⟩, prog_14_method_32_code, 3, (some .boolean), (12, 6, 138), (false, 2), (1783, 137, 1782, 76)),
  (⟨"JobTextModel", "readProperty", "(II)Z"⟩, prog_14_method_33_code, 4, (some .boolean), (12, 7, 160), (false, 2), (1779, 137, 1778, 75)),
  (⟨"JobTextModel", "readRest", "(IZ)Z"⟩, prog_14_method_34_code, 9, (some .boolean), (12, 8, 183), (false, 2), (1754, 137, 1753, 71)),
  (⟨"JobTextModel", "readSource", "()Z"⟩, prog_14_method_35_code, 2, (some .boolean), (12, 9, 211), (false, 0), (1742, 137, 1741, 68)),
  (⟨"JobTextModel", "readOperator", "()Z"⟩, prog_14_method_36_code, 2, (some .boolean), (12, 9, 211), (false, 0), (1788, 137, 1787, 77)),
  (⟨"JobTextModel", "readText", "(I)Z"⟩, prog_14_method_37_code, 3, (some .boolean), (12, 10, 232), (false, 1), (1673, 137, 1672, 55)),
  (⟨"JobTextModel", "sideOf", "(IJ)I"⟩, prog_14_method_38_code, 5, (some .int), (12, 1, 21), (false, 2), (1805, 137, 1804, 81)),
  (⟨"JobTextModel", "judgeInput", "(I)Z"⟩, prog_14_method_39_code, 3, (some .boolean), (12, 2, 45), (false, 1), (1801, 137, 1800, 80)),
  (⟨"JobTextModel", "judgeOperators", "()Z"⟩, prog_14_method_40_code, 4, (some .boolean), (12, 3, 67), (false, 0), (1797, 137, 1796, 79)),
  (⟨"JobTextModel", "judgeLoops", "()Z"⟩, prog_14_method_41_code, 4, (some .boolean), (12, 2, 45), (false, 0), (1809, 137, 1808, 82)),
  (⟨"JobTextModel", "findComes", "()V"⟩, prog_14_method_42_code, 5, none, (12, 1, 21), (false, 0), (1817, 137, 1816, 84)),
  (⟨"JobTextModel", "judgeRings", "()Z"⟩, prog_14_method_43_code, 3, (some .boolean), (12, 2, 45), (false, 0), (1813, 137, 1812, 83)),
  (⟨"JobTextModel", "isReady", "(I)Z"⟩, prog_14_method_45_code, 4, (some .boolean), (12, 1, 21), (false, 1), (1825, 137, 1824, 86)),
  (⟨"JobTextModel", "layOut", "()V"⟩, prog_14_method_44_code, 7, none, (12, 2, 44), (false, 0), (1821, 137, 1820, 85)),
  (⟨"JobTextModel", "keyedAt", "(II)J"⟩, prog_14_method_46_code, 3, (some .long), (12, 1, 21), (false, 2), (1833, 137, 1832, 88)),
  (⟨"JobTextModel", "findKey", "(I)V"⟩, prog_14_method_47_code, 6, none, (12, 2, 43), (false, 1), (1837, 137, 1836, 89)),
  (⟨"JobTextModel", "judgeKeys", "()Z"⟩, prog_14_method_48_code, 5, (some .boolean), (12, 3, 68), (false, 0), (1829, 137, 1828, 87)),
  (⟨"JobTextModel", "big", "()V"⟩, prog_14_method_50_code, 1, none, (12, 1, 21), (false, 0), (1849, 137, 1848, 92)),
  (⟨"JobTextModel", "fraction", "(JJ)V"⟩, prog_14_method_49_code, 11, none, (12, 2, 41), (false, 2), (1854, 137, 1853, 93)),
  (⟨"JobTextModel", "comesTo", "(I)V"⟩, prog_14_method_52_code, 14, none, (12, 3, 71), (false, 1), (1845, 137, 1844, 91))]
def z_ms4 : List zM := [
  (⟨"JobTextModel", "findFlow", "(I)V"⟩, prog_14_method_51_code, 10, none, (12, 4, 104), (false, 1), (1841, 137, 1840, 90)),
  (⟨"JobTextModel", "parOf", "(I)I"⟩, prog_14_method_53_code, 2, (some .int), (12, 1, 21), (false, 1), (1867, 137, 1866, 96)),
  (⟨"JobTextModel", "readersOf", "(IIZ)I"⟩, prog_14_method_54_code, 7, (some .int), (12, 1, 21), (false, 3), (1871, 137, 1870, 97)),
  (⟨"JobTextModel", "findFused", "(I)V"⟩, prog_14_method_55_code, 5, none, (12, 2, 47), (false, 1), (1863, 137, 1862, 95)),
  (⟨"JobTextModel", "channelsOf", "(II)I"⟩, prog_14_method_56_code, 5, (some .int), (12, 2, 42), (false, 2), (1875, 137, 1874, 98)),
  (⟨"JobTextModel", "findChains", "()V"⟩, prog_14_method_57_code, 5, none, (12, 3, 71), (false, 0), (1859, 137, 1858, 94)),
  (⟨"JobTextModel", "judge", "()Z"⟩, prog_14_method_58_code, 2, (some .boolean), (12, 5, 133), (false, 0), (1793, 137, 1792, 78)),
  (⟨"JobTextModel", "numberOf", "(J)I"⟩, prog_14_method_59_code, 4, (some .int), (12, 1, 21), (false, 1), (1879, 137, 1878, 99)),
  (⟨"JobTextModel", "keepInputs", "(II)V"⟩, prog_14_method_60_code, 4, none, (12, 1, 21), (false, 2), (1891, 137, 1890, 102)),
  (⟨"JobTextModel", "keepOperator", "(II)V"⟩, prog_14_method_61_code, 3, none, (12, 2, 44), (false, 2), (1887, 137, 1886, 101)),
  (⟨"JobTextModel", "keep", "(I)V"⟩, prog_14_method_62_code, 3, none, (12, 3, 66), (false, 1), (1883, 137, 1882, 100)),
  (⟨"JobTextModel", "read", "(II)I"⟩, prog_14_method_63_code, 5, (some .int), (12, 11, 254), (false, 2), (1669, 137, 1667, 1668)),
  (⟨"JobTextModel", "against", "(IZ)I"⟩, prog_14_method_64_code, 3, (some .int), (12, 2, 43), (false, 2), (1899, 137, 1898, 103)),
  (⟨"JobTextModel", "drop", "(I)I"⟩, prog_14_method_67_code, 3, (some .int), (12, 3, 65), (false, 1), (1895, 137, 1893, 1894)),
  (⟨"JobTextModel", "fault", "(I)I"⟩, prog_14_method_68_code, 2, (some .int), (12, 1, 21), (false, 1), (1903, 137, 1901, 1902)),
  (⟨"JobTextModel", "count", "(II)I"⟩, prog_14_method_69_code, 6, (some .int), (12, 3, 65), (false, 2), (1907, 137, 1905, 1906)),
  (⟨"JobTextModel", "countOf", "([II)I"⟩, prog_14_method_66_code, 3, (some .int), (12, 2, 43), (false, 2), (1915, 137, 1914, 104)),
  (⟨"JobTextModel", "againstOne", "(IZII)I"⟩, prog_14_method_65_code, 6, (some .int), (12, 3, 65), (false, 4), (1919, 137, 1918, 105)),
  (⟨"JobTextModel", "operator", "(III)I"⟩, prog_14_method_70_code, 6, (some .int), (12, 4, 90), (false, 3), (1911, 137, 1909, 1910)),
  (⟨"JobTextModel", "lengthOf", "(J)I"⟩, prog_14_method_9_code, 5, (some .int), (12, 1, 21), (true, 1), (1929, 137, 1928, 0)),
  (⟨"JobTextModel", "letterAt", "(JI)I"⟩, prog_14_method_10_code, 7, (some .int), (12, 2, 45), (true, 2), (1926, 137, 1925, 0)),
  (⟨"JobTextModel", "letter", "(IIII)I"⟩, prog_14_method_71_code, 9, (some .int), (12, 4, 90), (false, 4), (1923, 137, 1921, 1922)),
  (⟨"JobTextModel", "input", "(IIII)I"⟩, prog_14_method_72_code, 7, (some .int), (12, 4, 90), (false, 4), (1933, 137, 1931, 1932)),
  (⟨"JobTextModel", "flow", "(III)I"⟩, prog_14_method_73_code, 6, (some .int), (12, 4, 90), (false, 3), (1937, 137, 1935, 1936)),
  (⟨"JobTextModel", "set", "(III)I"⟩, prog_14_method_74_code, 6, (some .int), (12, 4, 90), (false, 3), (1941, 137, 1939, 1940)),
  (⟨"JobTextModel", "setLetter", "(IIZI)I"⟩, prog_14_method_75_code, 6, (some .int), (12, 4, 90), (false, 4), (1945, 137, 1943, 1944)),
  (⟨"JobTextModel", "loop", "(III)I"⟩, prog_14_method_76_code, 5, (some .int), (12, 4, 90), (false, 3), (1949, 137, 1947, 1948)),
  (⟨"JobTextModel", "put", "(I)V"⟩, prog_14_method_77_code, 2, none, (12, 1, 21), (false, 1), (1961, 137, 1960, 107)),
  (⟨"JobTextModel", "putComments", "(II)V"⟩, prog_14_method_85_code, 5, none, (12, 2, 42), (false, 2), (1957, 137, 1956, 106)),
  (⟨"JobTextModel", "putName", "(J)V"⟩, prog_14_method_78_code, 5, none, (12, 3, 71), (false, 1), (1977, 137, 1976, 111)),
  (⟨"JobTextModel", "putKey", "(I)V"⟩, prog_14_method_80_code, 2, none, (12, 4, 95), (false, 1), (1973, 137, 1972, 110)),
  (⟨"JobTextModel", "putNumber", "(I)V"⟩, prog_14_method_79_code, 4, none, (12, 2, 42), (false, 1), (1989, 137, 1988, 114)),
  (⟨"JobTextModel", "putNumberProperty", "(II)V"⟩, prog_14_method_81_code, 3, none, (12, 5, 116), (false, 2), (1985, 137, 1984, 113)),
  (⟨"JobTextModel", "putProperties", "(I)V"⟩, prog_14_method_83_code, 3, none, (12, 6, 138), (false, 1), (1981, 137, 1980, 112)),
  (⟨"JobTextModel", "putOperator", "(I)V"⟩, prog_14_method_82_code, 3, none, (12, 7, 160), (false, 1), (1969, 137, 1968, 109)),
  (⟨"JobTextModel", "putStatement", "(II)V"⟩, prog_14_method_84_code, 5, none, (12, 8, 182), (false, 2), (1965, 137, 1964, 108)),
  (⟨"JobTextModel", "print", "(I)I"⟩, prog_14_method_86_code, 4, (some .int), (12, 9, 206), (false, 1), (1953, 137, 1951, 1952)),
  (⟨"JobTextModel", "out", "(I)I"⟩, prog_14_method_87_code, 2, (some .int), (12, 2, 43), (false, 1), (1993, 137, 1991, 1992)),
  (⟨"JobTextModel", "take", "()I"⟩, prog_14_method_88_code, 2, (some .int), (12, 1, 21), (false, 0), (1997, 137, 1995, 1996)),
  (⟨"JobTextModel", "haveLikeInputs", "(II)Z"⟩, prog_14_method_90_code, 5, (some .boolean), (12, 1, 21), (false, 2), (2009, 137, 2008, 116)),
  (⟨"JobTextModel", "haveLikeSides", "(II)Z"⟩, prog_14_method_91_code, 5, (some .boolean), (12, 1, 21), (false, 2), (2013, 137, 2012, 117)),
  (⟨"JobTextModel", "bitsOf", "(II)I"⟩, prog_14_method_92_code, 4, (some .int), (12, 2, 45), (false, 2), (2005, 137, 2004, 115)),
  (⟨"JobTextModel", "note", "(III)V"⟩, prog_14_method_89_code, 4, none, (12, 1, 21), (false, 3), (2017, 137, 2016, 118)),
  (⟨"JobTextModel", "differ", "()I"⟩, prog_14_method_93_code, 4, (some .int), (12, 3, 68), (false, 0), (2001, 137, 1999, 2000)),
  (⟨"JobTextModel", "difference", "(II)I"⟩, prog_14_method_94_code, 3, (some .int), (12, 2, 43), (false, 2), (2021, 137, 2019, 2020)),
  (⟨"JobTextModel", "numbers", "()I"⟩, prog_14_method_95_code, 1, (some .int), (12, 1, 21), (false, 0), (2025, 137, 2023, 2024)),
  (⟨"JobTextModel", "numbered", "(II)I"⟩, prog_14_method_96_code, 3, (some .int), (12, 3, 71), (false, 2), (2029, 137, 2027, 2028))]
def z_ms : List zM := z_ms0 ++ z_ms1 ++ z_ms2 ++ z_ms3 ++ z_ms4
def z_m (y : Nat) : zM := z_ms.getD y (⟨"", "", ""⟩, ⟨#[]⟩, 0, none, (0, 0, 0), (false, 0), (0, 0, 0, 0))
def z_fls : List (List (Nat × Nat × Nat)) := [[(15, 10242, 157), (21, 10248, 158)], [(18, 11264, 174), (9, 11272, 179), (15, 11280, 181), (21, 11288, 183)], [(7, 12289, 392), (13, 12297, 394), (16, 12309, 396)], [(7, 13313, 216), (13, 13329, 221)], [(100, 10248, 160), (70, 17409, 248), (87, 16472, 422), (78, 16480, 423), (81, 16488, 425), (84, 16496, 427), (11, 14346, 462), (54, 14352, 467), (20, 14362, 472), (58, 14368, 475), (25, 14378, 478), (61, 14384, 483), (30, 14394, 488), (37, 14402, 489), (64, 14408, 490), (41, 14418, 492), (44, 14426, 493), (67, 14432, 494), (50, 14442, 496)], [(25, 11264, 175), (99, 13313, 218), (112, 13320, 220), (115, 13329, 223), (124, 13336, 225), (109, 13344, 227), (121, 13352, 231), (127, 17416, 251), (77, 17474, 271), (72, 17480, 275), (89, 17512, 288), (155, 17520, 290), (92, 17528, 292), (130, 18433, 336), (138, 18441, 340), (144, 18456, 345), (145, 18464, 348), (148, 18472, 351), (135, 18480, 353), (141, 18488, 357), (156, 16386, 407), (30, 14346, 463), (19, 14352, 468), (41, 14378, 479), (38, 14384, 484), (60, 14442, 497), (9, 15362, 691), (15, 15370, 692)], [(96, 13344, 228), (160, 13352, 232), (105, 17416, 252), (143, 17432, 257), (136, 17440, 260), (133, 17448, 263), (101, 17457, 266), (92, 17474, 272), (87, 17480, 276), (170, 18480, 354), (196, 18488, 359), (9, 16386, 406), (15, 16394, 408), (18, 16402, 409), (21, 16410, 410), (27, 16418, 412), (31, 16426, 414), (35, 16434, 416), (39, 16442, 417), (42, 16450, 418), (45, 16458, 419), (49, 16466, 420), (52, 16472, 421), (175, 16480, 424), (178, 16488, 426), (189, 16496, 428), (65, 14346, 464), (56, 14352, 469), (166, 14378, 481), (163, 14384, 486)], [(71, 13313, 217), (72, 13320, 219), (73, 13329, 222), (76, 13336, 224), (79, 13344, 226), (82, 13352, 230), (28, 17409, 247), (41, 17416, 250), (44, 17424, 254), (47, 17432, 256), (50, 17440, 259), (53, 17448, 262), (56, 17457, 265), (59, 17464, 268), (11, 17474, 270), (62, 17480, 274), (18, 17490, 279), (65, 17496, 282), (68, 17504, 285), (33, 17512, 287), (37, 17520, 289), (38, 17528, 291), (29, 20552, 609), (34, 20560, 613), (22, 20577, 620)], [(15, 18433, 335), (31, 18441, 339), (34, 18448, 342), (24, 18456, 344), (28, 18464, 347), (37, 18472, 350), (40, 18480, 352), (43, 18488, 356), (46, 20544, 605), (20, 20552, 608), (25, 20560, 612), (49, 20568, 616), (9, 20577, 619)], [(62, 11264, 176), (90, 11288, 184), (213, 17416, 253), (231, 17424, 255), (235, 17432, 258), (238, 17440, 261), (241, 17448, 264), (244, 17457, 267), (247, 17464, 269), (219, 17480, 278), (259, 17490, 281), (253, 17496, 284), (192, 17528, 293), (163, 18433, 337), (208, 14346, 466), (201, 14352, 471), (159, 14362, 473), (156, 14368, 476), (179, 14378, 480), (176, 14384, 485), (124, 14432, 495), (59, 20528, 603), (83, 20544, 606), (111, 20552, 611), (114, 20560, 614), (127, 20568, 617), (167, 20577, 621), (14, 19458, 654), (20, 19466, 655), (38, 19475, 656), (51, 19480, 657), (47, 19488, 658), (133, 19496, 659), (130, 19504, 660), (27, 19515, 661), (34, 19523, 662), (80, 19528, 663)], [(108, 10248, 161), (100, 11264, 178), (111, 14408, 491), (26, 20482, 596), (9, 20490, 597), (15, 20498, 598), (46, 20507, 599), (19, 20514, 600), (23, 20522, 601), (50, 20528, 602), (62, 20536, 604), (74, 20544, 607), (65, 20552, 610), (68, 20560, 615), (131, 20568, 618), (124, 20577, 622)], [(77, 10248, 159), (106, 11264, 177), (142, 11272, 180), (145, 11280, 182), (148, 11288, 185), (198, 13344, 229), (203, 13352, 233), (175, 17409, 249), (194, 17474, 273), (191, 17480, 277), (188, 17490, 280), (185, 17496, 283), (280, 17504, 286), (243, 18433, 338), (231, 18441, 341), (236, 18448, 343), (239, 18456, 346), (240, 18464, 349), (252, 18480, 355), (255, 18488, 358), (218, 12289, 393), (221, 12297, 395), (213, 12309, 397), (182, 16410, 411), (206, 16418, 413), (210, 16426, 415), (138, 14341, 461), (166, 14346, 465), (135, 14352, 470), (227, 14362, 474), (224, 14368, 477), (249, 14378, 482), (246, 14384, 487), (123, 14442, 498), (17, 21506, 698), (21, 21514, 699), (25, 21522, 700), (30, 21530, 701), (35, 21539, 702), (39, 21546, 703), (48, 21554, 704), (57, 21562, 705), (61, 21570, 706), (113, 21576, 707), (65, 21586, 708), (267, 21592, 709)], [(7, 22530, 1399), (220, 22536, 1400), (13, 22546, 1401), (16, 22554, 1402), (264, 22560, 1403), (274, 22569, 1404), (281, 22576, 1405), (258, 22584, 1406), (261, 22592, 1407), (232, 22600, 1408), (19, 22610, 1409), (22, 22618, 1410), (229, 22624, 1411), (25, 22632, 1412), (29, 22640, 1413), (287, 22648, 1414), (32, 22658, 1415), (36, 22666, 1416), (39, 22674, 1417), (42, 22682, 1418), (45, 22690, 1419), (48, 22698, 1420), (290, 22704, 1421), (51, 22714, 1422), (55, 22722, 1423), (58, 22730, 1424), (61, 22738, 1425), (64, 22746, 1426), (67, 22754, 1427), (70, 22762, 1428), (73, 22770, 1429), (76, 22778, 1430), (79, 22786, 1431), (82, 22794, 1432), (85, 22802, 1433), (88, 22810, 1434), (91, 22818, 1435), (94, 22826, 1436), (97, 22834, 1437), (100, 22842, 1438), (103, 22850, 1439), (106, 22858, 1440), (109, 22866, 1441), (112, 22874, 1442), (115, 22882, 1443), (118, 22890, 1444), (121, 22898, 1445), (124, 22906, 1446), (127, 22914, 1447), (130, 22922, 1448), (133, 22930, 1449), (136, 22938, 1450), (139, 22946, 1451), (142, 22954, 1452), (145, 22962, 1453), (148, 22970, 1454), (151, 22978, 1455), (154, 22986, 1456), (157, 22994, 1457), (160, 23002, 1458), (163, 23010, 1459), (166, 23018, 1460), (169, 23026, 1461), (172, 23034, 1462), (175, 23042, 1463), (178, 23050, 1464), (181, 23058, 1465), (184, 23066, 1466), (187, 23074, 1467), (190, 23082, 1468), (193, 23090, 1469), (196, 23098, 1470), (199, 23106, 1471), (202, 23114, 1472), (379, 23121, 1473), (382, 23129, 1474), (434, 23136, 1475), (205, 23146, 1476), (208, 23154, 1477), (471, 23160, 1478), (502, 23168, 1479), (211, 23178, 1480)], [(9, 4, 2031), (15, 14, 2032)], [], [], []]
def z_mls : List (List (Nat × Nat × Nat × Nat)) := [[(9, 0, 3, 154), (25, 15, 0, 764), (28, 16, 0, 768), (32, 11, 0, 772), (36, 1, 0, 1277), (42, 6, 0, 1278), (46, 115, 2, 1283), (50, 116, 2, 1284)], [], [(20, 88, 1, 1123), (30, 91, 0, 1139), (26, 89, 0, 1144)], [], [(74, 17, 0, 829), (90, 125, 0, 1254), (97, 11, 0, 1258), (103, 124, 0, 1259), (94, 136, 0, 1263), (107, 133, 0, 1267), (110, 134, 0, 1323), (113, 135, 0, 1333)], [(34, 70, 0, 1026), (81, 68, 0, 1030), (105, 51, 0, 1034), (95, 26, 0, 1035), (118, 61, 0, 1036), (85, 69, 0, 1037), (45, 71, 0, 1041), (49, 73, 0, 1045), (151, 72, 0, 1049), (53, 74, 0, 1053), (56, 75, 0, 1057), (64, 81, 0, 1061), (69, 83, 0, 1086), (160, 82, 0, 1090), (163, 79, 0, 1094)], [(61, 77, 0, 1065), (83, 76, 0, 1069), (69, 78, 0, 1073), (73, 0, 3, 1077), (79, 80, 0, 1078), (108, 79, 0, 1082), (111, 96, 0, 1111), (125, 94, 0, 1115), (146, 89, 0, 1119), (150, 90, 0, 1127), (129, 91, 0, 1131), (154, 92, 0, 1135), (157, 93, 0, 1140), (139, 95, 0, 1145), (115, 97, 0, 1149), (119, 100, 0, 1153), (181, 99, 0, 1157), (185, 98, 0, 1161), (122, 102, 0, 1165), (192, 101, 0, 1169)], [(100, 126, 0, 1273), (106, 127, 0, 1279), (112, 128, 0, 1286), (118, 129, 0, 1299), (136, 11, 0, 1304), (124, 131, 1, 1306), (132, 130, 0, 1309), (143, 132, 0, 1317), (85, 143, 0, 1365), (92, 142, 0, 1369), (89, 144, 0, 1373)], [(54, 126, 0, 1328), (60, 127, 0, 1329), (66, 130, 0, 1331)], [(42, 22, 0, 794), (54, 24, 0, 798), (67, 29, 0, 808), (70, 39, 0, 830), (73, 66, 0, 908), (86, 40, 0, 914), (117, 26, 0, 918), (93, 42, 0, 919), (121, 41, 0, 923), (96, 44, 0, 927), (136, 14, 2, 931), (140, 43, 0, 932), (143, 23, 0, 936), (99, 50, 0, 937), (146, 47, 0, 941), (170, 45, 0, 945), (172, 46, 0, 949), (149, 48, 0, 953), (153, 49, 0, 957), (102, 59, 0, 961), (182, 53, 0, 965), (204, 51, 0, 969), (212, 52, 0, 973), (185, 54, 0, 977), (188, 55, 1, 983), (195, 57, 0, 986), (222, 56, 0, 990), (198, 58, 0, 994), (105, 63, 0, 998), (227, 60, 0, 1002), (250, 62, 0, 1007), (256, 61, 0, 1011), (108, 65, 0, 1015), (224, 64, 1, 1019)], [(32, 1, 0, 541), (38, 6, 0, 551), (42, 8, 2, 589), (54, 23, 0, 802), (58, 14, 2, 806), (71, 25, 0, 812), (95, 16, 0, 816), (105, 28, 0, 817), (116, 26, 0, 821), (120, 27, 0, 825), (77, 30, 2, 834), (80, 32, 0, 837), (128, 31, 2, 841), (83, 7, 2, 845), (86, 33, 0, 846), (91, 38, 0, 851)], [(295, 7, 1, 593), (69, 9, 1, 739), (73, 10, 1, 742), (81, 11, 0, 745), (84, 14, 1, 757), (87, 17, 0, 760), (91, 15, 0, 773), (94, 16, 0, 778), (98, 20, 1, 783), (101, 21, 0, 786), (102, 67, 0, 790), (292, 30, 1, 844), (109, 84, 0, 1022), (116, 86, 0, 1095), (276, 85, 0, 1099), (120, 87, 0, 1103), (127, 103, 0, 1107), (132, 104, 0, 1173), (151, 108, 0, 1189), (155, 109, 0, 1193), (158, 111, 0, 1201), (162, 112, 0, 1205), (170, 113, 0, 1209), (179, 117, 1, 1217), (300, 115, 1, 1220), (303, 116, 1, 1223), (258, 137, 0, 1250), (262, 0, 4, 1347), (270, 146, 0, 1352), (281, 51, 0, 1356), (284, 141, 0, 1357), (288, 145, 0, 1361), (273, 147, 0, 1377)], [(214, 152, 1, 1650), (443, 185, 0, 1670), (341, 157, 0, 1674), (293, 168, 0, 1678), (284, 167, 0, 1682), (254, 161, 0, 1686), (243, 158, 0, 1690), (247, 159, 0, 1694), (251, 160, 0, 1698), (267, 162, 1, 1702), (271, 163, 1, 1705), (278, 166, 1, 1709), (235, 165, 1, 1712), (239, 164, 1, 1715), (344, 170, 0, 1718), (296, 169, 0, 1722), (347, 172, 0, 1726), (299, 171, 0, 1730), (350, 173, 0, 1734), (353, 183, 0, 1739), (333, 175, 0, 1743), (304, 174, 0, 1747), (336, 182, 0, 1751), (321, 176, 1, 1755), (324, 177, 0, 1764), (327, 178, 0, 1768), (318, 179, 0, 1772), (330, 181, 0, 1776), (314, 180, 0, 1780), (356, 184, 0, 1785), (446, 206, 0, 1790), (413, 188, 0, 1794), (362, 187, 0, 1798), (359, 186, 0, 1802), (416, 189, 0, 1806), (419, 191, 0, 1810), (365, 190, 0, 1814), (422, 193, 0, 1818), (368, 192, 0, 1822), (425, 196, 0, 1826), (371, 194, 0, 1830), (375, 195, 0, 1834), (428, 200, 0, 1838), (392, 199, 0, 1842), (387, 197, 0, 1846), (395, 198, 0, 1851), (431, 205, 0, 1856), (406, 203, 0, 1860), (399, 201, 0, 1864), (402, 202, 0, 1868), (409, 204, 0, 1872), (449, 207, 0, 1876), (452, 210, 0, 1880), (440, 209, 0, 1884), (437, 208, 0, 1888), (455, 212, 0, 1896), (459, 216, 0, 1912), (463, 217, 0, 1916), (467, 220, 1, 1924), (225, 219, 1, 1927), (496, 228, 0, 1954), (474, 227, 0, 1958), (499, 235, 0, 1962), (493, 234, 0, 1966), (481, 230, 0, 1970), (477, 229, 0, 1974), (487, 233, 0, 1978), (490, 232, 0, 1982), (484, 231, 0, 1986), (511, 241, 0, 2002), (505, 239, 0, 2006), (508, 240, 0, 2010), (514, 242, 0, 2014)], [(335, 0, 0, 545), (492, 2, 0, 555), (495, 5, 1, 559), (1059, 3, 1, 567), (633, 37, 0, 855), (505, 1, 0, 859), (637, 36, 1, 860)], [(9, 4, 1, 562), (88, 34, 1, 863), (92, 0, 3, 866), (38, 0, 4, 867), (95, 35, 1, 870)], [], []]
def z_kls : List (List (Nat × Int × Nat)) := [[], [], [], [], [], [], [], [], [], [(58, 37231, 807), (234, 99999, 1006)], [], [], [(303, 32768, 1738), (308, 65536, 1758), (309, 131072, 1759), (310, 524288, 1760), (311, 262144, 1761), (312, 1048576, 1762), (313, 2097152, 1763), (317, 99999, 1784), (340, 1069547520, 1789)], [], [], [], []]
def z_lls : List (List (Nat × Int × Nat)) := [[], [], [(24, 1000000000, 1126)], [], [], [], [], [], [], [], [], [(298, 37, 592)], [(218, 255, 1653), (223, 37, 1708), (390, -5, 1850), (385, 1000000000, 1855)], [], [], [], []]
def z_sls : List (List (Nat × Nat × String)) := [[], [], [], [], [], [], [], [(96, 2, "source "), (98, 3, "op "), (110, 4, ": "), (148, 5, "map"), (150, 6, "filter"), (152, 7, "flat"), (154, 8, "span"), (156, 9, "join"), (158, 10, "union"), (160, 11, "fold"), (162, 12, "sink"), (116, 13, " from "), (164, 14, ", "), (122, 15, " par "), (128, 16, " rate "), (130, 17, " pass "), (139, 18, " key "), (141, 19, " keep "), (166, 20, " side "), (146, 21, ";\n")], [(52, 22, "set "), (64, 23, " = "), (70, 21, ";\n"), (72, 24, "loop "), (74, 25, " to ")], [], [(30, 0, "use set source op loop from to par rate pass key keep side map filter flat span join union fold sink"), (89, 1, ";,:.=/")], [], [], [], [], [], []]
def z_gls : List (List (Nat × Nat × Nat)) := [[], [], [], [], [], [], [], [], [], [(76, 2, 912), (216, 3, 981)], [], [], [], [(38, 0, 549), (1053, 1, 565)], [], [], []]
end
section
/-! ===== what the abstract values and cells are in the machine ===== -/
/-- fields' names, addresses of the cells, classes of arrays, the formatter, the first address of the world -/
abbrev zX : Type := va_G × (zR → Nat) × (Nat → ClassId) × Option Nat × Nat
abbrev z_ad (cx : zX) : zR → Nat := cx.2.1
abbrev z_A (cx : zX) : Nat → Prop := fun q => cx.2.2.2.2 ≤ q
def z_cv (cx : zX) (v : zV) : Value := match v with
  | .inl x => .int x
  | .inr (.inl x) => .long x
  | .inr (.inr q) => if q.1 = 3 then va_rf cx.2.2.2.1 else .ref (cx.2.1 q)
def z_vv (v : zV) : Prop := match v with
  | .inr (.inr q) => z_vl q
  | _ => True
def z_fv (cx : zX) (h : zH) (q : zR) (k : Nat) : Value := match z_tc q.1 k with
  | 0 => .int (h.1 q k)
  | 5 => .int (h.1 q k)
  | 1 => .long (h.2.1 q k)
  | 2 => .ref (cx.2.1 (z_fr q k))
  | _ => va_rf ((h.2.2 q k).map cx.2.1)
def z_ac (cx : zX) (h : zH) (q : zR) : vp_A := (z_ln q, match z_at q.1 with
  | 1 => .inr (.inl (h.2.1 q))
  | 4 => .inr (.inr (.inr (.inr (fun j => some (cx.2.1 (z_el q j))))))
  | 5 => .inr (.inr (.inr (.inr (fun j => (h.2.2 q j).map cx.2.1))))
  | _ => .inl (h.1 q))
def z_cell (cx : zX) (h : zH) (q : zR) : va_E :=
  if q.1 < 23 then .inr (q.1 - 10, (List.range (z_nf (q.1 - 10))).map (z_fv cx h q)) else .inl (cx.2.2.1 (z_t0 q.1), z_ac cx h q)
def z_tys (cx : zX) : List (ClassId × FieldType) := [(cx.2.2.1 0, .int), (cx.2.2.1 1, .long), (cx.2.2.1 2, .byte), (cx.2.2.1 3, .boolean), (cx.2.2.1 4, .object RX0), (cx.2.2.1 5, .object RX4), (cx.2.2.1 6, .object RX7), (cx.2.2.1 7, .object RX3), (cx.2.2.1 8, .object RX8), (cx.2.2.1 9, .object RX2)]
/-- the cells -/
def z_P (cx : zX) (h : zH) (H : Heap) : Prop := (∀ q : zR, z_vl q → 10 ≤ q.1 → va_at cx.1 zcl (cx.2.1 q, z_cell cx h q) H) ∧ ∀ (q : zR) (k : Nat) (q' : zR), h.2.2 q k = some q' → z_vl q' ∧ q'.1 ≠ 3
/-- addresses of cells are apart and of the world -/
def z_D (cx : zX) : Prop := (∀ q q' : zR, z_vl q → 10 ≤ q.1 → z_vl q' → 10 ≤ q'.1 → cx.2.1 q = cx.2.1 q' → q = q') ∧ ∀ q : zR, z_vl q → 10 ≤ q.1 → cx.2.2.2.2 ≤ cx.2.1 q
/-- constants -/
def z_C (cx : zX) (U : State) : Prop :=
  vk_S 26 (z_sb.map List.length) z_sb (fun i => cx.2.1 (0, i, 0)) (fun i => cx.2.1 (1, i, 0)) (z_A cx) U U.heap ∧
  va_Z "java/lang/String" "COMPACT_STRINGS" "Z" (.int 1) (z_A cx) U U.heap ∧
  va_Z "jdk/internal/util/Preconditions" "SIOOBE_FORMATTER" "Ljava/util/function/BiFunction;" (va_rf cx.2.2.2.1) (z_A cx) U U.heap ∧
  va_Z RX9 "MAY_STAND" "[I" (.ref (cx.2.1 (2, 0, 0))) (z_A cx) U U.heap ∧
  va_Z RX11 "PROPERTIES" "[I" (.ref (cx.2.1 (2, 1, 0))) (z_A cx) U U.heap ∧
  (∀ i : Nat, i < 2 → va_T .int (cx.2.1 (2, i, 0)) (z_ln (2, i, 0)) (fun j => .int ((z_ci.getD i []).getD j 0)) (z_A cx) U U.heap) ∧
  (∀ (o : Nat) (r : Nat × Nat × Nat × Nat), r ∈ z_mls.getD o [] → r.2.2.1 = 2 → va_Nw (.methodLinkNest (z_cn o) r.1 (z_m r.2.1).1 RX11) U) ∧
  va_Nw (.fieldLinkNest RX9 216 RX11 "PROPERTIES" "[I" RX11) U ∧
  (∀ (o : Nat) (r : Nat × Nat × String), r ∈ z_sls.getD o [] → vk_R (z_cn o) r.1 r.2.2 (cx.2.1 (0, r.2.1, 0)) U)
def z_W (cx : zX) (h : zH) (U : State) : Prop := z_P cx h U.heap ∧ va_K cx.1 zcl (z_tys cx) U ∧ z_C cx U ∧ z_D cx
def z_Q (cx : zX) (Q : Option zV → zH → Prop) : Array Value → State → Outcome → State → Prop := fun _ st o t =>
  (∃ (r : Option zV) (hh : zH), o = .returned (r.map (z_cv cx)) ∧ z_W cx hh t ∧ (∀ v, r = some v → z_vv v) ∧ Q r hh) ∧ va_F (z_A cx) st t
def z_ws (y : Nat) : List Cond := Cond.code (z_m y).1 (z_m y).2.1 (z_m y).2.2.1 (z_m y).2.2.2.1 :: zTG
def z_rm (y : Nat) : Room := { frames := (z_m y).2.2.2.2.1.2.1, cells := 0, slots := 0, locals := (z_m y).2.2.2.2.1.2.2 }
/-- method y, from these arguments and this heap, returns, and Q holds -/
def zOk (y : Nat) (as : List zV) (h : zH) (Q : Option zV → zH → Prop) : Prop :=
  (∀ v ∈ as, z_vv v) → ∀ (cx : zX) (l : Launch), Met l (z_m y).1 (z_ws y) (z_rm y) (va_Pc (as.map (z_cv cx)) (z_W cx h)) (z_Q cx Q) 0 0 (z_A cx)
def zOkV (y : Nat) (as : List zV) (h : zH) (K : zH → Prop) : Prop := zOk y as h (fun r h1 => r = none ∧ K h1)
def zOkI (y : Nat) (as : List zV) (h : zH) (K : Int32 → zH → Prop) : Prop := zOk y as h (fun r h1 => ∃ x, r = some (.inl x) ∧ K x h1)
def zOkL (y : Nat) (as : List zV) (h : zH) (K : Int64 → zH → Prop) : Prop := zOk y as h (fun r h1 => ∃ x, r = some (.inr (.inl x)) ∧ K x h1)
def zOkR (y : Nat) (as : List zV) (h : zH) (K : zR → zH → Prop) : Prop := zOk y as h (fun r h1 => ∃ x, r = some (.inr (.inr x)) ∧ x.1 ≠ 3 ∧ K x h1)
/-- the locals that are known -/
def z_LR (cx : zX) (L : zL) (ls : Array Slot) : Prop := lv_has ls L.length ((List.range L.length).filterMap (fun i => (L[i]?.join).map (fun v => (i, z_cv cx v)))) ∧ ∀ (i : Nat) (v : zV), L[i]? = some (some v) → z_vv v
/-- what holds all through a method's body -/
def z_E (cx : zX) (y : Nat) (p : Program) (s : State) (m : MethodId) (args : Array Value) (meth : Method) (c : Code) (H : Heap) (locs : List Loc) : Prop :=
  p.tables.exec = Jvm.exec ∧ c.code = (z_m y).2.1 ∧ meth.sig.returnType = (z_m y).2.2.2.1 ∧ c.maxLocals = (z_m y).2.2.1 ∧ s.vm.findClass (z_m y).1.cls = some m.cls ∧ (∀ w ∈ zTG, w.before args s = true) ∧ meth.locks = false ∧ va_K cx.1 zcl (z_tys cx) s ∧ z_C cx s ∧ z_D cx ∧ va_S (z_A cx) s.heap H locs
/-- method y, within its body at pc with these locals, this operand stack and this heap, comes to its end with Q -/
def zAt (y pc : Nat) (L : zL) (st : List zV) (h : zH) (Q : Option zV → zH → Prop) : Prop :=
  L.length = (z_m y).2.2.1 → ∀ (cx : zX) (p : Program) (l : Launch) (e : Env) (s : State) (m : MethodId) (args : Array Value) (below : List Frame) (meth : Method) (c : Code) (H : Heap) (locs : List Loc) (ls : Array Slot),
    z_E cx y p s m args meth c H locs → z_P cx h H → z_LR cx L ls → (∀ v ∈ st, z_vv v) →
    W p l e (z_rm y) s m args below meth c H locs 0 0 (MQ below (z_Q cx Q) args s 0 0 (z_A cx)) (F0 m pc ls (st.map (z_cv cx)))
end
section
/-! ===== the meaning of code, segment by segment ===== -/
def z_lit (v : Int) : Int32 := match v with
  | .ofNat n => OfNat.ofNat n
  | .negSucc n => -(OfNat.ofNat (n + 1))
def z_litL (v : Int) : Int64 := match v with
  | .ofNat n => OfNat.ofNat n
  | .negSucc n => -(OfNat.ofNat (n + 1))
theorem z_lit_eq (v : Int) : z_lit v = Int32.ofInt v := by
  cases v with
  | ofNat n => exact (Int32.ofInt_eq_ofNat (n := n)).symm
  | negSucc n => rw [Int.negSucc_eq, Int32.ofInt_neg]; exact congrArg Neg.neg (Int32.ofInt_eq_ofNat (n := n + 1)).symm
theorem z_litL_eq (v : Int) : z_litL v = Int64.ofInt v := by
  cases v with
  | ofNat n => exact (Int64.ofInt_eq_ofNat (n := n)).symm
  | negSucc n => rw [Int.negSucc_eq, Int64.ofInt_neg]; exact congrArg Neg.neg (Int64.ofInt_eq_ofNat (n := n + 1)).symm
def z_clr (o : Option zV) : Option zV := match o with
  | some (.inr (.inl _)) => none
  | o => o
def z_s1 : zL → Nat → zV → zL
  | [], _, _ => []
  | _ :: t, 0, v => some v :: t
  | o :: t, 1, v => z_clr o :: z_s1 t 0 v
  | o :: t, n + 2, v => o :: z_s1 t (n + 1) v
def z_h2 : zL → zL
  | [] => []
  | _ :: t => none :: t
def z_s2 : zL → Nat → zV → zL
  | [], _, _ => []
  | _ :: t, 0, v => some v :: z_h2 t
  | o :: t, 1, v => z_clr o :: z_s2 t 0 v
  | o :: t, n + 2, v => o :: z_s2 t (n + 1) v
def z_mask : List Bool → zL → zL
  | [], _ => []
  | _ :: _, [] => []
  | true :: m, o :: t => o :: z_mask m t
  | false :: m, _ :: t => none :: z_mask m t
def z_pop : Nat → List zV → List zV → Option (List zV × List zV)
  | 0, acc, st => some (acc, st)
  | _ + 1, _, [] => none
  | n + 1, acc, v :: st => z_pop n (v :: acc) st
def z_cat : List zV → Nat
  | [] => 0
  | .inr (.inl _) :: t => 2 + z_cat t
  | _ :: t => 1 + z_cat t
def z_uI (h : zH) (q : zR) (k : Nat) (x : Int32) : zH := (fun q' k' => if q' = q ∧ k' = k then x else h.1 q' k', h.2.1, h.2.2)
def z_uL (h : zH) (q : zR) (k : Nat) (x : Int64) : zH := (h.1, fun q' k' => if q' = q ∧ k' = k then x else h.2.1 q' k', h.2.2)
def z_uR (h : zH) (q : zR) (k : Nat) (x : zR) : zH := (h.1, h.2.1, fun q' k' => if q' = q ∧ k' = k then some x else h.2.2 q' k')
/-- the kind of cell that a place which changes leads to -/
def z_mk (kd k : Nat) : Nat := match kd with
  | 19 => (match k with
    | 7 => 17
    | 8 => 18
    | _ => 14)
  | _ => 14
def z_get (h : zH) (q : zR) (k tc : Nat) (K : zV → Prop) : Prop := match tc with
  | 0 => K (.inl (h.1 q k))
  | 5 => K (.inl (h.1 q k))
  | 1 => K (.inr (.inl (h.2.1 q k)))
  | 2 => K (.inr (.inr (z_fr q k)))
  | 3 => ∃ i j : Nat, h.2.2 q k = some (z_mk q.1 k, i, j) ∧ K (.inr (.inr (z_mk q.1 k, i, j)))
  | 4 => K (.inr (.inr (1, q.2.1, 0)))
  | 6 => K (.inl 0)
  | _ => False
def z_put (h : zH) (q : zR) (k tc : Nat) (v : zV) (K : zH → Prop) : Prop := match tc, v with
  | 0, .inl x => ∀ h1, h1 = z_uI h q k x → K h1
  | 5, .inl x => (x = 0 ∨ x = 1) ∧ ∀ h1, h1 = z_uI h q k x → K h1
  | 1, .inr (.inl x) => ∀ h1, h1 = z_uL h q k x → K h1
  | 3, .inr (.inr r) => (match Nat.beq r.1 (z_mk q.1 k) with
    | true => ∀ h1, h1 = z_uR h q k r → K h1
    | false => False)
  | _, _ => False
def z_if (c : Jvm.ClassFile.Cond) (x y : Int32) (a b : Prop) : Prop := match c with
  | .eq => (x = y → a) ∧ (¬ x = y → b)
  | .ne => (x = y → b) ∧ (¬ x = y → a)
  | .lt => (x < y → a) ∧ (¬ x < y → b)
  | .ge => (x < y → b) ∧ (¬ x < y → a)
  | .gt => (y < x → a) ∧ (¬ y < x → b)
  | .le => (y < x → b) ∧ (¬ y < x → a)
def z_tsw (J : Int → Prop) (x : Int32) : Int → List Int → Prop
  | _, [] => True
  | lo, t :: ts => (x = z_lit lo → J t) ∧ z_tsw J x (lo + 1) ts
def z_lsw (J : Int → Prop) (x : Int32) : List (Int × Int) → Prop
  | [] => True
  | (k, t) :: ts => (x = z_lit k → J t) ∧ z_lsw J x ts
def z_lno (x : Int32) : List (Int × Int) → Prop
  | [] => True
  | (k, _) :: ts => ¬ x = z_lit k ∧ z_lno x ts
/-- one instruction; nx: falls through; nc: behind a call; to: jumps -/
def z_ins (i : Instr) (nx nc : zL → List zV → zH → Prop) (to : Nat → zL → List zV → zH → Prop) (Q : Option zV → zH → Prop) (L : zL) (st : List zV) (h : zH) : Prop :=
  match i with
  | .iconst v => nx L (.inl (z_lit v) :: st) h
  | .jsr_w v => nx L (.inr (.inl (z_litL v)) :: st) h
  | .ldc n => nx L (.inr (.inr (0, n, 0)) :: st) h
  | .iload n => (match L[n]? with
    | some (some (.inl x)) => nx L (.inl x :: st) h
    | _ => False)
  | .lload n => (match L[n]? with
    | some (some (.inr (.inl x))) => nx L (.inr (.inl x) :: st) h
    | _ => False)
  | .aload n => (match L[n]? with
    | some (some (.inr (.inr x))) => nx L (.inr (.inr x) :: st) h
    | _ => False)
  | .istore n => (match st with
    | .inl x :: r => nx (z_s1 L n (.inl x)) r h
    | _ => False)
  | .lstore n => (match st with
    | .inr (.inl x) :: r => nx (z_s2 L n (.inr (.inl x))) r h
    | _ => False)
  | .astore n => (match st with
    | .inr (.inr x) :: r => nx (z_s1 L n (.inr (.inr x))) r h
    | _ => False)
  | .iinc n v => (match L[n]? with
    | some (some (.inl x)) => nx (z_s1 L n (.inl (x + z_lit v))) st h
    | _ => False)
  | .iadd => (match st with
    | .inl y :: .inl x :: r => nx L (.inl (x + y) :: r) h
    | _ => False)
  | .isub => (match st with
    | .inl y :: .inl x :: r => nx L (.inl (x - y) :: r) h
    | _ => False)
  | .imul => (match st with
    | .inl y :: .inl x :: r => nx L (.inl (x * y) :: r) h
    | _ => False)
  | .iand => (match st with
    | .inl y :: .inl x :: r => nx L (.inl (x &&& y) :: r) h
    | _ => False)
  | .ior => (match st with
    | .inl y :: .inl x :: r => nx L (.inl (x ||| y) :: r) h
    | _ => False)
  | .ixor => (match st with
    | .inl y :: .inl x :: r => nx L (.inl (x ^^^ y) :: r) h
    | _ => False)
  | .idiv => (match st with
    | .inl y :: .inl x :: r => (¬ y = 0) ∧ nx L (.inl (x / y) :: r) h
    | _ => False)
  | .irem => (match st with
    | .inl y :: .inl x :: r => (¬ y = 0) ∧ nx L (.inl (x - x / y * y) :: r) h
    | _ => False)
  | .ishl => (match st with
    | .inl y :: .inl x :: r => nx L (.inl (x <<< (y &&& 31)) :: r) h
    | _ => False)
  | .ishr => (match st with
    | .inl y :: .inl x :: r => nx L (.inl (x >>> (y &&& 31)) :: r) h
    | _ => False)
  | .ladd => (match st with
    | .inr (.inl y) :: .inr (.inl x) :: r => nx L (.inr (.inl (x + y)) :: r) h
    | _ => False)
  | .lsub => (match st with
    | .inr (.inl y) :: .inr (.inl x) :: r => nx L (.inr (.inl (x - y)) :: r) h
    | _ => False)
  | .lmul => (match st with
    | .inr (.inl y) :: .inr (.inl x) :: r => nx L (.inr (.inl (x * y)) :: r) h
    | _ => False)
  | .land => (match st with
    | .inr (.inl y) :: .inr (.inl x) :: r => nx L (.inr (.inl (x &&& y)) :: r) h
    | _ => False)
  | .lor => (match st with
    | .inr (.inl y) :: .inr (.inl x) :: r => nx L (.inr (.inl (x ||| y)) :: r) h
    | _ => False)
  | .ldiv => (match st with
    | .inr (.inl y) :: .inr (.inl x) :: r => (¬ y = 0) ∧ nx L (.inr (.inl (x / y)) :: r) h
    | _ => False)
  | .lrem => (match st with
    | .inr (.inl y) :: .inr (.inl x) :: r => (¬ y = 0) ∧ nx L (.inr (.inl (x - x / y * y)) :: r) h
    | _ => False)
  | .lshl => (match st with
    | .inl y :: .inr (.inl x) :: r => nx L (.inr (.inl (x <<< (y.toInt64 &&& 63))) :: r) h
    | _ => False)
  | .lshr => (match st with
    | .inl y :: .inr (.inl x) :: r => nx L (.inr (.inl (x >>> (y.toInt64 &&& 63))) :: r) h
    | _ => False)
  | .lushr => (match st with
    | .inl y :: .inr (.inl x) :: r => nx L (.inr (.inl (x.toUInt64 >>> (y.toInt64.toUInt64 &&& Int64.toUInt64 63)).toInt64) :: r) h
    | _ => False)
  | .lcmp => (match st with
    | .inr (.inl y) :: .inr (.inl x) :: r => nx L (.inl (lg_cmp x y) :: r) h
    | _ => False)
  | .drem => (match st with
    | .inl y :: .inl x :: r => (match Nat.ble (z_cat r) 8 with
      | true => nx L (.inl (if x < y then y else x) :: r) h
      | false => False)
    | _ => False)
  | .frem => (match st with
    | .inl y :: .inl x :: r => (match Nat.ble (z_cat r) 8 with
      | true => nx L (.inl (if y < x then y else x) :: r) h
      | false => False)
    | _ => False)
  | .i2l => (match st with
    | .inl x :: r => nx L (.inr (.inl x.toInt64) :: r) h
    | _ => False)
  | .l2i => (match st with
    | .inr (.inl x) :: r => nx L (.inl x.toInt32 :: r) h
    | _ => False)
  | .i2b => (match st with
    | .inl x :: r => nx L (.inl x.toInt8.toInt32 :: r) h
    | _ => False)
  | .i2c => (match st with
    | .inl x :: r => nx L (.inl (x.toUInt32 % 65536).toInt32 :: r) h
    | _ => False)
  | .dup => (match st with
    | .inl x :: r => nx L (.inl x :: .inl x :: r) h
    | .inr (.inr x) :: r => nx L (.inr (.inr x) :: .inr (.inr x) :: r) h
    | _ => False)
  | .pop => (match st with
    | .inl _ :: r => nx L r h
    | .inr (.inr _) :: r => nx L r h
    | _ => False)
  | .dup2 => (match st with
    | .inl x :: .inr (.inr y) :: r => nx L (.inl x :: .inr (.inr y) :: .inl x :: .inr (.inr y) :: r) h
    | _ => False)
  | .ifCond c t => (match st with
    | .inl x :: r => z_if c x 0 (to t.toNat L r h) (nx L r h)
    | _ => False)
  | .if_icmp c t => (match st with
    | .inl y :: .inl x :: r => z_if c x y (to t.toNat L r h) (nx L r h)
    | _ => False)
  | .goto t => to t.toNat L st h
  | .tableswitch d lo hi ts => (match st with
    | .inl x :: r => z_tsw (fun t => to t.toNat L r h) x lo ts.toList ∧ ((x.toInt < lo ∨ hi < x.toInt) → to d.toNat L r h)
    | _ => False)
  | .lookupswitch d ps => (match st with
    | .inl x :: r => z_lsw (fun t => to t.toNat L r h) x ps.toList ∧ (z_lno x ps.toList → to d.toNat L r h)
    | _ => False)
  | .getfield n => (match st with
    | .inr (.inr q) :: r => (match Nat.beq q.1 (n / 1024) with
      | true => z_get h q (n / 8 % 128) (n % 8) (fun v => nx L (v :: r) h)
      | false => False)
    | _ => False)
  | .putfield n => (match st with
    | v :: .inr (.inr q) :: r => (match Nat.beq q.1 (n / 1024) with
      | true => z_put h q (n / 8 % 128) (n % 8) v (fun h1 => nx L r h1)
      | false => False)
    | _ => False)
  | .getstatic n => (match n with
    | 0 => nx L (.inl 1 :: st) h
    | 1 => nx L (.inr (.inr (3, 0, 0)) :: st) h
    | 2 => nx L (.inr (.inr (2, 0, 0)) :: st) h
    | 3 => nx L (.inr (.inr (2, 1, 0)) :: st) h
    | _ => False)
  | .iaload => (match st with
    | .inl x :: .inr (.inr q) :: r => (match z_at q.1 with
      | 0 => vp_in x (z_ln q) ∧ nx L (.inl (h.1 q x.toNatClampNeg) :: r) h
      | 9 => vp_in x (z_ln q) ∧ nx L (.inl ((z_ci.getD q.2.1 []).getD x.toNatClampNeg 0) :: r) h
      | _ => False)
    | _ => False)
  | .baload => (match st with
    | .inl x :: .inr (.inr q) :: r => (match z_at q.1 with
      | 2 => vp_in x (z_ln q) ∧ nx L (.inl (h.1 q x.toNatClampNeg) :: r) h
      | 3 => vp_in x (z_ln q) ∧ nx L (.inl (h.1 q x.toNatClampNeg) :: r) h
      | 8 => vp_in x (z_ln q) ∧ nx L (.inl ((z_sb.getD q.2.1 []).getD x.toNatClampNeg 0) :: r) h
      | _ => False)
    | _ => False)
  | .laload => (match st with
    | .inl x :: .inr (.inr q) :: r => (match z_at q.1 with
      | 1 => vp_in x (z_ln q) ∧ nx L (.inr (.inl (h.2.1 q x.toNatClampNeg)) :: r) h
      | _ => False)
    | _ => False)
  | .aaload => (match st with
    | .inl x :: .inr (.inr q) :: r => (match z_at q.1 with
      | 4 => vp_in x (z_ln q) ∧ nx L (.inr (.inr (z_el q x.toNatClampNeg)) :: r) h
      | 5 => vp_in x (z_ln q) ∧ ∃ i j : Nat, h.2.2 q x.toNatClampNeg = some (14, i, j) ∧ nx L (.inr (.inr (14, i, j)) :: r) h
      | _ => False)
    | _ => False)
  | .iastore => (match st with
    | .inl v :: .inl x :: .inr (.inr q) :: r => (match z_at q.1 with
      | 0 => vp_in x (z_ln q) ∧ ∀ h1, h1 = z_uI h q x.toNatClampNeg v → nx L r h1
      | _ => False)
    | _ => False)
  | .bastore => (match st with
    | .inl v :: .inl x :: .inr (.inr q) :: r => (match z_at q.1 with
      | 2 => vp_in x (z_ln q) ∧ ∀ h1, h1 = z_uI h q x.toNatClampNeg (vp_nar .byte v) → nx L r h1
      | 3 => vp_in x (z_ln q) ∧ ∀ h1, h1 = z_uI h q x.toNatClampNeg (vp_nar .boolean v) → nx L r h1
      | _ => False)
    | _ => False)
  | .lastore => (match st with
    | .inr (.inl v) :: .inl x :: .inr (.inr q) :: r => (match z_at q.1 with
      | 1 => vp_in x (z_ln q) ∧ ∀ h1, h1 = z_uL h q x.toNatClampNeg v → nx L r h1
      | _ => False)
    | _ => False)
  | .aastore => (match st with
    | .inr (.inr v) :: .inl x :: .inr (.inr q) :: r => (match z_at q.1 with
      | 5 => (match Nat.beq v.1 14 with
        | true => vp_in x (z_ln q) ∧ ∀ h1, h1 = z_uR h q x.toNatClampNeg v → nx L r h1
        | false => False)
      | _ => False)
    | _ => False)
  | .arraylength => (match st with
    | .inr (.inr q) :: r => (match Nat.ble (z_at q.1) 9 with
      | true => nx L (.inl (Int32.ofNat (z_ln q)) :: r) h
      | false => False)
    | _ => False)
  | .ireturn => (match st with
    | [.inl x] => Q (some (.inl x)) h
    | _ => False)
  | .jsr n => (match st with
    | [.inl x] => (match n with
      | 0 => (x = 0 ∨ x = 1) ∧ Q (some (.inl x)) h
      | 1 => narrow .byte (.int x) = .int x ∧ Q (some (.inl x)) h
      | 2 => narrow .char (.int x) = .int x ∧ Q (some (.inl x)) h
      | _ => False)
    | _ => False)
  | .lreturn => (match st with
    | [.inr (.inl x)] => Q (some (.inr (.inl x))) h
    | _ => False)
  | .areturn => (match st with
    | [.inr (.inr q)] => (match Nat.beq q.1 3 with
      | false => Q (some (.inr (.inr q))) h
      | true => False)
    | _ => False)
  | .return_ => (match st with
    | [] => Q none h
    | _ => False)
  | .invokeinterface y en => (match z_pop (en / 4 % 16) [] st with
    | some (as, r) => (match Nat.ble (z_cat r) 8 && (match en / 64, as with
        | 0, _ => true
        | k + 1, .inr (.inr q) :: _ => Nat.beq q.1 k
        | _, _ => false) with
      | true => (match en % 4 with
        | 0 => zOkV y as h (fun h1 => nc L r h1)
        | 1 => zOkI y as h (fun x h1 => nc L (.inl x :: r) h1)
        | 2 => zOkL y as h (fun x h1 => nc L (.inr (.inl x) :: r) h1)
        | _ => zOkR y as h (fun x h1 => nc L (.inr (.inr x) :: r) h1))
      | false => False)
    | none => False)
  | _ => False
def z_find : List (Nat × Instr) → Nat → List (Nat × Instr)
  | [], _ => []
  | (p, i) :: t, pc => match Nat.beq p pc with
    | true => (p, i) :: t
    | false => z_find t pc
def z_cutAt : List (Nat × List Bool) → Nat → Option (List Bool)
  | [], _ => none
  | (p, m) :: t, pc => match Nat.beq p pc with
    | true => some m
    | false => z_cutAt t pc
/-- from a place on: each way of the code up to its end, to a call's end or to a cut -/
def z_wp (y : Nat) (C : List (Nat × Instr)) (ct : List (Nat × List Bool)) (Q : Option zV → zH → Prop) (n : Nat) : List (Nat × Instr) → zL → List zV → zH → Prop :=
  Nat.rec (fun _ _ _ _ => False) (fun _ ih cs L st h => match cs with
    | [] => False
    | (_, i) :: rest => z_ins i
      (fun L st h => match rest with
        | [] => False
        | (p, _) :: _ => (match z_cutAt ct p with
          | some m => zAt y p (z_mask m L) st h Q
          | none => ih rest L st h))
      (fun L st h => match rest with
        | [] => False
        | (p, _) :: _ => (match z_cutAt ct p with
          | some m => zAt y p (z_mask m L) st h Q
          | none => zAt y p L st h Q))
      (fun p L st h => match z_cutAt ct p with
        | some m => zAt y p (z_mask m L) st h Q
        | none => ih (z_find C p) L st h) Q L st h) n
/-- the shape of a call: receiver's kind and one, how many values, what comes back -/
def z_kc (o : Nat) : Nat := if o < 13 then o + 10 else 0
def z_en (y : Nat) : Nat := ((if (z_m y).2.2.2.2.2.1.1 then 0 else z_kc (z_m y).2.2.2.2.1.1 + 1) * 16 + ((z_m y).2.2.2.2.2.1.2 + (if (z_m y).2.2.2.2.2.1.1 then 0 else 1))) * 4 + (match (z_m y).2.2.2.1 with
  | none => 0
  | some .long => 2
  | some (.object _) => 3
  | some (.array _) => 3
  | some _ => 1)
/-- which of the machine's instructions an instruction of ours is -/
def z_lk (o : Nat) (ret : Option FieldType) (pc : Nat) (r : Instr) : Instr := match r with
  | .iconst v => .iconst v
  | .bipush v => if (Int8.ofInt v).toInt32 = Int32.ofInt v then .iconst v else .nop
  | .sipush v => if (Int16.ofInt v).toInt32 = Int32.ofInt v then .iconst v else .nop
  | .lconst n => .jsr_w (n : Nat)
  | .ldc k => (match (z_kls.getD o []).find? (fun q => q.1 == k) with
    | some q => .iconst q.2.1
    | none => match (z_sls.getD o []).find? (fun q => q.1 == k) with
      | some q => .ldc q.2.1
      | none => .nop)
  | .ldc_w k => (match (z_kls.getD o []).find? (fun q => q.1 == k) with
    | some q => .iconst q.2.1
    | none => .nop)
  | .ldc2_w k => (match (z_lls.getD o []).find? (fun q => q.1 == k) with
    | some q => .jsr_w q.2.1
    | none => .nop)
  | .iload n => .iload n
  | .iload_n n => .iload n
  | .lload n => .lload n
  | .lload_n n => .lload n
  | .aload n => .aload n
  | .aload_n n => .aload n
  | .istore n => .istore n
  | .istore_n n => .istore n
  | .lstore n => .lstore n
  | .lstore_n n => .lstore n
  | .astore n => .astore n
  | .astore_n n => .astore n
  | .iinc n v => .iinc n v
  | .iadd => .iadd
  | .isub => .isub
  | .imul => .imul
  | .iand => .iand
  | .ior => .ior
  | .ixor => .ixor
  | .idiv => .idiv
  | .irem => .irem
  | .ishl => .ishl
  | .ishr => .ishr
  | .ladd => .ladd
  | .lsub => .lsub
  | .lmul => .lmul
  | .land => .land
  | .lor => .lor
  | .ldiv => .ldiv
  | .lrem => .lrem
  | .lshl => .lshl
  | .lshr => .lshr
  | .lushr => .lushr
  | .lcmp => .lcmp
  | .i2l => .i2l
  | .l2i => .l2i
  | .i2b => .i2b
  | .i2c => .i2c
  | .dup => .dup
  | .dup2 => .dup2
  | .pop => .pop
  | .ifCond c off => .ifCond c (pc + off)
  | .if_icmp c off => .if_icmp c (pc + off)
  | .goto off => .goto (pc + off)
  | .tableswitch d lo hi ts => .tableswitch (pc + d) lo hi (ts.map (fun t => pc + t))
  | .lookupswitch d ps => .lookupswitch (pc + d) (ps.map (fun t => (t.1, pc + t.2)))
  | .getfield k => (match (z_fls.getD o []).find? (fun q => q.1 == k) with
    | some q => .getfield q.2.1
    | none => .nop)
  | .putfield k => (match (z_fls.getD o []).find? (fun q => q.1 == k) with
    | some q => .putfield q.2.1
    | none => .nop)
  | .getstatic k => (match (z_gls.getD o []).find? (fun q => q.1 == k) with
    | some q => .getstatic q.2.1
    | none => .nop)
  | .iaload => .iaload
  | .laload => .laload
  | .baload => .baload
  | .aaload => .aaload
  | .iastore => .iastore
  | .lastore => .lastore
  | .bastore => .bastore
  | .aastore => .aastore
  | .arraylength => .arraylength
  | .ireturn => (match ret with
    | some .int => .ireturn
    | some .boolean => .jsr 0
    | some .byte => .jsr 1
    | some .char => .jsr 2
    | _ => .nop)
  | .lreturn => .lreturn
  | .areturn => .areturn
  | .return_ => .return_
  | .invokevirtual k => (match (z_mls.getD o []).find? (fun q => q.1 == k) with
    | some q => if q.2.2.1 = 0 then .invokeinterface q.2.1 (z_en q.2.1) else .nop
    | none => .nop)
  | .invokestatic k => (match (z_mls.getD o []).find? (fun q => q.1 == k) with
    | some q => (match q.2.2.1 with
      | 1 => .invokeinterface q.2.1 (z_en q.2.1)
      | 2 => .invokeinterface q.2.1 (z_en q.2.1)
      | 3 => .drem
      | 4 => .frem
      | _ => .nop)
    | none => .nop)
  | _ => .nop
def z_lenok (r : Instr) (len : Nat) : Bool := match r with
  | .tableswitch _ _ _ _ => true
  | .lookupswitch _ _ => true
  | .bipush _ => Nat.beq len 2
  | .ldc _ => Nat.beq len 2
  | .iload _ => Nat.beq len 2
  | .lload _ => Nat.beq len 2
  | .aload _ => Nat.beq len 2
  | .istore _ => Nat.beq len 2
  | .lstore _ => Nat.beq len 2
  | .astore _ => Nat.beq len 2
  | .sipush _ => Nat.beq len 3
  | .ldc_w _ => Nat.beq len 3
  | .ldc2_w _ => Nat.beq len 3
  | .iinc _ _ => Nat.beq len 3
  | .ifCond _ _ => Nat.beq len 3
  | .if_icmp _ _ => Nat.beq len 3
  | .goto _ => Nat.beq len 3
  | .getfield _ => Nat.beq len 3
  | .putfield _ => Nat.beq len 3
  | .getstatic _ => Nat.beq len 3
  | .invokevirtual _ => Nat.beq len 3
  | .invokestatic _ => Nat.beq len 3
  | _ => Nat.beq len 1
/-- the room that the calls of a method's code need is in its own -/
def z_okr (y : Nat) : List (Nat × Instr) → Bool
  | [] => true
  | (_, i) :: t => (match i with
    | .invokeinterface k _ => Nat.blt k 247 && Nat.ble ((z_m k).2.2.2.2.1.2.1 + 1) (z_m y).2.2.2.2.1.2.1 && Nat.ble (8 + ((z_m k).2.2.1 + 11) + (z_m k).2.2.2.2.1.2.2) (z_m y).2.2.2.2.1.2.2
    | .lookupswitch d ps => (ps.toList.zip (ps.toList.drop 1)).all (fun (a, next) => a.1 < next.1) && decide (0 ≤ d) && ps.toList.all (fun q => decide (0 ≤ q.2) && decide (-2147483648 ≤ q.1) && decide (q.1 < 2147483648))
    | .tableswitch d lo hi ts => decide (0 ≤ d) && decide (hi - lo + 1 = ts.size) && ts.toList.all (fun t => decide (0 ≤ t))
    | .lreturn => decide ((z_m y).2.2.2.1 = some .long)
    | .return_ => decide ((z_m y).2.2.2.1 = none)
    | .areturn => (match (z_m y).2.2.2.1 with
      | some (.object _) => true
      | _ => false)
    | .goto t => decide (0 ≤ t)
    | .ifCond _ t => decide (0 ≤ t)
    | .if_icmp _ t => decide (0 ≤ t)
    | .drem => Nat.ble 21 (z_m y).2.2.2.2.1.2.2 && Nat.ble 1 (z_m y).2.2.2.2.1.2.1
    | .frem => Nat.ble 21 (z_m y).2.2.2.2.1.2.2 && Nat.ble 1 (z_m y).2.2.2.2.1.2.1
    | .istore n => Nat.blt n (z_m y).2.2.1
    | .astore n => Nat.blt n (z_m y).2.2.1
    | .iinc n _ => Nat.blt n (z_m y).2.2.1
    | .lstore n => Nat.blt (n + 1) (z_m y).2.2.1
    | _ => true) && z_okr y t
/-- the code of a method, checked against its bytes -/
def z_okc (o : Nat) (ret : Option FieldType) (by_ : ByteArray) : List (Nat × Instr) → Bool
  | [] => true
  | (pc, i) :: t => (match decode by_ pc with
    | .ok (r, len) => z_lenok r len && decide (z_lk o ret pc r = i) && (match t with
      | [] => true
      | (p, _) :: _ => Nat.beq p (pc + len))
    | .error _ => false) && z_okc o ret by_ t
end
section
/-- java/lang/String.coder()B -/
def zc_0 : List (Nat × Instr) := [(0, .getstatic 0), (3, .ifCond .eq 13), (6, .aload 0), (7, .getfield 14), (10, .goto 14), (13, .iconst 1), (14, .jsr 1)]
/-- java/lang/String.length()I -/
def zc_1 : List (Nat × Instr) := [(0, .aload 0), (1, .getfield 4), (4, .arraylength), (5, .aload 0), (6, .invokeinterface 0 69), (9, .ishr), (10, .ireturn)]
/-- java/lang/String.isLatin1()Z -/
def zc_2 : List (Nat × Instr) := [(0, .getstatic 0), (3, .ifCond .eq 17), (6, .aload 0), (7, .getfield 14), (10, .ifCond .ne 17), (13, .iconst 1), (14, .goto 18), (17, .iconst 0), (18, .jsr 0)]
/-- jdk/internal/util/Preconditions.checkIndex(IILjava/util/function/BiFunction;)I -/
def zc_3 : List (Nat × Instr) := [(0, .iload 0), (1, .ifCond .lt 9), (4, .iload 0), (5, .iload 1), (6, .if_icmp .lt 16), (9, .aload 2), (10, .iload 0), (11, .iload 1), (12, .nop), (15, .nop), (16, .iload 0), (17, .ireturn)]
/-- java/lang/String.checkIndex(II)V -/
def zc_4 : List (Nat × Instr) := [(0, .iload 0), (1, .iload 1), (2, .getstatic 1), (5, .invokeinterface 3 13), (8, .pop), (9, .return_)]
/-- java/lang/StringLatin1.charAt([BI)C -/
def zc_5 : List (Nat × Instr) := [(0, .iload 1), (1, .aload 0), (2, .arraylength), (3, .invokeinterface 4 8), (6, .aload 0), (7, .iload 1), (8, .baload), (9, .iconst 255), (12, .iand), (13, .i2c), (14, .jsr 2)]
/-- java/lang/String.charAt(I)C -/
def zc_6 : List (Nat × Instr) := [(0, .aload 0), (1, .invokeinterface 2 69), (4, .ifCond .eq 16), (7, .aload 0), (8, .getfield 4), (11, .iload 1), (12, .invokeinterface 5 9), (15, .jsr 2), (16, .aload 0), (17, .getfield 4), (20, .iload 1), (21, .nop), (24, .jsr 2)]
/-- JobText.isDigit(I)Z -/
def zc_7 : List (Nat × Instr) := [(0, .iload 0), (1, .iconst 48), (3, .if_icmp .lt 16), (6, .iload 0), (7, .iconst 57), (9, .if_icmp .gt 16), (12, .iconst 1), (13, .goto 17), (16, .iconst 0), (17, .jsr 0)]
/-- JobText.longerName(JI)J -/
def zc_8 : List (Nat × Instr) := [(0, .lload 0), (1, .jsr_w 37), (4, .lmul), (5, .iload 2), (6, .invokeinterface 7 5), (9, .ifCond .eq 22), (12, .iload 2), (13, .iconst 48), (15, .isub), (16, .iconst 27), (18, .iadd), (19, .goto 28), (22, .iload 2), (23, .iconst 97), (25, .isub), (26, .iconst 1), (27, .iadd), (28, .i2l), (29, .ladd), (30, .lreturn)]
/-- JobText.lowByte(JI)I -/
def zc_9 : List (Nat × Instr) := [(0, .lload 0), (1, .iconst 8), (3, .iload 2), (4, .imul), (5, .lushr), (6, .l2i), (7, .iconst 255), (10, .iand), (11, .ireturn)]
/-- JobText.isTextByte(I)Z -/
def zc_10 : List (Nat × Instr) := [(0, .iload 0), (1, .iconst 10), (3, .if_icmp .eq 18), (6, .iload 0), (7, .iconst 32), (9, .if_icmp .lt 22), (12, .iload 0), (13, .iconst 126), (15, .if_icmp .gt 22), (18, .iconst 1), (19, .goto 23), (22, .iconst 0), (23, .jsr 0)]
/-- JobText$Bytes.add(I)V -/
def zc_11 : List (Nat × Instr) := [(0, .aload 0), (1, .getfield 10248), (4, .aload 0), (5, .getfield 10242), (8, .arraylength), (9, .if_icmp .ge 33), (12, .aload 0), (13, .getfield 10242), (16, .aload 0), (17, .getfield 10248), (20, .iload 1), (21, .i2b), (22, .bastore), (23, .aload 0), (24, .dup), (25, .getfield 10248), (28, .iconst 1), (29, .iadd), (30, .putfield 10248), (33, .return_)]
/-- JobText.type(JI)I -/
def zc_12 : List (Nat × Instr) := [(0, .iload 3), (1, .iconst 1), (2, .if_icmp .lt 11), (5, .iload 3), (6, .iconst 8), (8, .if_icmp .le 13), (11, .iconst (-1)), (12, .ireturn), (13, .iconst 0), (14, .istore 4), (16, .iload 4), (18, .iload 3), (19, .if_icmp .ge 42), (22, .lload 1), (23, .iload 4), (25, .invokeinterface 9 9), (28, .invokeinterface 10 5), (31, .ifCond .ne 36), (34, .iconst (-1)), (35, .ireturn), (36, .iinc 4 1), (39, .goto 16), (42, .aload 0), (43, .getfield 21506), (46, .getfield 10248), (49, .iload 3), (50, .iadd), (51, .iconst 1200), (54, .if_icmp .le 60), (57, .iconst (-3)), (59, .ireturn), (60, .iload 3), (61, .iconst 1), (62, .isub), (63, .istore 4), (65, .iload 4), (67, .ifCond .lt 89), (70, .aload 0), (71, .getfield 21506), (74, .lload 1), (75, .iload 4), (77, .invokeinterface 9 9), (80, .invokeinterface 11 712), (83, .iinc 4 (-1)), (86, .goto 65), (89, .aload 0), (90, .getfield 21506), (93, .getfield 10248), (96, .ireturn)]
/-- JobText.cut(I)I -/
def zc_13 : List (Nat × Instr) := [(0, .iload 1), (1, .ifCond .lt 15), (4, .iload 1), (5, .aload 0), (6, .getfield 21506), (9, .getfield 10248), (12, .if_icmp .le 17), (15, .iconst (-1)), (16, .ireturn), (17, .aload 0), (18, .getfield 21506), (21, .dup), (22, .getfield 10248), (25, .iload 1), (26, .isub), (27, .putfield 10248), (30, .aload 0), (31, .getfield 21506), (34, .getfield 10248), (37, .ireturn)]
/-- JobText.isFile(I)Z -/
def zc_14 : List (Nat × Instr) := [(0, .iload 0), (1, .ifCond .lt 14), (4, .iload 0), (5, .iconst 6), (7, .if_icmp .ge 14), (10, .iconst 1), (11, .goto 15), (14, .iconst 0), (15, .jsr 0)]
/-- JobText$Bytes.clear()V -/
def zc_15 : List (Nat × Instr) := [(0, .aload 0), (1, .iconst 0), (2, .putfield 10248), (5, .return_)]
/-- JobText$Bytes.at(I)I -/
def zc_16 : List (Nat × Instr) := [(0, .iload 1), (1, .ifCond .lt 12), (4, .iload 1), (5, .aload 0), (6, .getfield 10248), (9, .if_icmp .lt 17), (12, .iconst (-5)), (14, .goto 23), (17, .aload 0), (18, .getfield 10242), (21, .iload 1), (22, .baload), (23, .ireturn)]
/-- JobText$Bytes.become(LJobText$Bytes;II)V -/
def zc_17 : List (Nat × Instr) := [(0, .aload 0), (1, .invokeinterface 15 708), (4, .iload 2), (5, .istore 4), (7, .iload 4), (9, .iload 3), (10, .if_icmp .ge 29), (13, .aload 0), (14, .aload 1), (15, .iload 4), (17, .invokeinterface 16 713), (20, .invokeinterface 11 712), (23, .iinc 4 1), (26, .goto 7), (29, .return_)]
/-- JobText.file(I)I -/
def zc_18 : List (Nat × Instr) := [(0, .iload 1), (1, .invokeinterface 14 5), (4, .ifCond .ne 9), (7, .iconst (-1)), (8, .ireturn), (9, .aload 0), (10, .getfield 21514), (13, .iload 1), (14, .aaload), (15, .aload 0), (16, .getfield 21506), (19, .iconst 0), (20, .aload 0), (21, .getfield 21506), (24, .getfield 10248), (27, .invokeinterface 17 720), (30, .aload 0), (31, .getfield 21506), (34, .invokeinterface 15 708), (37, .aload 0), (38, .getfield 21514), (41, .iload 1), (42, .aaload), (43, .getfield 10248), (46, .ireturn)]
/-- JobText.byteOf(II)I -/
def zc_19 : List (Nat × Instr) := [(0, .iload 1), (1, .invokeinterface 14 5), (4, .ifCond .ne 9), (7, .iconst (-1)), (8, .ireturn), (9, .aload 0), (10, .getfield 21514), (13, .iload 1), (14, .aaload), (15, .iload 2), (16, .invokeinterface 16 713), (19, .ireturn)]
/-- JobText.isJob(I)Z -/
def zc_20 : List (Nat × Instr) := [(0, .iload 0), (1, .ifCond .lt 13), (4, .iload 0), (5, .iconst 2), (6, .if_icmp .ge 13), (9, .iconst 1), (10, .goto 14), (13, .iconst 0), (14, .jsr 0)]
/-- JobText$Fault.clear()V -/
def zc_21 : List (Nat × Instr) := [(0, .aload 0), (1, .iconst 0), (2, .putfield 11264), (5, .aload 0), (6, .iconst (-5)), (8, .putfield 11272), (11, .aload 0), (12, .iconst (-5)), (14, .putfield 11280), (17, .aload 0), (18, .iconst 0), (19, .putfield 11288), (22, .return_)]
/-- JobText$Job.clear()V -/
def zc_22 : List (Nat × Instr) := [(0, .aload 0), (1, .iconst 0), (2, .putfield 14352), (5, .aload 0), (6, .iconst 0), (7, .putfield 14368), (10, .aload 0), (11, .iconst 0), (12, .putfield 14384), (15, .aload 0), (16, .iconst 0), (17, .putfield 14408), (20, .aload 0), (21, .iconst 0), (22, .putfield 14432), (25, .return_)]
/-- JobText$Words.open(I)V -/
def zc_23 : List (Nat × Instr) := [(0, .aload 0), (1, .getfield 20528), (4, .iconst 6), (6, .if_icmp .ge 16), (9, .iload 1), (10, .invokeinterface 14 5), (13, .ifCond .ne 17), (16, .return_), (17, .aload 0), (18, .getfield 20528), (21, .ifCond .le 39), (24, .aload 0), (25, .getfield 20522), (28, .aload 0), (29, .getfield 20528), (32, .iconst 1), (33, .isub), (34, .aload 0), (35, .getfield 20536), (38, .iastore), (39, .aload 0), (40, .getfield 20514), (43, .aload 0), (44, .getfield 20528), (47, .iload 1), (48, .iastore), (49, .aload 0), (50, .dup), (51, .getfield 20528), (54, .iconst 1), (55, .iadd), (56, .putfield 20528), (59, .aload 0), (60, .iload 1), (61, .putfield 20552), (64, .aload 0), (65, .iconst 0), (66, .putfield 20536), (69, .return_)]
/-- JobText$Words.begin(LJobText$Job;I)V -/
def zc_24 : List (Nat × Instr) := [(0, .aload 0), (1, .aload 1), (2, .putfield 20507), (5, .aload 0), (6, .iconst 0), (7, .putfield 20528), (10, .aload 0), (11, .iload 2), (12, .invokeinterface 23 1352), (15, .return_)]
/-- JobText$Words.here()I -/
def zc_25 : List (Nat × Instr) := [(0, .aload 0), (1, .getfield 20490), (4, .aload 0), (5, .getfield 20552), (8, .aaload), (9, .aload 0), (10, .getfield 20536), (13, .invokeinterface 16 713), (16, .ireturn)]
/-- JobText$Fault.tell(III)V -/
def zc_26 : List (Nat × Instr) := [(0, .aload 0), (1, .iload 1), (2, .putfield 11264), (5, .aload 0), (6, .iload 2), (7, .putfield 11272), (10, .aload 0), (11, .iload 3), (12, .putfield 11280), (15, .aload 0), (16, .iconst 0), (17, .putfield 11288), (20, .return_)]
/-- JobText$Job.addComment(LJobText$Bytes;II)V -/
def zc_27 : List (Nat × Instr) := [(0, .aload 0), (1, .getfield 14408), (4, .iconst 40), (6, .if_icmp .ge 47), (9, .aload 0), (10, .getfield 14394), (13, .aload 0), (14, .getfield 14408), (17, .aaload), (18, .aload 1), (19, .iload 2), (20, .iload 3), (21, .invokeinterface 17 720), (24, .aload 0), (25, .getfield 14402), (28, .aload 0), (29, .getfield 14408), (32, .aload 0), (33, .getfield 14432), (36, .iastore), (37, .aload 0), (38, .dup), (39, .getfield 14408), (42, .iconst 1), (43, .iadd), (44, .putfield 14408), (47, .return_)]
/-- JobText$Words.meetComment()V -/
def zc_28 : List (Nat × Instr) := [(0, .aload 0), (1, .getfield 20490), (4, .aload 0), (5, .getfield 20552), (8, .aaload), (9, .astore 1), (10, .aload 0), (11, .getfield 20536), (14, .istore 2), (15, .iload 2), (16, .iconst 1), (17, .iadd), (18, .istore 3), (19, .iload 3), (20, .aload 1), (21, .getfield 10248), (24, .if_icmp .ge 43), (27, .aload 1), (28, .iload 3), (29, .invokeinterface 16 713), (32, .iconst 10), (34, .if_icmp .eq 43), (37, .iinc 3 1), (40, .goto 19), (43, .aload 0), (44, .iload 3), (45, .putfield 20536), (48, .iload 2), (49, .iconst 1), (50, .iadd), (51, .istore 4), (53, .iload 4), (55, .iload 3), (56, .if_icmp .ge 76), (59, .aload 1), (60, .iload 4), (62, .invokeinterface 16 713), (65, .iconst 32), (67, .if_icmp .ne 76), (70, .iinc 4 1), (73, .goto 53), (76, .iload 3), (77, .iload 4), (79, .if_icmp .le 100), (82, .aload 1), (83, .iload 3), (84, .iconst 1), (85, .isub), (86, .invokeinterface 16 713), (89, .iconst 32), (91, .if_icmp .ne 100), (94, .iinc 3 (-1)), (97, .goto 76), (100, .aload 0), (101, .getfield 20507), (104, .getfield 14408), (107, .iconst 40), (109, .if_icmp .ge 121), (112, .iload 3), (113, .iload 4), (115, .isub), (116, .iconst 60), (118, .if_icmp .le 137), (121, .aload 0), (122, .getfield 20498), (125, .iconst 3), (126, .aload 0), (127, .getfield 20552), (130, .iload 2), (131, .invokeinterface 26 784), (134, .goto 148), (137, .aload 0), (138, .getfield 20507), (141, .aload 1), (142, .iload 4), (144, .iload 3), (145, .invokeinterface 27 976), (148, .return_)]
/-- JobText$Words.skipToToken()V -/
def zc_29 : List (Nat × Instr) := [(0, .iconst 0), (1, .istore 1), (2, .iload 1), (3, .iconst 1200), (6, .if_icmp .gt 69), (9, .aload 0), (10, .getfield 20498), (13, .getfield 11264), (16, .ifCond .ne 69), (19, .aload 0), (20, .invokeinterface 25 1349), (23, .istore 2), (24, .iload 2), (25, .iconst 35), (27, .if_icmp .ne 37), (30, .aload 0), (31, .invokeinterface 28 1348), (34, .goto 63), (37, .iload 2), (38, .iconst 10), (40, .if_icmp .eq 49), (43, .iload 2), (44, .iconst 32), (46, .if_icmp .ne 62), (49, .aload 0), (50, .dup), (51, .getfield 20536), (54, .iconst 1), (55, .iadd), (56, .putfield 20536), (59, .goto 63), (62, .return_), (63, .iinc 1 1), (66, .goto 2), (69, .return_)]
/-- JobText.isSmallLetter(I)Z -/
def zc_30 : List (Nat × Instr) := [(0, .iload 0), (1, .iconst 97), (3, .if_icmp .lt 16), (6, .iload 0), (7, .iconst 122), (9, .if_icmp .gt 16), (12, .iconst 1), (13, .goto 17), (16, .iconst 0), (17, .jsr 0)]
/-- JobText.isWordByte(I)Z -/
def zc_31 : List (Nat × Instr) := [(0, .iload 0), (1, .invokeinterface 30 5), (4, .ifCond .ne 14), (7, .iload 0), (8, .invokeinterface 7 5), (11, .ifCond .eq 18), (14, .iconst 1), (15, .goto 19), (18, .iconst 0), (19, .jsr 0)]
/-- JobText$Words.lookAtName()V -/
def zc_32 : List (Nat × Instr) := [(0, .aload 0), (1, .jsr_w 0), (2, .putfield 20577), (5, .aload 0), (6, .getfield 20536), (9, .aload 0), (10, .getfield 20490), (13, .aload 0), (14, .getfield 20552), (17, .aaload), (18, .getfield 10248), (21, .if_icmp .ge 62), (24, .aload 0), (25, .invokeinterface 25 1349), (28, .invokeinterface 31 5), (31, .ifCond .eq 62), (34, .aload 0), (35, .aload 0), (36, .getfield 20577), (39, .aload 0), (40, .invokeinterface 25 1349), (43, .invokeinterface 8 10), (46, .putfield 20577), (49, .aload 0), (50, .dup), (51, .getfield 20536), (54, .iconst 1), (55, .iadd), (56, .putfield 20536), (59, .goto 5), (62, .aload 0), (63, .getfield 20536), (66, .aload 0), (67, .getfield 20560), (70, .isub), (71, .iconst 12), (73, .if_icmp .le 82), (76, .aload 0), (77, .iconst 0), (78, .putfield 20544), (81, .return_), (82, .aload 0), (83, .iconst 1), (84, .putfield 20544), (87, .iconst 0), (88, .istore 1), (89, .iload 1), (90, .iconst 21), (92, .if_icmp .ge 125), (95, .aload 0), (96, .getfield 20482), (99, .iload 1), (100, .laload), (101, .aload 0), (102, .getfield 20577), (105, .lcmp), (106, .ifCond .ne 119), (109, .aload 0), (110, .iconst 1), (111, .iconst 9), (113, .iload 1), (114, .iadd), (115, .ishl), (116, .putfield 20544), (119, .iinc 1 1), (122, .goto 89), (125, .return_)]
/-- JobText$Words.lookAtNumber()V -/
def zc_33 : List (Nat × Instr) := [(0, .aload 0), (1, .invokeinterface 25 1349), (4, .iconst 48), (6, .if_icmp .ne 13), (9, .iconst 1), (10, .goto 14), (13, .iconst 0), (14, .istore 1), (15, .aload 0), (16, .iconst 0), (17, .putfield 20568), (20, .aload 0), (21, .getfield 20536), (24, .aload 0), (25, .getfield 20490), (28, .aload 0), (29, .getfield 20552), (32, .aaload), (33, .getfield 10248), (36, .if_icmp .ge 81), (39, .aload 0), (40, .invokeinterface 25 1349), (43, .invokeinterface 7 5), (46, .ifCond .eq 81), (49, .aload 0), (50, .aload 0), (51, .getfield 20568), (54, .iconst 10), (56, .imul), (57, .aload 0), (58, .invokeinterface 25 1349), (61, .iadd), (62, .iconst 48), (64, .isub), (65, .putfield 20568), (68, .aload 0), (69, .dup), (70, .getfield 20536), (73, .iconst 1), (74, .iadd), (75, .putfield 20536), (78, .goto 20), (81, .aload 0), (82, .getfield 20536), (85, .aload 0), (86, .getfield 20560), (89, .isub), (90, .istore 2), (91, .iload 2), (92, .iconst 5), (93, .if_icmp .gt 115), (96, .iload 1), (97, .ifCond .eq 105), (100, .iload 2), (101, .iconst 1), (102, .if_icmp .gt 115), (105, .aload 0), (106, .invokeinterface 25 1349), (109, .invokeinterface 30 5), (112, .ifCond .eq 119), (115, .iconst 1), (116, .goto 120), (119, .iconst 0), (120, .istore 3), (121, .aload 0), (122, .getfield 20536), (125, .aload 0), (126, .getfield 20490), (129, .aload 0), (130, .getfield 20552), (133, .aaload), (134, .getfield 10248), (137, .if_icmp .ge 163), (140, .aload 0), (141, .invokeinterface 25 1349), (144, .invokeinterface 31 5), (147, .ifCond .eq 163), (150, .aload 0), (151, .dup), (152, .getfield 20536), (155, .iconst 1), (156, .iadd), (157, .putfield 20536), (160, .goto 121), (163, .aload 0), (164, .iload 3), (165, .ifCond .eq 172), (168, .iconst 0), (169, .goto 173), (172, .iconst 2), (173, .putfield 20544), (176, .return_)]
/-- java/lang/StringLatin1.canEncode(I)Z -/
def zc_34 : List (Nat × Instr) := [(0, .iload 0), (1, .ifCond .lt 15), (4, .iload 0), (5, .iconst 255), (8, .if_icmp .gt 15), (11, .iconst 1), (12, .goto 16), (15, .iconst 0), (16, .jsr 0)]
/-- java/lang/StringLatin1.indexOfChar([BIII)I -/
def zc_35 : List (Nat × Instr) := [(0, .iload 1), (1, .i2b), (2, .istore 4), (4, .iload 2), (5, .istore 5), (7, .iload 5), (9, .iload 3), (10, .if_icmp .ge 31), (13, .aload 0), (14, .iload 5), (16, .baload), (17, .iload 4), (19, .if_icmp .ne 25), (22, .iload 5), (24, .ireturn), (25, .iinc 5 1), (28, .goto 7), (31, .iconst (-1)), (32, .ireturn)]
/-- java/lang/StringLatin1.indexOf([BIII)I -/
def zc_36 : List (Nat × Instr) := [(0, .iload 1), (1, .invokeinterface 34 5), (4, .ifCond .ne 9), (7, .iconst (-1)), (8, .ireturn), (9, .iload 2), (10, .iconst 0), (11, .drem), (14, .istore 2), (15, .iload 3), (16, .aload 0), (17, .arraylength), (18, .frem), (21, .istore 3), (22, .iload 2), (23, .iload 3), (24, .if_icmp .lt 29), (27, .iconst (-1)), (28, .ireturn), (29, .aload 0), (30, .iload 1), (31, .iload 2), (32, .iload 3), (33, .invokeinterface 35 17), (36, .ireturn)]
/-- java/lang/String.indexOf(II)I -/
def zc_37 : List (Nat × Instr) := [(0, .aload 0), (1, .invokeinterface 2 69), (4, .ifCond .eq 23), (7, .aload 0), (8, .getfield 4), (11, .iload 1), (12, .iload 2), (13, .aload 0), (14, .invokeinterface 1 69), (17, .invokeinterface 36 17), (20, .goto 36), (23, .aload 0), (24, .getfield 4), (27, .iload 1), (28, .iload 2), (29, .aload 0), (30, .invokeinterface 1 69), (33, .nop), (36, .ireturn)]
/-- java/lang/String.indexOf(I)I -/
def zc_38 : List (Nat × Instr) := [(0, .aload 0), (1, .iload 1), (2, .iconst 0), (3, .invokeinterface 37 77), (6, .ireturn)]
/-- JobText$Words.look()V -/
def zc_39 : List (Nat × Instr) := [(0, .aload 0), (1, .aload 0), (2, .getfield 20536), (5, .putfield 20560), (8, .aload 0), (9, .invokeinterface 25 1349), (12, .istore 1), (13, .iload 1), (14, .iconst (-5)), (16, .if_icmp .ne 29), (19, .aload 0), (20, .iconst 256), (23, .putfield 20544), (26, .goto 92), (29, .iload 1), (30, .invokeinterface 30 5), (33, .ifCond .eq 43), (36, .aload 0), (37, .invokeinterface 32 1348), (40, .goto 92), (43, .iload 1), (44, .invokeinterface 7 5), (47, .ifCond .eq 57), (50, .aload 0), (51, .invokeinterface 33 1348), (54, .goto 92), (57, .ldc 1), (59, .iload 1), (60, .i2c), (61, .invokeinterface 38 73), (64, .istore 2), (65, .aload 0), (66, .iload 2), (67, .ifCond .ge 74), (70, .iconst 0), (71, .goto 79), (74, .iconst 1), (75, .iconst 2), (76, .iload 2), (77, .iadd), (78, .ishl), (79, .putfield 20544), (82, .aload 0), (83, .dup), (84, .getfield 20536), (87, .iconst 1), (88, .iadd), (89, .putfield 20536), (92, .return_)]
/-- JobText$Reader.tellHere(I)V -/
def zc_40 : List (Nat × Instr) := [(0, .aload 0), (1, .getfield 19466), (4, .iload 1), (5, .aload 0), (6, .getfield 19458), (9, .getfield 20552), (12, .aload 0), (13, .getfield 19458), (16, .getfield 20560), (19, .invokeinterface 26 784), (22, .return_)]
/-- JobText$Words.close()V -/
def zc_41 : List (Nat × Instr) := [(0, .aload 0), (1, .getfield 20528), (4, .ifCond .le 17), (7, .aload 0), (8, .dup), (9, .getfield 20528), (12, .iconst 1), (13, .isub), (14, .putfield 20528), (17, .aload 0), (18, .getfield 20528), (21, .ifCond .le 54), (24, .aload 0), (25, .aload 0), (26, .getfield 20514), (29, .aload 0), (30, .getfield 20528), (33, .iconst 1), (34, .isub), (35, .iaload), (36, .putfield 20552), (39, .aload 0), (40, .aload 0), (41, .getfield 20522), (44, .aload 0), (45, .getfield 20528), (48, .iconst 1), (49, .isub), (50, .iaload), (51, .putfield 20536), (54, .return_)]
/-- JobText$Reader.beginStatement()V -/
def zc_42 : List (Nat × Instr) := [(0, .aload 0), (1, .getfield 19458), (4, .getfield 20544), (7, .iconst 256), (10, .if_icmp .ne 21), (13, .aload 0), (14, .getfield 19458), (17, .invokeinterface 41 1348), (20, .return_), (21, .aload 0), (22, .getfield 19458), (25, .getfield 20544), (28, .iconst 512), (31, .if_icmp .ne 40), (34, .aload 0), (35, .iconst 1), (36, .putfield 19480), (39, .return_), (40, .aload 0), (41, .getfield 19475), (44, .dup), (45, .getfield 14432), (48, .iconst 1), (49, .iadd), (50, .putfield 14432), (53, .aload 0), (54, .getfield 19458), (57, .getfield 20544), (60, .iconst 1024), (63, .if_icmp .ne 74), (66, .aload 0), (67, .iconst 3), (68, .putfield 19480), (71, .goto 120), (74, .aload 0), (75, .getfield 19458), (78, .getfield 20544), (81, .iconst 8192), (84, .if_icmp .ne 96), (87, .aload 0), (88, .iconst 6), (90, .putfield 19480), (93, .goto 120), (96, .aload 0), (97, .aload 0), (98, .getfield 19458), (101, .getfield 20544), (104, .iconst 2048), (107, .if_icmp .ne 115), (110, .iconst 10), (112, .goto 117), (115, .iconst 11), (117, .putfield 19480), (120, .return_)]
/-- JobText$Words.isOpen(I)Z -/
def zc_43 : List (Nat × Instr) := [(0, .iconst 0), (1, .istore 2), (2, .iload 2), (3, .aload 0), (4, .getfield 20528), (7, .if_icmp .ge 28), (10, .aload 0), (11, .getfield 20514), (14, .iload 2), (15, .iaload), (16, .iload 1), (17, .if_icmp .ne 22), (20, .iconst 1), (21, .jsr 0), (22, .iinc 2 1), (25, .goto 2), (28, .iconst 0), (29, .jsr 0)]
/-- JobText$Reader.goOnWithUse()V -/
def zc_44 : List (Nat × Instr) := [(0, .aload 0), (1, .getfield 19480), (4, .iconst 1), (5, .if_icmp .ne 80), (8, .aload 0), (9, .dup), (10, .getfield 19488), (13, .iconst 1), (14, .iadd), (15, .putfield 19488), (18, .aload 0), (19, .aload 0), (20, .getfield 19458), (23, .getfield 20568), (26, .putfield 19504), (29, .aload 0), (30, .aload 0), (31, .getfield 19458), (34, .getfield 20560), (37, .putfield 19496), (40, .aload 0), (41, .getfield 19504), (44, .invokeinterface 14 5), (47, .ifCond .ne 58), (50, .aload 0), (51, .iconst 2), (52, .invokeinterface 40 1288), (55, .goto 72), (58, .aload 0), (59, .getfield 19488), (62, .iconst 30), (64, .if_icmp .le 72), (67, .aload 0), (68, .iconst 3), (69, .invokeinterface 40 1288), (72, .aload 0), (73, .iconst 2), (74, .putfield 19480), (77, .goto 132), (80, .aload 0), (81, .getfield 19458), (84, .aload 0), (85, .getfield 19504), (88, .invokeinterface 43 1353), (91, .ifCond .eq 116), (94, .aload 0), (95, .getfield 19466), (98, .iconst 4), (99, .aload 0), (100, .getfield 19458), (103, .getfield 20552), (106, .aload 0), (107, .getfield 19496), (110, .invokeinterface 26 784), (113, .goto 132), (116, .aload 0), (117, .iconst 0), (118, .putfield 19480), (121, .aload 0), (122, .getfield 19458), (125, .aload 0), (126, .getfield 19504), (129, .invokeinterface 23 1352), (132, .return_)]
/-- JobText$Pair.begin(LJobText$Words;)V -/
def zc_45 : List (Nat × Instr) := [(0, .aload 0), (1, .aload 1), (2, .getfield 20577), (5, .putfield 18433), (8, .aload 0), (9, .aload 1), (10, .getfield 20552), (13, .putfield 18456), (16, .aload 0), (17, .aload 1), (18, .getfield 20560), (21, .putfield 18464), (24, .aload 0), (25, .jsr_w 0), (26, .putfield 18441), (29, .aload 0), (30, .iconst 0), (31, .putfield 18448), (34, .aload 0), (35, .iconst (-5)), (37, .putfield 18472), (40, .aload 0), (41, .iconst (-5)), (43, .putfield 18480), (46, .aload 0), (47, .iconst (-5)), (49, .putfield 18488), (52, .return_)]
/-- JobText$Job.noteStatement(II)V -/
def zc_46 : List (Nat × Instr) := [(0, .aload 0), (1, .getfield 14432), (4, .iconst 1), (5, .isub), (6, .istore 3), (7, .iload 3), (8, .ifCond .lt 31), (11, .iload 3), (12, .iconst 64), (14, .if_icmp .ge 31), (17, .aload 0), (18, .getfield 14418), (21, .iload 3), (22, .iload 1), (23, .iastore), (24, .aload 0), (25, .getfield 14426), (28, .iload 3), (29, .iload 2), (30, .iastore), (31, .return_)]
/-- JobText$Reader.beginSet()V -/
def zc_47 : List (Nat × Instr) := [(0, .aload 0), (1, .getfield 19475), (4, .getfield 14368), (7, .iconst 16), (9, .if_icmp .lt 18), (12, .aload 0), (13, .iconst 3), (14, .invokeinterface 40 1288), (17, .return_), (18, .iconst 0), (19, .istore 1), (20, .iload 1), (21, .aload 0), (22, .getfield 19475), (25, .getfield 14368), (28, .if_icmp .ge 67), (31, .aload 0), (32, .getfield 19475), (35, .getfield 14362), (38, .iload 1), (39, .aaload), (40, .getfield 18433), (43, .aload 0), (44, .getfield 19458), (47, .getfield 20577), (50, .lcmp), (51, .ifCond .ne 61), (54, .aload 0), (55, .iconst 6), (57, .invokeinterface 40 1288), (60, .return_), (61, .iinc 1 1), (64, .goto 20), (67, .aload 0), (68, .aload 0), (69, .getfield 19475), (72, .getfield 14362), (75, .aload 0), (76, .getfield 19475), (79, .getfield 14368), (82, .aaload), (83, .putfield 19523), (86, .aload 0), (87, .getfield 19523), (90, .aload 0), (91, .getfield 19458), (94, .invokeinterface 45 1224), (97, .aload 0), (98, .getfield 19475), (101, .iconst 1), (102, .aload 0), (103, .getfield 19475), (106, .getfield 14368), (109, .invokeinterface 46 972), (112, .aload 0), (113, .getfield 19475), (116, .dup), (117, .getfield 14368), (120, .iconst 1), (121, .iadd), (122, .putfield 14368), (125, .return_)]
/-- JobText$Pair.tellSecond(LJobText$Words;)V -/
def zc_48 : List (Nat × Instr) := [(0, .aload 1), (1, .getfield 20544), (4, .iconst 2), (5, .if_icmp .ne 19), (8, .aload 0), (9, .aload 1), (10, .getfield 20568), (13, .putfield 18448), (16, .goto 27), (19, .aload 0), (20, .aload 1), (21, .getfield 20577), (24, .putfield 18441), (27, .aload 0), (28, .aload 1), (29, .getfield 20560), (32, .putfield 18472), (35, .return_)]
/-- JobText$Reader.beginLoop()V -/
def zc_49 : List (Nat × Instr) := [(0, .aload 0), (1, .getfield 19475), (4, .getfield 14384), (7, .iconst 8), (9, .if_icmp .lt 18), (12, .aload 0), (13, .iconst 3), (14, .invokeinterface 40 1288), (17, .return_), (18, .aload 0), (19, .aload 0), (20, .getfield 19475), (23, .getfield 14378), (26, .aload 0), (27, .getfield 19475), (30, .getfield 14384), (33, .aaload), (34, .putfield 19523), (37, .aload 0), (38, .getfield 19523), (41, .aload 0), (42, .getfield 19458), (45, .invokeinterface 45 1224), (48, .aload 0), (49, .getfield 19475), (52, .iconst 2), (53, .aload 0), (54, .getfield 19475), (57, .getfield 14384), (60, .invokeinterface 46 972), (63, .aload 0), (64, .getfield 19475), (67, .dup), (68, .getfield 14384), (71, .iconst 1), (72, .iadd), (73, .putfield 14384), (76, .return_)]
/-- JobText$Reader.goOnWithLine()V -/
def zc_50 : List (Nat × Instr) := [(0, .aload 0), (1, .getfield 19480), (4, .tableswitch 126 3 8 #[44, 56, 64, 84, 97, 106]), (44, .aload 0), (45, .invokeinterface 47 1284), (48, .aload 0), (49, .iconst 4), (50, .putfield 19480), (53, .goto 131), (56, .aload 0), (57, .iconst 5), (58, .putfield 19480), (61, .goto 131), (64, .aload 0), (65, .getfield 19523), (68, .aload 0), (69, .getfield 19458), (72, .invokeinterface 48 1224), (75, .aload 0), (76, .iconst 9), (78, .putfield 19480), (81, .goto 131), (84, .aload 0), (85, .invokeinterface 49 1284), (88, .aload 0), (89, .iconst 7), (91, .putfield 19480), (94, .goto 131), (97, .aload 0), (98, .iconst 8), (100, .putfield 19480), (103, .goto 131), (106, .aload 0), (107, .getfield 19523), (110, .aload 0), (111, .getfield 19458), (114, .invokeinterface 48 1224), (117, .aload 0), (118, .iconst 9), (120, .putfield 19480), (123, .goto 131), (126, .aload 0), (127, .iconst 0), (128, .putfield 19480), (131, .return_)]
/-- JobText$Job.find(J)I -/
def zc_51 : List (Nat × Instr) := [(0, .iconst 0), (1, .istore 3), (2, .iload 3), (3, .aload 0), (4, .getfield 14352), (7, .if_icmp .ge 32), (10, .aload 0), (11, .getfield 14346), (14, .iload 3), (15, .aaload), (16, .getfield 17409), (19, .lload 1), (20, .lcmp), (21, .ifCond .ne 26), (24, .iload 3), (25, .ireturn), (26, .iinc 3 1), (29, .goto 2), (32, .iconst (-5)), (34, .ireturn)]
/-- JobText$Operator.begin(LJobText$Words;)V -/
def zc_52 : List (Nat × Instr) := [(0, .aload 0), (1, .aload 1), (2, .getfield 20577), (5, .putfield 17409), (8, .aload 0), (9, .aload 1), (10, .getfield 20552), (13, .putfield 17512), (16, .aload 0), (17, .aload 1), (18, .getfield 20560), (21, .putfield 17520), (24, .aload 0), (25, .aload 1), (26, .getfield 20560), (29, .putfield 17528), (32, .aload 0), (33, .iconst 0), (34, .putfield 17416), (37, .aload 0), (38, .iconst 0), (39, .putfield 17424), (42, .aload 0), (43, .iconst 0), (44, .putfield 17432), (47, .aload 0), (48, .iconst 0), (49, .putfield 17440), (52, .aload 0), (53, .iconst 0), (54, .putfield 17448), (57, .aload 0), (58, .jsr_w 0), (59, .putfield 17457), (62, .aload 0), (63, .iconst 0), (64, .putfield 17464), (67, .aload 0), (68, .iconst 0), (69, .putfield 17480), (72, .aload 0), (73, .iconst 0), (74, .putfield 17496), (77, .aload 0), (78, .iconst (-5)), (80, .putfield 17504), (83, .return_)]
/-- JobText$Reader.beginOperator()V -/
def zc_53 : List (Nat × Instr) := [(0, .aload 0), (1, .getfield 19475), (4, .getfield 14352), (7, .iconst 40), (9, .if_icmp .lt 18), (12, .aload 0), (13, .iconst 3), (14, .invokeinterface 40 1288), (17, .return_), (18, .aload 0), (19, .getfield 19475), (22, .aload 0), (23, .getfield 19458), (26, .getfield 20577), (29, .invokeinterface 51 969), (32, .iconst (-5)), (34, .if_icmp .eq 44), (37, .aload 0), (38, .iconst 6), (40, .invokeinterface 40 1288), (43, .return_), (44, .aload 0), (45, .aload 0), (46, .getfield 19475), (49, .getfield 14346), (52, .aload 0), (53, .getfield 19475), (56, .getfield 14352), (59, .aaload), (60, .putfield 19515), (63, .aload 0), (64, .getfield 19515), (67, .aload 0), (68, .getfield 19458), (71, .invokeinterface 52 1160), (74, .aload 0), (75, .getfield 19475), (78, .iconst 0), (79, .aload 0), (80, .getfield 19475), (83, .getfield 14352), (86, .invokeinterface 46 972), (89, .aload 0), (90, .getfield 19475), (93, .dup), (94, .getfield 14352), (97, .iconst 1), (98, .iadd), (99, .putfield 14352), (102, .return_)]
/-- JobText$Reader.tellKind(I)V -/
def zc_54 : List (Nat × Instr) := [(0, .aload 0), (1, .getfield 19515), (4, .iload 1), (5, .putfield 17416), (8, .aload 0), (9, .getstatic 3), (12, .iload 1), (13, .iaload), (14, .putfield 19528), (17, .return_)]
/-- JobText$Reader.kindOf(I)I -/
def zc_55 : List (Nat × Instr) := [(0, .iconst 1), (1, .istore 1), (2, .iload 1), (3, .iconst 8), (5, .if_icmp .ge 26), (8, .iload 0), (9, .iconst 1), (10, .iconst 21), (12, .iload 1), (13, .iadd), (14, .ishl), (15, .if_icmp .ne 20), (18, .iload 1), (19, .ireturn), (20, .iinc 1 1), (23, .goto 2), (26, .iconst 8), (28, .ireturn)]
/-- JobText$Operator.addInput(LJobText$Words;)V -/
def zc_56 : List (Nat × Instr) := [(0, .aload 0), (1, .getfield 17480), (4, .iconst 4), (5, .if_icmp .ge 67), (8, .aload 0), (9, .getfield 17474), (12, .aload 0), (13, .getfield 17480), (16, .aaload), (17, .astore 2), (18, .aload 2), (19, .aload 1), (20, .getfield 20577), (23, .putfield 13313), (26, .aload 2), (27, .aload 1), (28, .getfield 20560), (31, .putfield 13320), (34, .aload 2), (35, .jsr_w 0), (36, .putfield 13329), (39, .aload 2), (40, .iconst (-5)), (42, .putfield 13336), (45, .aload 2), (46, .iconst (-5)), (48, .putfield 13344), (51, .aload 2), (52, .iconst (-5)), (54, .putfield 13352), (57, .aload 0), (58, .dup), (59, .getfield 17480), (62, .iconst 1), (63, .iadd), (64, .putfield 17480), (67, .return_)]
/-- JobText$Reader.addInput()V -/
def zc_57 : List (Nat × Instr) := [(0, .aload 0), (1, .getfield 19515), (4, .getfield 17480), (7, .iconst 4), (8, .if_icmp .lt 19), (11, .aload 0), (12, .iconst 3), (13, .invokeinterface 40 1288), (16, .goto 30), (19, .aload 0), (20, .getfield 19515), (23, .aload 0), (24, .getfield 19458), (27, .invokeinterface 56 1160), (30, .return_)]
/-- JobText$Operator.tellInputSide(LJobText$Words;)V -/
def zc_58 : List (Nat × Instr) := [(0, .aload 0), (1, .getfield 17480), (4, .ifCond .le 43), (7, .aload 0), (8, .getfield 17474), (11, .aload 0), (12, .getfield 17480), (15, .iconst 1), (16, .isub), (17, .aaload), (18, .aload 1), (19, .getfield 20577), (22, .putfield 13329), (25, .aload 0), (26, .getfield 17474), (29, .aload 0), (30, .getfield 17480), (33, .iconst 1), (34, .isub), (35, .aaload), (36, .aload 1), (37, .getfield 20560), (40, .putfield 13336), (43, .return_)]
/-- JobText$Reader.goOnWithOperator()V -/
def zc_59 : List (Nat × Instr) := [(0, .aload 0), (1, .getfield 19480), (4, .tableswitch 143 10 15 #[44, 62, 75, 84, 121, 130]), (44, .aload 0), (45, .invokeinterface 53 1284), (48, .aload 0), (49, .iconst 0), (50, .invokeinterface 54 1288), (53, .aload 0), (54, .iconst 27), (56, .putfield 19480), (59, .goto 160), (62, .aload 0), (63, .invokeinterface 53 1284), (66, .aload 0), (67, .iconst 12), (69, .putfield 19480), (72, .goto 160), (75, .aload 0), (76, .iconst 13), (78, .putfield 19480), (81, .goto 160), (84, .aload 0), (85, .aload 0), (86, .getfield 19458), (89, .getfield 20544), (92, .invokeinterface 55 5), (95, .invokeinterface 54 1288), (98, .aload 0), (99, .getfield 19515), (102, .aload 0), (103, .getfield 19458), (106, .getfield 20560), (109, .putfield 17528), (112, .aload 0), (113, .iconst 14), (115, .putfield 19480), (118, .goto 160), (121, .aload 0), (122, .iconst 15), (124, .putfield 19480), (127, .goto 160), (130, .aload 0), (131, .invokeinterface 57 1284), (134, .aload 0), (135, .iconst 25), (137, .putfield 19480), (140, .goto 160), (143, .aload 0), (144, .getfield 19515), (147, .aload 0), (148, .getfield 19458), (151, .invokeinterface 58 1160), (154, .aload 0), (155, .iconst 26), (157, .putfield 19480), (160, .return_)]
/-- JobText$Reader.boundedNumber(II)I -/
def zc_60 : List (Nat × Instr) := [(0, .aload 0), (1, .getfield 19458), (4, .getfield 20568), (7, .iload 1), (8, .if_icmp .lt 22), (11, .aload 0), (12, .getfield 19458), (15, .getfield 20568), (18, .iload 2), (19, .if_icmp .le 27), (22, .aload 0), (23, .iconst 2), (24, .invokeinterface 40 1288), (27, .aload 0), (28, .getfield 19458), (31, .getfield 20568), (34, .ireturn)]
/-- JobText$Operator.sideOf(J)I -/
def zc_61 : List (Nat × Instr) := [(0, .iconst 0), (1, .istore 3), (2, .iload 3), (3, .aload 0), (4, .getfield 17496), (7, .if_icmp .ge 29), (10, .aload 0), (11, .getfield 17490), (14, .iload 3), (15, .laload), (16, .lload 1), (17, .lcmp), (18, .ifCond .ne 23), (21, .iload 3), (22, .ireturn), (23, .iinc 3 1), (26, .goto 2), (29, .iconst (-5)), (31, .ireturn)]
/-- JobText$Reader.addSide()V -/
def zc_62 : List (Nat × Instr) := [(0, .aload 0), (1, .getfield 19515), (4, .getfield 17496), (7, .iconst 3), (8, .if_icmp .lt 19), (11, .aload 0), (12, .iconst 3), (13, .invokeinterface 40 1288), (16, .goto 82), (19, .aload 0), (20, .getfield 19515), (23, .aload 0), (24, .getfield 19458), (27, .getfield 20577), (30, .invokeinterface 61 1161), (33, .iconst (-5)), (35, .if_icmp .eq 47), (38, .aload 0), (39, .iconst 6), (41, .invokeinterface 40 1288), (44, .goto 82), (47, .aload 0), (48, .getfield 19515), (51, .getfield 17490), (54, .aload 0), (55, .getfield 19515), (58, .getfield 17496), (61, .aload 0), (62, .getfield 19458), (65, .getfield 20577), (68, .lastore), (69, .aload 0), (70, .getfield 19515), (73, .dup), (74, .getfield 17496), (77, .iconst 1), (78, .iadd), (79, .putfield 17496), (82, .return_)]
/-- JobText$Reader.goOnWithProperty()V -/
def zc_63 : List (Nat × Instr) := [(0, .aload 0), (1, .getfield 19480), (4, .tableswitch 198 17 23 #[48, 71, 94, 118, 127, 151, 174]), (48, .aload 0), (49, .getfield 19515), (52, .aload 0), (53, .iconst 1), (54, .iconst 64), (56, .invokeinterface 60 1293), (59, .putfield 17424), (62, .aload 0), (63, .iconst 27), (65, .putfield 19480), (68, .goto 208), (71, .aload 0), (72, .getfield 19515), (75, .aload 0), (76, .iconst 1), (77, .iconst 99999), (79, .invokeinterface 60 1293), (82, .putfield 17432), (85, .aload 0), (86, .iconst 27), (88, .putfield 19480), (91, .goto 208), (94, .aload 0), (95, .getfield 19515), (98, .aload 0), (99, .iconst 0), (100, .iconst 999), (103, .invokeinterface 60 1293), (106, .putfield 17440), (109, .aload 0), (110, .iconst 20), (112, .putfield 19480), (115, .goto 208), (118, .aload 0), (119, .iconst 21), (121, .putfield 19480), (124, .goto 208), (127, .aload 0), (128, .getfield 19515), (131, .aload 0), (132, .iconst 1), (133, .iconst 999), (136, .invokeinterface 60 1293), (139, .putfield 17448), (142, .aload 0), (143, .iconst 27), (145, .putfield 19480), (148, .goto 208), (151, .aload 0), (152, .getfield 19515), (155, .aload 0), (156, .getfield 19458), (159, .getfield 20577), (162, .putfield 17457), (165, .aload 0), (166, .iconst 27), (168, .putfield 19480), (171, .goto 208), (174, .aload 0), (175, .getfield 19515), (178, .aload 0), (179, .iconst 1), (180, .iconst 9999), (183, .invokeinterface 60 1293), (186, .putfield 17464), (189, .aload 0), (190, .iconst 27), (192, .putfield 19480), (195, .goto 208), (198, .aload 0), (199, .invokeinterface 62 1284), (202, .aload 0), (203, .iconst 28), (205, .putfield 19480), (208, .return_)]
/-- JobText$Reader.propertyState(I)I -/
def zc_64 : List (Nat × Instr) := [(0, .iload 0), (1, .lookupswitch 67 #[(65536, 52), (131072, 55), (262144, 58), (524288, 61), (1048576, 64)]), (52, .iconst 17), (54, .ireturn), (55, .iconst 18), (57, .ireturn), (58, .iconst 19), (60, .ireturn), (61, .iconst 22), (63, .ireturn), (64, .iconst 23), (66, .ireturn), (67, .iconst 24), (69, .ireturn)]
/-- JobText$Reader.goOnBehind()V -/
def zc_65 : List (Nat × Instr) := [(0, .aload 0), (1, .getfield 19458), (4, .getfield 20544), (7, .lookupswitch 80 #[(4, 40), (8, 48), (32, 71)]), (40, .aload 0), (41, .iconst 0), (42, .putfield 19480), (45, .goto 112), (48, .aload 0), (49, .aload 0), (50, .getfield 19480), (53, .iconst 28), (55, .if_icmp .ne 63), (58, .iconst 24), (60, .goto 65), (63, .iconst 15), (65, .putfield 19480), (68, .goto 112), (71, .aload 0), (72, .iconst 16), (74, .putfield 19480), (77, .goto 112), (80, .aload 0), (81, .dup), (82, .getfield 19528), (85, .aload 0), (86, .getfield 19458), (89, .getfield 20544), (92, .iconst (-1)), (93, .ixor), (94, .iand), (95, .putfield 19528), (98, .aload 0), (99, .aload 0), (100, .getfield 19458), (103, .getfield 20544), (106, .invokeinterface 64 5), (109, .putfield 19480), (112, .return_)]
/-- JobText$Reader.meetToken()V -/
def zc_66 : List (Nat × Instr) := [(0, .getstatic 2), (3, .aload 0), (4, .getfield 19480), (7, .iaload), (8, .istore 1), (9, .aload 0), (10, .getfield 19480), (13, .iconst 25), (15, .if_icmp .lt 25), (18, .iload 1), (19, .aload 0), (20, .getfield 19528), (23, .ior), (24, .istore 1), (25, .iload 1), (26, .aload 0), (27, .getfield 19458), (30, .getfield 20544), (33, .iand), (34, .ifCond .ne 53), (37, .aload 0), (38, .iconst 1), (39, .invokeinterface 40 1288), (42, .aload 0), (43, .getfield 19466), (46, .iload 1), (47, .putfield 11288), (50, .goto 134), (53, .aload 0), (54, .getfield 19480), (57, .ifCond .ne 67), (60, .aload 0), (61, .invokeinterface 42 1284), (64, .goto 134), (67, .aload 0), (68, .getfield 19480), (71, .iconst 2), (72, .if_icmp .gt 82), (75, .aload 0), (76, .invokeinterface 44 1284), (79, .goto 134), (82, .aload 0), (83, .getfield 19480), (86, .iconst 9), (88, .if_icmp .gt 98), (91, .aload 0), (92, .invokeinterface 50 1284), (95, .goto 134), (98, .aload 0), (99, .getfield 19480), (102, .iconst 16), (104, .if_icmp .gt 114), (107, .aload 0), (108, .invokeinterface 59 1284), (111, .goto 134), (114, .aload 0), (115, .getfield 19480), (118, .iconst 25), (120, .if_icmp .ge 130), (123, .aload 0), (124, .invokeinterface 63 1284), (127, .goto 134), (130, .aload 0), (131, .invokeinterface 65 1284), (134, .return_)]
/-- JobText$Reader.readText(LJobText$Job;I)V -/
def zc_67 : List (Nat × Instr) := [(0, .aload 0), (1, .aload 1), (2, .putfield 19475), (5, .aload 0), (6, .getfield 19475), (9, .invokeinterface 22 964), (12, .aload 0), (13, .iconst 0), (14, .putfield 19488), (17, .aload 0), (18, .iconst 0), (19, .putfield 19480), (22, .aload 0), (23, .getfield 19458), (26, .aload 0), (27, .getfield 19475), (30, .iload 2), (31, .invokeinterface 24 1356), (34, .iconst 0), (35, .istore 3), (36, .iload 3), (37, .iconst 37231), (39, .if_icmp .ge 96), (42, .aload 0), (43, .getfield 19458), (46, .getfield 20528), (49, .ifCond .le 96), (52, .aload 0), (53, .getfield 19466), (56, .getfield 11264), (59, .ifCond .ne 96), (62, .aload 0), (63, .getfield 19458), (66, .invokeinterface 29 1348), (69, .aload 0), (70, .getfield 19466), (73, .getfield 11264), (76, .ifCond .ne 90), (79, .aload 0), (80, .getfield 19458), (83, .invokeinterface 39 1348), (86, .aload 0), (87, .invokeinterface 66 1284), (90, .iinc 3 1), (93, .goto 36), (96, .return_)]
/-- JobText$Judge.judgeInput(LJobText$Job;LJobText$Operator;LJobText$Input;)V -/
def zc_68 : List (Nat × Instr) := [(0, .aload 3), (1, .aload 1), (2, .aload 3), (3, .getfield 13313), (6, .invokeinterface 51 969), (9, .putfield 13344), (12, .aload 3), (13, .getfield 13344), (16, .iconst (-5)), (18, .if_icmp .ne 39), (21, .aload 0), (22, .getfield 15362), (25, .iconst 7), (27, .aload 2), (28, .getfield 17512), (31, .aload 3), (32, .getfield 13320), (35, .invokeinterface 26 784), (38, .return_), (39, .aload 1), (40, .getfield 14346), (43, .aload 3), (44, .getfield 13344), (47, .aaload), (48, .astore 4), (50, .aload 3), (51, .aload 3), (52, .getfield 13329), (55, .jsr_w 0), (56, .lcmp), (57, .ifCond .ne 65), (60, .iconst (-5)), (62, .goto 74), (65, .aload 4), (67, .aload 3), (68, .getfield 13329), (71, .invokeinterface 61 1161), (74, .putfield 13352), (77, .aload 3), (78, .getfield 13329), (81, .jsr_w 0), (82, .lcmp), (83, .ifCond .eq 115), (86, .aload 3), (87, .getfield 13352), (90, .iconst (-5)), (92, .if_icmp .ne 115), (95, .aload 0), (96, .getfield 15362), (99, .iconst 8), (101, .aload 2), (102, .getfield 17512), (105, .aload 3), (106, .getfield 13336), (109, .invokeinterface 26 784), (112, .goto 142), (115, .aload 4), (117, .getfield 17416), (120, .iconst 8), (122, .if_icmp .ne 142), (125, .aload 0), (126, .getfield 15362), (129, .iconst 9), (131, .aload 2), (132, .getfield 17512), (135, .aload 3), (136, .getfield 13320), (139, .invokeinterface 26 784), (142, .return_)]
/-- JobText$Operator.hasWrongInputCount()Z -/
def zc_69 : List (Nat × Instr) := [(0, .aload 0), (1, .getfield 17416), (4, .tableswitch 86 0 8 #[56, 86, 86, 86, 86, 58, 72, 86, 56]), (56, .iconst 0), (57, .jsr 0), (58, .aload 0), (59, .getfield 17480), (62, .iconst 2), (63, .if_icmp .eq 70), (66, .iconst 1), (67, .goto 71), (70, .iconst 0), (71, .jsr 0), (72, .aload 0), (73, .getfield 17480), (76, .iconst 2), (77, .if_icmp .ge 84), (80, .iconst 1), (81, .goto 85), (84, .iconst 0), (85, .jsr 0), (86, .aload 0), (87, .getfield 17480), (90, .iconst 1), (91, .if_icmp .eq 98), (94, .iconst 1), (95, .goto 99), (98, .iconst 0), (99, .jsr 0)]
/-- JobText$Judge.judgeOperator(LJobText$Job;LJobText$Operator;)V -/
def zc_70 : List (Nat × Instr) := [(0, .iconst 0), (1, .istore 3), (2, .iload 3), (3, .aload 2), (4, .getfield 17480), (7, .if_icmp .ge 38), (10, .aload 0), (11, .getfield 15362), (14, .getfield 11264), (17, .ifCond .ne 38), (20, .aload 0), (21, .aload 1), (22, .aload 2), (23, .aload 2), (24, .getfield 17474), (27, .iload 3), (28, .aaload), (29, .invokeinterface 68 1040), (32, .iinc 3 1), (35, .goto 2), (38, .aload 0), (39, .getfield 15362), (42, .getfield 11264), (45, .ifCond .ne 72), (48, .aload 2), (49, .invokeinterface 69 1157), (52, .ifCond .eq 72), (55, .aload 0), (56, .getfield 15362), (59, .iconst 10), (61, .aload 2), (62, .getfield 17512), (65, .aload 2), (66, .getfield 17528), (69, .invokeinterface 26 784), (72, .return_)]
/-- JobText$Judge.judgeLoop(LJobText$Job;LJobText$Pair;)V -/
def zc_71 : List (Nat × Instr) := [(0, .aload 2), (1, .aload 1), (2, .aload 2), (3, .getfield 18433), (6, .invokeinterface 51 969), (9, .putfield 18480), (12, .aload 2), (13, .aload 1), (14, .aload 2), (15, .getfield 18441), (18, .invokeinterface 51 969), (21, .putfield 18488), (24, .aload 2), (25, .getfield 18480), (28, .iconst (-5)), (30, .if_icmp .ne 53), (33, .aload 0), (34, .getfield 15362), (37, .iconst 7), (39, .aload 2), (40, .getfield 18456), (43, .aload 2), (44, .getfield 18464), (47, .invokeinterface 26 784), (50, .goto 153), (53, .aload 2), (54, .getfield 18488), (57, .iconst (-5)), (59, .if_icmp .ne 82), (62, .aload 0), (63, .getfield 15362), (66, .iconst 7), (68, .aload 2), (69, .getfield 18456), (72, .aload 2), (73, .getfield 18472), (76, .invokeinterface 26 784), (79, .goto 153), (82, .aload 1), (83, .getfield 14346), (86, .aload 2), (87, .getfield 18480), (90, .aaload), (91, .getfield 17416), (94, .iconst 8), (96, .if_icmp .ne 119), (99, .aload 0), (100, .getfield 15362), (103, .iconst 9), (105, .aload 2), (106, .getfield 18456), (109, .aload 2), (110, .getfield 18464), (113, .invokeinterface 26 784), (116, .goto 153), (119, .aload 1), (120, .getfield 14346), (123, .aload 2), (124, .getfield 18488), (127, .aaload), (128, .getfield 17416), (131, .iconst 6), (133, .if_icmp .eq 153), (136, .aload 0), (137, .getfield 15362), (140, .iconst 12), (142, .aload 2), (143, .getfield 18456), (146, .aload 2), (147, .getfield 18472), (150, .invokeinterface 26 784), (153, .return_)]
/-- JobText$Judge.comesFrom(II)Z -/
def zc_72 : List (Nat × Instr) := [(0, .aload 0), (1, .getfield 15370), (4, .iload 1), (5, .laload), (6, .iload 2), (7, .lushr), (8, .jsr_w 1), (9, .land), (10, .jsr_w 0), (11, .lcmp), (12, .ifCond .eq 19), (15, .iconst 1), (16, .goto 20), (19, .iconst 0), (20, .jsr 0)]
/-- JobText$Judge.findOrigins(LJobText$Job;)V -/
def zc_73 : List (Nat × Instr) := [(0, .iconst 0), (1, .istore 2), (2, .iload 2), (3, .aload 1), (4, .getfield 14352), (7, .if_icmp .ge 69), (10, .aload 1), (11, .getfield 14346), (14, .iload 2), (15, .aaload), (16, .astore 3), (17, .aload 0), (18, .getfield 15370), (21, .iload 2), (22, .jsr_w 0), (23, .lastore), (24, .iconst 0), (25, .istore 4), (27, .iload 4), (29, .aload 3), (30, .getfield 17480), (33, .if_icmp .ge 63), (36, .aload 0), (37, .getfield 15370), (40, .iload 2), (41, .dup2), (42, .laload), (43, .jsr_w 1), (44, .aload 3), (45, .getfield 17474), (48, .iload 4), (50, .aaload), (51, .getfield 13344), (54, .lshl), (55, .lor), (56, .lastore), (57, .iinc 4 1), (60, .goto 27), (63, .iinc 2 1), (66, .goto 2), (69, .iconst 0), (70, .istore 2), (71, .iload 2), (72, .aload 1), (73, .getfield 14352), (76, .if_icmp .ge 125), (79, .iconst 0), (80, .istore 3), (81, .iload 3), (82, .aload 1), (83, .getfield 14352), (86, .if_icmp .ge 119), (89, .aload 0), (90, .iload 3), (91, .iload 2), (92, .invokeinterface 72 1037), (95, .ifCond .eq 113), (98, .aload 0), (99, .getfield 15370), (102, .iload 3), (103, .dup2), (104, .laload), (105, .aload 0), (106, .getfield 15370), (109, .iload 2), (110, .laload), (111, .lor), (112, .lastore), (113, .iinc 3 1), (116, .goto 81), (119, .iinc 2 1), (122, .goto 71), (125, .return_)]
/-- JobText$Judge.judgeCycles(LJobText$Job;)V -/
def zc_74 : List (Nat × Instr) := [(0, .iconst 0), (1, .istore 2), (2, .iload 2), (3, .aload 1), (4, .getfield 14352), (7, .if_icmp .ge 62), (10, .aload 0), (11, .getfield 15362), (14, .getfield 11264), (17, .ifCond .ne 62), (20, .aload 0), (21, .iload 2), (22, .iload 2), (23, .invokeinterface 72 1037), (26, .ifCond .eq 56), (29, .aload 0), (30, .getfield 15362), (33, .iconst 13), (35, .aload 1), (36, .getfield 14346), (39, .iload 2), (40, .aaload), (41, .getfield 17512), (44, .aload 1), (45, .getfield 14346), (48, .iload 2), (49, .aaload), (50, .getfield 17520), (53, .invokeinterface 26 784), (56, .iinc 2 1), (59, .goto 2), (62, .return_)]
/-- JobText$Judge.judgeLoopBack(LJobText$Pair;)V -/
def zc_75 : List (Nat × Instr) := [(0, .aload 1), (1, .getfield 18480), (4, .istore 2), (5, .aload 1), (6, .getfield 18488), (9, .istore 3), (10, .iload 2), (11, .iload 3), (12, .if_icmp .eq 41), (15, .aload 0), (16, .iload 2), (17, .iload 3), (18, .invokeinterface 72 1037), (21, .ifCond .ne 41), (24, .aload 0), (25, .getfield 15362), (28, .iconst 14), (30, .aload 1), (31, .getfield 18456), (34, .aload 1), (35, .getfield 18464), (38, .invokeinterface 26 784), (41, .return_)]
/-- JobText$Layout.inputsStand(LJobText$Operator;)Z -/
def zc_76 : List (Nat × Instr) := [(0, .iconst 0), (1, .istore 2), (2, .iload 2), (3, .aload 1), (4, .getfield 17480), (7, .if_icmp .ge 37), (10, .aload 0), (11, .getfield 16394), (14, .aload 1), (15, .getfield 17474), (18, .iload 2), (19, .aaload), (20, .getfield 13344), (23, .iaload), (24, .iconst (-5)), (26, .if_icmp .ne 31), (29, .iconst 0), (30, .jsr 0), (31, .iinc 2 1), (34, .goto 2), (37, .iconst 1), (38, .jsr 0)]
/-- JobText$Layout.firstReady(LJobText$Job;)I -/
def zc_77 : List (Nat × Instr) := [(0, .iconst 0), (1, .istore 2), (2, .iload 2), (3, .aload 1), (4, .getfield 14352), (7, .if_icmp .ge 42), (10, .aload 0), (11, .getfield 16394), (14, .iload 2), (15, .iaload), (16, .iconst (-5)), (18, .if_icmp .ne 36), (21, .aload 0), (22, .aload 1), (23, .getfield 14346), (26, .iload 2), (27, .aaload), (28, .invokeinterface 76 1097), (31, .ifCond .eq 36), (34, .iload 2), (35, .ireturn), (36, .iinc 2 1), (39, .goto 2), (42, .iconst (-5)), (44, .ireturn)]
/-- JobText$Layout.levelOf(LJobText$Operator;)I -/
def zc_78 : List (Nat × Instr) := [(0, .iconst (-1)), (1, .istore 2), (2, .iconst 0), (3, .istore 3), (4, .iload 3), (5, .aload 1), (6, .getfield 17480), (9, .if_icmp .ge 37), (12, .iload 2), (13, .aload 0), (14, .getfield 16402), (17, .aload 1), (18, .getfield 17474), (21, .iload 3), (22, .aaload), (23, .getfield 13344), (26, .iaload), (27, .drem), (30, .istore 2), (31, .iinc 3 1), (34, .goto 4), (37, .iload 2), (38, .iconst 1), (39, .iadd), (40, .ireturn)]
/-- JobText$Layout.commonKey(LJobText$Operator;)J -/
def zc_79 : List (Nat × Instr) := [(0, .aload 1), (1, .getfield 17480), (4, .ifCond .ne 9), (7, .jsr_w 0), (8, .lreturn), (9, .aload 0), (10, .getfield 16410), (13, .aload 1), (14, .getfield 17474), (17, .iconst 0), (18, .aaload), (19, .getfield 13344), (22, .laload), (23, .lstore 2), (24, .iconst 1), (25, .istore 4), (27, .iload 4), (29, .aload 1), (30, .getfield 17480), (33, .if_icmp .ge 64), (36, .aload 0), (37, .getfield 16410), (40, .aload 1), (41, .getfield 17474), (44, .iload 4), (46, .aaload), (47, .getfield 13344), (50, .laload), (51, .lload 2), (52, .lcmp), (53, .ifCond .eq 58), (56, .jsr_w 0), (57, .lreturn), (58, .iinc 4 1), (61, .goto 27), (64, .lload 2), (65, .lreturn)]
/-- JobText$Layout.keyOf(LJobText$Operator;)J -/
def zc_80 : List (Nat × Instr) := [(0, .aload 1), (1, .getfield 17457), (4, .jsr_w 0), (5, .lcmp), (6, .ifCond .eq 14), (9, .aload 1), (10, .getfield 17457), (13, .lreturn), (14, .aload 1), (15, .getfield 17416), (18, .tableswitch 88 2 7 #[56, 88, 56, 56, 82, 56]), (56, .aload 1), (57, .getfield 17480), (60, .ifCond .le 80), (63, .aload 0), (64, .getfield 16410), (67, .aload 1), (68, .getfield 17474), (71, .iconst 0), (72, .aaload), (73, .getfield 13344), (76, .laload), (77, .goto 81), (80, .jsr_w 0), (81, .lreturn), (82, .aload 0), (83, .aload 1), (84, .invokeinterface 79 1098), (87, .lreturn), (88, .jsr_w 0), (89, .lreturn)]
/-- JobText$Layout.arrange(LJobText$Job;)V -/
def zc_81 : List (Nat × Instr) := [(0, .aload 0), (1, .iconst 0), (2, .putfield 16472), (5, .iconst 0), (6, .istore 2), (7, .iload 2), (8, .aload 1), (9, .getfield 14352), (12, .if_icmp .ge 29), (15, .aload 0), (16, .getfield 16394), (19, .iload 2), (20, .iconst (-5)), (22, .iastore), (23, .iinc 2 1), (26, .goto 7), (29, .iconst 0), (30, .istore 2), (31, .iload 2), (32, .aload 1), (33, .getfield 14352), (36, .if_icmp .ge 123), (39, .aload 0), (40, .aload 1), (41, .invokeinterface 77 1097), (44, .istore 3), (45, .iload 3), (46, .iconst (-5)), (48, .if_icmp .ne 52), (51, .return_), (52, .aload 0), (53, .getfield 16386), (56, .iload 2), (57, .iload 3), (58, .iastore), (59, .aload 0), (60, .getfield 16394), (63, .iload 3), (64, .iload 2), (65, .iastore), (66, .aload 0), (67, .getfield 16402), (70, .iload 3), (71, .aload 0), (72, .aload 1), (73, .getfield 14346), (76, .iload 3), (77, .aaload), (78, .invokeinterface 78 1097), (81, .iastore), (82, .aload 0), (83, .aload 0), (84, .getfield 16472), (87, .aload 0), (88, .getfield 16402), (91, .iload 3), (92, .iaload), (93, .iconst 1), (94, .iadd), (95, .drem), (98, .putfield 16472), (101, .aload 0), (102, .getfield 16410), (105, .iload 3), (106, .aload 0), (107, .aload 1), (108, .getfield 14346), (111, .iload 3), (112, .aaload), (113, .invokeinterface 80 1098), (116, .lastore), (117, .iinc 2 1), (120, .goto 31), (123, .return_)]
/-- JobText$Operator.wantsKeyedInputs()Z -/
def zc_82 : List (Nat × Instr) := [(0, .aload 0), (1, .getfield 17416), (4, .iconst 4), (5, .if_icmp .eq 25), (8, .aload 0), (9, .getfield 17416), (12, .iconst 5), (13, .if_icmp .eq 25), (16, .aload 0), (17, .getfield 17416), (20, .iconst 7), (22, .if_icmp .ne 29), (25, .iconst 1), (26, .goto 30), (29, .iconst 0), (30, .jsr 0)]
/-- JobText$Judge.judgeKeys(LJobText$Job;)V -/
def zc_83 : List (Nat × Instr) := [(0, .iconst 0), (1, .istore 2), (2, .iload 2), (3, .aload 1), (4, .getfield 14352), (7, .if_icmp .ge 78), (10, .aload 0), (11, .getfield 15362), (14, .getfield 11264), (17, .ifCond .ne 78), (20, .aload 1), (21, .getfield 14346), (24, .aload 1), (25, .getfield 14442), (28, .getfield 16386), (31, .iload 2), (32, .iaload), (33, .aaload), (34, .astore 3), (35, .aload 3), (36, .invokeinterface 82 1157), (39, .ifCond .eq 72), (42, .aload 1), (43, .getfield 14442), (46, .aload 3), (47, .invokeinterface 79 1098), (50, .jsr_w 0), (51, .lcmp), (52, .ifCond .ne 72), (55, .aload 0), (56, .getfield 15362), (59, .iconst 15), (61, .aload 3), (62, .getfield 17512), (65, .aload 3), (66, .getfield 17528), (69, .invokeinterface 26 784), (72, .iinc 2 1), (75, .goto 2), (78, .return_)]
/-- JobText$Judge.judgeText(LJobText$Job;)V -/
def zc_84 : List (Nat × Instr) := [(0, .iconst 0), (1, .istore 2), (2, .iload 2), (3, .aload 1), (4, .getfield 14352), (7, .if_icmp .ge 37), (10, .aload 0), (11, .getfield 15362), (14, .getfield 11264), (17, .ifCond .ne 37), (20, .aload 0), (21, .aload 1), (22, .aload 1), (23, .getfield 14346), (26, .iload 2), (27, .aaload), (28, .invokeinterface 70 1036), (31, .iinc 2 1), (34, .goto 2), (37, .iconst 0), (38, .istore 2), (39, .iload 2), (40, .aload 1), (41, .getfield 14384), (44, .if_icmp .ge 74), (47, .aload 0), (48, .getfield 15362), (51, .getfield 11264), (54, .ifCond .ne 74), (57, .aload 0), (58, .aload 1), (59, .aload 1), (60, .getfield 14378), (63, .iload 2), (64, .aaload), (65, .invokeinterface 71 1036), (68, .iinc 2 1), (71, .goto 39), (74, .aload 0), (75, .getfield 15362), (78, .getfield 11264), (81, .ifCond .ne 94), (84, .aload 0), (85, .aload 1), (86, .invokeinterface 73 1032), (89, .aload 0), (90, .aload 1), (91, .invokeinterface 74 1032), (94, .iconst 0), (95, .istore 2), (96, .iload 2), (97, .aload 1), (98, .getfield 14384), (101, .if_icmp .ge 130), (104, .aload 0), (105, .getfield 15362), (108, .getfield 11264), (111, .ifCond .ne 130), (114, .aload 0), (115, .aload 1), (116, .getfield 14378), (119, .iload 2), (120, .aaload), (121, .invokeinterface 75 1032), (124, .iinc 2 1), (127, .goto 96), (130, .aload 0), (131, .getfield 15362), (134, .getfield 11264), (137, .ifCond .ne 153), (140, .aload 1), (141, .getfield 14442), (144, .aload 1), (145, .invokeinterface 81 1096), (148, .aload 0), (149, .aload 1), (150, .invokeinterface 83 1032), (153, .return_)]
/-- JobText.numberOf(J)I -/
def zc_85 : List (Nat × Instr) := [(0, .iconst 0), (1, .istore 3), (2, .iload 3), (3, .aload 0), (4, .getfield 21576), (7, .if_icmp .ge 29), (10, .aload 0), (11, .getfield 21570), (14, .iload 3), (15, .laload), (16, .lload 1), (17, .lcmp), (18, .ifCond .ne 23), (21, .iload 3), (22, .ireturn), (23, .iinc 3 1), (26, .goto 2), (29, .iconst (-5)), (31, .ireturn)]
/-- JobText.newNames(LJobText$Job;)I -/
def zc_86 : List (Nat × Instr) := [(0, .iconst 0), (1, .istore 2), (2, .iconst 0), (3, .istore 3), (4, .iload 3), (5, .aload 1), (6, .getfield 14352), (9, .if_icmp .ge 39), (12, .aload 0), (13, .aload 1), (14, .getfield 14346), (17, .iload 3), (18, .aaload), (19, .getfield 17409), (22, .invokeinterface 85 1417), (25, .iconst (-5)), (27, .if_icmp .ne 33), (30, .iinc 2 1), (33, .iinc 3 1), (36, .goto 4), (39, .iload 2), (40, .ireturn)]
/-- JobText.giveNumbers(LJobText$Job;)V -/
def zc_87 : List (Nat × Instr) := [(0, .iconst 0), (1, .istore 2), (2, .iload 2), (3, .aload 1), (4, .getfield 14352), (7, .if_icmp .ge 83), (10, .aload 1), (11, .getfield 14346), (14, .iload 2), (15, .aaload), (16, .astore 3), (17, .aload 0), (18, .aload 3), (19, .getfield 17409), (22, .invokeinterface 85 1417), (25, .istore 4), (27, .iload 4), (29, .iconst (-5)), (31, .if_icmp .ne 71), (34, .aload 0), (35, .getfield 21576), (38, .iconst 200), (41, .if_icmp .ge 71), (44, .aload 0), (45, .getfield 21576), (48, .istore 4), (50, .aload 0), (51, .getfield 21570), (54, .iload 4), (56, .aload 3), (57, .getfield 17409), (60, .lastore), (61, .aload 0), (62, .dup), (63, .getfield 21576), (66, .iconst 1), (67, .iadd), (68, .putfield 21576), (71, .aload 3), (72, .iload 4), (74, .putfield 17504), (77, .iinc 2 1), (80, .goto 2), (83, .return_)]
/-- JobText$Flow.commonDivisor(JJ)J -/
def zc_88 : List (Nat × Instr) := [(0, .lload 0), (1, .lstore 4), (3, .lload 2), (4, .lstore 6), (6, .iconst 0), (7, .istore 8), (9, .iload 8), (11, .iconst 200), (14, .if_icmp .ge 45), (17, .lload 6), (19, .jsr_w 0), (20, .lcmp), (21, .ifCond .eq 45), (24, .lload 4), (26, .lload 6), (28, .lrem), (29, .lstore 9), (31, .lload 6), (33, .lstore 4), (35, .lload 9), (37, .lstore 6), (39, .iinc 8 1), (42, .goto 9), (45, .lload 4), (47, .lreturn)]
/-- JobText$Flow.put(JJ)V -/
def zc_89 : List (Nat × Instr) := [(0, .lload 1), (1, .lload 3), (2, .invokeinterface 88 10), (5, .lstore 5), (7, .lload 5), (9, .jsr_w 0), (10, .lcmp), (11, .ifCond .le 30), (14, .aload 0), (15, .lload 1), (16, .lload 5), (18, .ldiv), (19, .putfield 12289), (22, .aload 0), (23, .lload 3), (24, .lload 5), (26, .ldiv), (27, .putfield 12297), (30, .aload 0), (31, .aload 0), (32, .getfield 12289), (35, .jsr_w 1000000000), (38, .lcmp), (39, .ifCond .gt 53), (42, .aload 0), (43, .getfield 12297), (46, .jsr_w 1000000000), (49, .lcmp), (50, .ifCond .le 57), (53, .iconst 1), (54, .goto 58), (57, .iconst 0), (58, .putfield 12309), (61, .return_)]
/-- JobText$Layout.flowOf(LJobText$Input;)LJobText$Flow; -/
def zc_90 : List (Nat × Instr) := [(0, .aload 1), (1, .getfield 13352), (4, .iconst (-5)), (6, .if_icmp .ne 21), (9, .aload 0), (10, .getfield 16418), (13, .aload 1), (14, .getfield 13344), (17, .aaload), (18, .goto 30), (21, .aload 0), (22, .getfield 16426), (25, .aload 1), (26, .getfield 13344), (29, .aaload), (30, .areturn)]
/-- JobText$Flow.become(LJobText$Flow;)V -/
def zc_91 : List (Nat × Instr) := [(0, .aload 0), (1, .aload 1), (2, .getfield 12289), (5, .putfield 12289), (8, .aload 0), (9, .aload 1), (10, .getfield 12297), (13, .putfield 12297), (16, .aload 0), (17, .aload 1), (18, .getfield 12309), (21, .putfield 12309), (24, .return_)]
/-- JobText$Flow.lessen(LJobText$Flow;)V -/
def zc_92 : List (Nat × Instr) := [(0, .aload 0), (1, .getfield 12309), (4, .ifCond .ne 14), (7, .aload 1), (8, .getfield 12309), (11, .ifCond .eq 22), (14, .aload 0), (15, .iconst 1), (16, .putfield 12309), (19, .goto 49), (22, .aload 1), (23, .getfield 12289), (26, .aload 0), (27, .getfield 12297), (30, .lmul), (31, .aload 0), (32, .getfield 12289), (35, .aload 1), (36, .getfield 12297), (39, .lmul), (40, .lcmp), (41, .ifCond .ge 49), (44, .aload 0), (45, .aload 1), (46, .invokeinterface 91 840), (49, .return_)]
/-- JobText$Flow.add(LJobText$Flow;)V -/
def zc_93 : List (Nat × Instr) := [(0, .aload 0), (1, .getfield 12309), (4, .ifCond .ne 14), (7, .aload 1), (8, .getfield 12309), (11, .ifCond .eq 22), (14, .aload 0), (15, .iconst 1), (16, .putfield 12309), (19, .goto 54), (22, .aload 0), (23, .aload 0), (24, .getfield 12289), (27, .aload 1), (28, .getfield 12297), (31, .lmul), (32, .aload 1), (33, .getfield 12289), (36, .aload 0), (37, .getfield 12297), (40, .lmul), (41, .ladd), (42, .aload 0), (43, .getfield 12297), (46, .aload 1), (47, .getfield 12297), (50, .lmul), (51, .invokeinterface 89 844), (54, .return_)]
/-- JobText$Layout.findWhatComes(LJobText$Operator;)V -/
def zc_94 : List (Nat × Instr) := [(0, .aload 1), (1, .getfield 17416), (4, .ifCond .eq 14), (7, .aload 1), (8, .getfield 17480), (11, .ifCond .ne 39), (14, .aload 0), (15, .getfield 16434), (18, .aload 1), (19, .getfield 17432), (22, .ifCond .ne 29), (25, .jsr_w 1), (26, .goto 34), (29, .aload 1), (30, .getfield 17432), (33, .i2l), (34, .jsr_w 1), (35, .invokeinterface 89 844), (38, .return_), (39, .aload 0), (40, .getfield 16434), (43, .aload 0), (44, .aload 1), (45, .getfield 17474), (48, .iconst 0), (49, .aaload), (50, .invokeinterface 90 1099), (53, .invokeinterface 91 840), (56, .iconst 1), (57, .istore 2), (58, .iload 2), (59, .aload 1), (60, .getfield 17480), (63, .if_icmp .ge 117), (66, .aload 1), (67, .getfield 17416), (70, .iconst 5), (71, .if_icmp .ne 94), (74, .aload 0), (75, .getfield 16434), (78, .aload 0), (79, .aload 1), (80, .getfield 17474), (83, .iload 2), (84, .aaload), (85, .invokeinterface 90 1099), (88, .invokeinterface 92 840), (91, .goto 111), (94, .aload 0), (95, .getfield 16434), (98, .aload 0), (99, .aload 1), (100, .getfield 17474), (103, .iload 2), (104, .aaload), (105, .invokeinterface 90 1099), (108, .invokeinterface 93 840), (111, .iinc 2 1), (114, .goto 58), (117, .return_)]
/-- JobText$Flow.multiply(II)V -/
def zc_95 : List (Nat × Instr) := [(0, .aload 0), (1, .getfield 12309), (4, .ifCond .ne 25), (7, .aload 0), (8, .aload 0), (9, .getfield 12289), (12, .iload 1), (13, .i2l), (14, .lmul), (15, .aload 0), (16, .getfield 12297), (19, .iload 2), (20, .i2l), (21, .lmul), (22, .invokeinterface 89 844), (25, .return_)]
/-- JobText$Layout.reckonFlow(LJobText$Operator;I)V -/
def zc_96 : List (Nat × Instr) := [(0, .aload 0), (1, .aload 1), (2, .invokeinterface 94 1096), (5, .aload 0), (6, .getfield 16418), (9, .iload 2), (10, .aaload), (11, .aload 0), (12, .getfield 16434), (15, .invokeinterface 91 840), (18, .aload 0), (19, .getfield 16426), (22, .iload 2), (23, .aaload), (24, .aload 0), (25, .getfield 16434), (28, .invokeinterface 91 840), (31, .aload 1), (32, .getfield 17448), (35, .ifCond .ne 42), (38, .iconst 1), (39, .goto 46), (42, .aload 1), (43, .getfield 17440), (46, .istore 3), (47, .aload 1), (48, .getfield 17448), (51, .ifCond .ne 58), (54, .iconst 1), (55, .goto 62), (58, .aload 1), (59, .getfield 17448), (62, .istore 4), (64, .aload 0), (65, .getfield 16418), (68, .iload 2), (69, .aaload), (70, .iload 3), (71, .iload 4), (73, .invokeinterface 95 844), (76, .aload 0), (77, .getfield 16426), (80, .iload 2), (81, .aaload), (82, .iload 4), (84, .iload 3), (85, .isub), (86, .iconst 0), (87, .drem), (90, .iload 4), (92, .invokeinterface 95 844), (95, .return_)]
/-- JobText$Layout.countReaders(LJobText$Job;)V -/
def zc_97 : List (Nat × Instr) := [(0, .iconst 0), (1, .istore 2), (2, .iload 2), (3, .aload 1), (4, .getfield 14352), (7, .if_icmp .ge 30), (10, .aload 0), (11, .getfield 16442), (14, .iload 2), (15, .iconst 0), (16, .iastore), (17, .aload 0), (18, .getfield 16450), (21, .iload 2), (22, .iconst 0), (23, .iastore), (24, .iinc 2 1), (27, .goto 2), (30, .iconst 0), (31, .istore 2), (32, .iload 2), (33, .aload 1), (34, .getfield 14352), (37, .if_icmp .ge 122), (40, .aload 1), (41, .getfield 14346), (44, .iload 2), (45, .aaload), (46, .astore 3), (47, .iconst 0), (48, .istore 4), (50, .iload 4), (52, .aload 3), (53, .getfield 17480), (56, .if_icmp .ge 116), (59, .aload 3), (60, .getfield 17474), (63, .iload 4), (65, .aaload), (66, .astore 5), (68, .aload 0), (69, .getfield 16442), (72, .aload 5), (74, .getfield 13344), (77, .dup2), (78, .iaload), (79, .iconst 1), (80, .iadd), (81, .iastore), (82, .aload 0), (83, .getfield 16450), (86, .aload 5), (88, .getfield 13344), (91, .dup2), (92, .iaload), (93, .aload 5), (95, .getfield 13352), (98, .iconst (-5)), (100, .if_icmp .ne 107), (103, .iconst 1), (104, .goto 108), (107, .iconst 0), (108, .iadd), (109, .iastore), (110, .iinc 4 1), (113, .goto 50), (116, .iinc 2 1), (119, .goto 32), (122, .iconst 0), (123, .istore 2), (124, .iload 2), (125, .aload 1), (126, .getfield 14384), (129, .if_icmp .ge 174), (132, .aload 0), (133, .getfield 16442), (136, .aload 1), (137, .getfield 14378), (140, .iload 2), (141, .aaload), (142, .getfield 18480), (145, .dup2), (146, .iaload), (147, .iconst 1), (148, .iadd), (149, .iastore), (150, .aload 0), (151, .getfield 16450), (154, .aload 1), (155, .getfield 14378), (158, .iload 2), (159, .aaload), (160, .getfield 18480), (163, .dup2), (164, .iaload), (165, .iconst 1), (166, .iadd), (167, .iastore), (168, .iinc 2 1), (171, .goto 124), (174, .return_)]
/-- JobText$Operator.parOrOne()I -/
def zc_98 : List (Nat × Instr) := [(0, .aload 0), (1, .getfield 17424), (4, .ifCond .ne 11), (7, .iconst 1), (8, .goto 15), (11, .aload 0), (12, .getfield 17424), (15, .ireturn)]
/-- JobText$Layout.isFused(LJobText$Job;LJobText$Operator;)Z -/
def zc_99 : List (Nat × Instr) := [(0, .aload 2), (1, .getfield 17416), (4, .iconst 1), (5, .if_icmp .eq 33), (8, .aload 2), (9, .getfield 17416), (12, .iconst 2), (13, .if_icmp .eq 33), (16, .aload 2), (17, .getfield 17416), (20, .iconst 3), (21, .if_icmp .eq 33), (24, .aload 2), (25, .getfield 17416), (28, .iconst 8), (30, .if_icmp .ne 37), (33, .iconst 1), (34, .goto 38), (37, .iconst 0), (38, .istore 3), (39, .iload 3), (40, .ifCond .eq 60), (43, .aload 2), (44, .getfield 17457), (47, .jsr_w 0), (48, .lcmp), (49, .ifCond .ne 60), (52, .aload 2), (53, .getfield 17480), (56, .iconst 1), (57, .if_icmp .eq 62), (60, .iconst 0), (61, .jsr 0), (62, .aload 2), (63, .getfield 17474), (66, .iconst 0), (67, .aaload), (68, .astore 4), (70, .aload 4), (72, .getfield 13352), (75, .iconst (-5)), (77, .if_icmp .ne 118), (80, .aload 0), (81, .getfield 16450), (84, .aload 4), (86, .getfield 13344), (89, .iaload), (90, .iconst 1), (91, .if_icmp .ne 118), (94, .aload 1), (95, .getfield 14346), (98, .aload 4), (100, .getfield 13344), (103, .aaload), (104, .invokeinterface 98 1157), (107, .aload 2), (108, .invokeinterface 98 1157), (111, .if_icmp .ne 118), (114, .iconst 1), (115, .goto 119), (118, .iconst 0), (119, .jsr 0)]
/-- JobText$Layout.findChains(LJobText$Job;)V -/
def zc_100 : List (Nat × Instr) := [(0, .aload 0), (1, .iconst 0), (2, .putfield 16480), (5, .aload 0), (6, .iconst 0), (7, .putfield 16488), (10, .iconst 0), (11, .istore 2), (12, .iload 2), (13, .aload 1), (14, .getfield 14352), (17, .if_icmp .ge 121), (20, .aload 0), (21, .getfield 16386), (24, .iload 2), (25, .iaload), (26, .istore 3), (27, .aload 1), (28, .getfield 14346), (31, .iload 3), (32, .aaload), (33, .astore 4), (35, .aload 0), (36, .getfield 16458), (39, .iload 3), (40, .aload 0), (41, .aload 1), (42, .aload 4), (44, .invokeinterface 99 1101), (47, .bastore), (48, .aload 0), (49, .getfield 16458), (52, .iload 3), (53, .baload), (54, .ifCond .eq 81), (57, .aload 0), (58, .getfield 16466), (61, .iload 3), (62, .aload 0), (63, .getfield 16466), (66, .aload 4), (68, .getfield 17474), (71, .iconst 0), (72, .aaload), (73, .getfield 13344), (76, .iaload), (77, .iastore), (78, .goto 115), (81, .aload 0), (82, .getfield 16466), (85, .iload 3), (86, .aload 0), (87, .getfield 16480), (90, .iastore), (91, .aload 0), (92, .dup), (93, .getfield 16480), (96, .iconst 1), (97, .iadd), (98, .putfield 16480), (101, .aload 0), (102, .dup), (103, .getfield 16488), (106, .aload 4), (108, .invokeinterface 98 1157), (111, .iadd), (112, .putfield 16488), (115, .iinc 2 1), (118, .goto 12), (121, .return_)]
/-- JobText$Layout.channelsBetween(LJobText$Job;II)I -/
def zc_101 : List (Nat × Instr) := [(0, .aload 1), (1, .getfield 14346), (4, .iload 2), (5, .aaload), (6, .invokeinterface 98 1157), (9, .istore 4), (11, .aload 1), (12, .getfield 14346), (15, .iload 3), (16, .aaload), (17, .invokeinterface 98 1157), (20, .istore 5), (22, .iload 4), (24, .iload 5), (26, .if_icmp .ne 45), (29, .aload 0), (30, .getfield 16410), (33, .iload 2), (34, .laload), (35, .jsr_w 0), (36, .lcmp), (37, .ifCond .ne 45), (40, .iload 4), (42, .goto 50), (45, .iload 4), (47, .iload 5), (49, .imul), (50, .ireturn)]
/-- JobText$Layout.countChannels(LJobText$Job;)V -/
def zc_102 : List (Nat × Instr) := [(0, .aload 0), (1, .iconst 0), (2, .putfield 16496), (5, .iconst 0), (6, .istore 2), (7, .iload 2), (8, .aload 1), (9, .getfield 14352), (12, .if_icmp .ge 80), (15, .iconst 0), (16, .istore 3), (17, .iload 3), (18, .aload 1), (19, .getfield 14346), (22, .iload 2), (23, .aaload), (24, .getfield 17480), (27, .if_icmp .ge 74), (30, .aload 0), (31, .getfield 16458), (34, .iload 2), (35, .baload), (36, .ifCond .ne 74), (39, .aload 0), (40, .dup), (41, .getfield 16496), (44, .aload 0), (45, .aload 1), (46, .aload 1), (47, .getfield 14346), (50, .iload 2), (51, .aaload), (52, .getfield 17474), (55, .iload 3), (56, .aaload), (57, .getfield 13344), (60, .iload 2), (61, .invokeinterface 101 1105), (64, .iadd), (65, .putfield 16496), (68, .iinc 3 1), (71, .goto 17), (74, .iinc 2 1), (77, .goto 7), (80, .iconst 0), (81, .istore 2), (82, .iload 2), (83, .aload 1), (84, .getfield 14384), (87, .if_icmp .ge 128), (90, .aload 0), (91, .dup), (92, .getfield 16496), (95, .aload 0), (96, .aload 1), (97, .aload 1), (98, .getfield 14378), (101, .iload 2), (102, .aaload), (103, .getfield 18480), (106, .aload 1), (107, .getfield 14378), (110, .iload 2), (111, .aaload), (112, .getfield 18488), (115, .invokeinterface 101 1105), (118, .iadd), (119, .putfield 16496), (122, .iinc 2 1), (125, .goto 82), (128, .return_)]
/-- JobText$Layout.reckon(LJobText$Job;)V -/
def zc_103 : List (Nat × Instr) := [(0, .iconst 0), (1, .istore 2), (2, .iload 2), (3, .aload 1), (4, .getfield 14352), (7, .if_icmp .ge 34), (10, .aload 0), (11, .getfield 16386), (14, .iload 2), (15, .iaload), (16, .istore 3), (17, .aload 0), (18, .aload 1), (19, .getfield 14346), (22, .iload 3), (23, .aaload), (24, .iload 3), (25, .invokeinterface 96 1100), (28, .iinc 2 1), (31, .goto 2), (34, .aload 0), (35, .aload 1), (36, .invokeinterface 97 1096), (39, .aload 0), (40, .aload 1), (41, .invokeinterface 100 1096), (44, .aload 0), (45, .aload 1), (46, .invokeinterface 102 1096), (49, .return_)]
/-- JobText.putJob(I)V -/
def zc_104 : List (Nat × Instr) := [(0, .aload 0), (1, .getfield 21530), (4, .iload 1), (5, .aaload), (6, .astore 2), (7, .aload 0), (8, .getfield 21530), (11, .iload 1), (12, .aload 0), (13, .getfield 21539), (16, .aastore), (17, .aload 0), (18, .getfield 21530), (21, .iload 1), (22, .aaload), (23, .iconst 1), (24, .putfield 14341), (27, .aload 0), (28, .aload 2), (29, .putfield 21539), (32, .aload 0), (33, .getfield 21539), (36, .iconst 0), (37, .putfield 14341), (40, .return_)]
/-- JobText.read(II)I -/
def zc_105 : List (Nat × Instr) := [(0, .iload 1), (1, .invokeinterface 20 5), (4, .ifCond .eq 14), (7, .iload 2), (8, .invokeinterface 14 5), (11, .ifCond .ne 16), (14, .iconst (-1)), (15, .ireturn), (16, .aload 0), (17, .getfield 21546), (20, .invokeinterface 21 772), (23, .aload 0), (24, .getfield 21554), (27, .aload 0), (28, .getfield 21539), (31, .iload 2), (32, .invokeinterface 67 1292), (35, .aload 0), (36, .getfield 21546), (39, .getfield 11264), (42, .ifCond .ne 56), (45, .aload 0), (46, .getfield 21562), (49, .aload 0), (50, .getfield 21539), (53, .invokeinterface 84 1032), (56, .aload 0), (57, .getfield 21546), (60, .getfield 11264), (63, .ifCond .eq 77), (66, .iconst (-10)), (68, .aload 0), (69, .getfield 21546), (72, .getfield 11264), (75, .isub), (76, .ireturn), (77, .aload 0), (78, .getfield 21576), (81, .aload 0), (82, .aload 0), (83, .getfield 21539), (86, .invokeinterface 86 1417), (89, .iadd), (90, .iconst 200), (93, .if_icmp .le 99), (96, .iconst (-3)), (98, .ireturn), (99, .aload 0), (100, .aload 0), (101, .getfield 21539), (104, .invokeinterface 87 1416), (107, .aload 0), (108, .getfield 21539), (111, .getfield 14442), (114, .aload 0), (115, .getfield 21539), (118, .invokeinterface 103 1096), (121, .aload 0), (122, .iload 1), (123, .invokeinterface 104 1416), (126, .aload 0), (127, .getfield 21530), (130, .iload 1), (131, .aaload), (132, .getfield 14352), (135, .ireturn)]
/-- JobText.drop(I)I -/
def zc_106 : List (Nat × Instr) := [(0, .iload 1), (1, .invokeinterface 20 5), (4, .ifCond .ne 9), (7, .iconst (-1)), (8, .ireturn), (9, .aload 0), (10, .getfield 21530), (13, .iload 1), (14, .aaload), (15, .getfield 14341), (18, .ifCond .ne 24), (21, .iconst (-2)), (23, .ireturn), (24, .aload 0), (25, .getfield 21530), (28, .iload 1), (29, .aaload), (30, .iconst 0), (31, .putfield 14341), (34, .iconst 1), (35, .ireturn)]
/-- JobText.fault(I)I -/
def zc_107 : List (Nat × Instr) := [(0, .iload 1), (1, .tableswitch 64 0 3 #[32, 40, 48, 56]), (32, .aload 0), (33, .getfield 21546), (36, .getfield 11264), (39, .ireturn), (40, .aload 0), (41, .getfield 21546), (44, .getfield 11272), (47, .ireturn), (48, .aload 0), (49, .getfield 21546), (52, .getfield 11280), (55, .ireturn), (56, .aload 0), (57, .getfield 21546), (60, .getfield 11288), (63, .ireturn), (64, .iconst (-1)), (65, .ireturn)]
/-- JobText.refusal(III)I -/
def zc_108 : List (Nat × Instr) := [(0, .iload 1), (1, .invokeinterface 20 5), (4, .ifCond .eq 16), (7, .iload 2), (8, .ifCond .lt 16), (11, .iload 2), (12, .iload 3), (13, .if_icmp .le 18), (16, .iconst (-1)), (17, .ireturn), (18, .aload 0), (19, .getfield 21530), (22, .iload 1), (23, .aaload), (24, .getfield 14341), (27, .ifCond .eq 34), (30, .iconst 0), (31, .goto 36), (34, .iconst (-2)), (36, .ireturn)]
/-- JobText$Job.howMany(I)I -/
def zc_109 : List (Nat × Instr) := [(0, .iload 1), (1, .tableswitch 88 0 6 #[44, 49, 54, 59, 64, 72, 80]), (44, .aload 0), (45, .getfield 14352), (48, .ireturn), (49, .aload 0), (50, .getfield 14368), (53, .ireturn), (54, .aload 0), (55, .getfield 14384), (58, .ireturn), (59, .aload 0), (60, .getfield 14408), (63, .ireturn), (64, .aload 0), (65, .getfield 14442), (68, .getfield 16480), (71, .ireturn), (72, .aload 0), (73, .getfield 14442), (76, .getfield 16488), (79, .ireturn), (80, .aload 0), (81, .getfield 14442), (84, .getfield 16496), (87, .ireturn), (88, .aload 0), (89, .getfield 14442), (92, .getfield 16472), (95, .ireturn)]
/-- JobText.count(II)I -/
def zc_110 : List (Nat × Instr) := [(0, .aload 0), (1, .iload 1), (2, .iload 2), (3, .iconst 7), (5, .invokeinterface 108 1425), (8, .istore 3), (9, .iload 3), (10, .ifCond .eq 17), (13, .iload 3), (14, .goto 27), (17, .aload 0), (18, .getfield 21530), (21, .iload 1), (22, .aaload), (23, .iload 2), (24, .invokeinterface 109 969), (27, .ireturn)]
/-- JobText.operatorRefusal(IIII)I -/
def zc_111 : List (Nat × Instr) := [(0, .aload 0), (1, .iload 1), (2, .iload 3), (3, .iload 4), (5, .invokeinterface 108 1425), (8, .istore 5), (10, .iload 5), (12, .ifCond .eq 18), (15, .iload 5), (17, .ireturn), (18, .iload 2), (19, .ifCond .lt 35), (22, .iload 2), (23, .aload 0), (24, .getfield 21530), (27, .iload 1), (28, .aaload), (29, .getfield 14352), (32, .if_icmp .lt 39), (35, .iconst (-1)), (36, .goto 40), (39, .iconst 0), (40, .ireturn)]
/-- JobText$Layout.laid(II)I -/
def zc_112 : List (Nat × Instr) := [(0, .iload 2), (1, .tableswitch 60 11 14 #[32, 39, 46, 53]), (32, .aload 0), (33, .getfield 16402), (36, .iload 1), (37, .iaload), (38, .ireturn), (39, .aload 0), (40, .getfield 16394), (43, .iload 1), (44, .iaload), (45, .ireturn), (46, .aload 0), (47, .getfield 16466), (50, .iload 1), (51, .iaload), (52, .ireturn), (53, .aload 0), (54, .getfield 16442), (57, .iload 1), (58, .iaload), (59, .ireturn), (60, .aload 0), (61, .getfield 16458), (64, .iload 1), (65, .baload), (66, .ifCond .eq 73), (69, .iconst 1), (70, .goto 74), (73, .iconst 0), (74, .ireturn)]
/-- JobText$Operator.told(I)I -/
def zc_113 : List (Nat × Instr) := [(0, .iload 1), (1, .tableswitch 106 0 9 #[56, 61, 66, 71, 76, 81, 86, 91, 96, 101]), (56, .aload 0), (57, .getfield 17416), (60, .ireturn), (61, .aload 0), (62, .getfield 17424), (65, .ireturn), (66, .aload 0), (67, .getfield 17432), (70, .ireturn), (71, .aload 0), (72, .getfield 17440), (75, .ireturn), (76, .aload 0), (77, .getfield 17448), (80, .ireturn), (81, .aload 0), (82, .getfield 17464), (85, .ireturn), (86, .aload 0), (87, .getfield 17480), (90, .ireturn), (91, .aload 0), (92, .getfield 17496), (95, .ireturn), (96, .aload 0), (97, .getfield 17504), (100, .ireturn), (101, .aload 0), (102, .getfield 17512), (105, .ireturn), (106, .aload 0), (107, .getfield 17520), (110, .ireturn)]
/-- JobText.operator(III)I -/
def zc_114 : List (Nat × Instr) := [(0, .aload 0), (1, .iload 1), (2, .iload 2), (3, .iload 3), (4, .iconst 15), (6, .invokeinterface 111 1429), (9, .istore 4), (11, .iload 4), (13, .ifCond .eq 19), (16, .iload 4), (18, .ireturn), (19, .iload 3), (20, .iconst 11), (22, .if_icmp .lt 42), (25, .aload 0), (26, .getfield 21530), (29, .iload 1), (30, .aaload), (31, .getfield 14442), (34, .iload 2), (35, .iload 3), (36, .invokeinterface 112 1101), (39, .goto 57), (42, .aload 0), (43, .getfield 21530), (46, .iload 1), (47, .aaload), (48, .getfield 14346), (51, .iload 2), (52, .aaload), (53, .iload 3), (54, .invokeinterface 113 1161), (57, .ireturn)]
/-- JobText.nameLength(J)I -/
def zc_115 : List (Nat × Instr) := [(0, .iconst 0), (1, .istore 2), (2, .lload 0), (3, .lstore 3), (4, .lload 3), (5, .jsr_w 0), (6, .lcmp), (7, .ifCond .le 22), (10, .iinc 2 1), (13, .lload 3), (14, .jsr_w 37), (17, .ldiv), (18, .lstore 3), (19, .goto 4), (22, .iload 2), (23, .ireturn)]
/-- JobText.nameByteFromEnd(JI)I -/
def zc_116 : List (Nat × Instr) := [(0, .lload 0), (1, .lstore 3), (2, .iconst 0), (3, .istore 5), (5, .iload 5), (7, .iload 2), (8, .if_icmp .ge 23), (11, .lload 3), (12, .jsr_w 37), (15, .ldiv), (16, .lstore 3), (17, .iinc 5 1), (20, .goto 5), (23, .lload 3), (24, .jsr_w 37), (27, .lrem), (28, .l2i), (29, .istore 5), (31, .iload 5), (33, .iconst 27), (35, .if_icmp .lt 49), (38, .iload 5), (40, .iconst 27), (42, .isub), (43, .iconst 48), (45, .iadd), (46, .goto 56), (49, .iload 5), (51, .iconst 1), (52, .isub), (53, .iconst 97), (55, .iadd), (56, .ireturn)]
/-- JobText.nameByte(JI)I -/
def zc_117 : List (Nat × Instr) := [(0, .lload 0), (1, .invokeinterface 115 5), (4, .istore 3), (5, .iload 2), (6, .ifCond .lt 14), (9, .iload 2), (10, .iload 3), (11, .if_icmp .lt 19), (14, .iconst (-5)), (16, .goto 28), (19, .lload 0), (20, .iload 3), (21, .iconst 1), (22, .isub), (23, .iload 2), (24, .isub), (25, .invokeinterface 116 9), (28, .ireturn)]
/-- JobText.letter(IIII)I -/
def zc_118 : List (Nat × Instr) := [(0, .aload 0), (1, .iload 1), (2, .iload 2), (3, .iload 3), (4, .iconst 4), (5, .invokeinterface 111 1429), (8, .istore 5), (10, .iload 5), (12, .ifCond .eq 18), (15, .iload 5), (17, .ireturn), (18, .aload 0), (19, .getfield 21530), (22, .iload 1), (23, .aaload), (24, .getfield 14346), (27, .iload 2), (28, .aaload), (29, .astore 6), (31, .iload 3), (32, .ifCond .ne 46), (35, .aload 6), (37, .getfield 17409), (40, .iload 4), (42, .invokeinterface 117 9), (45, .ireturn), (46, .iload 3), (47, .iconst 1), (48, .if_icmp .ne 71), (51, .aload 0), (52, .getfield 21530), (55, .iload 1), (56, .aaload), (57, .getfield 14442), (60, .getfield 16410), (63, .iload 2), (64, .laload), (65, .iload 4), (67, .invokeinterface 117 9), (70, .ireturn), (71, .iload 3), (72, .iconst 2), (73, .isub), (74, .aload 6), (76, .getfield 17496), (79, .if_icmp .ge 99), (82, .aload 6), (84, .getfield 17490), (87, .iload 3), (88, .iconst 2), (89, .isub), (90, .laload), (91, .iload 4), (93, .invokeinterface 117 9), (96, .goto 101), (99, .iconst (-5)), (101, .ireturn)]
/-- JobText.input(IIII)I -/
def zc_119 : List (Nat × Instr) := [(0, .aload 0), (1, .iload 1), (2, .iload 2), (3, .iload 4), (5, .iconst 1), (6, .invokeinterface 111 1429), (9, .istore 5), (11, .iload 5), (13, .ifCond .eq 19), (16, .iload 5), (18, .ireturn), (19, .aload 0), (20, .getfield 21530), (23, .iload 1), (24, .aaload), (25, .getfield 14346), (28, .iload 2), (29, .aaload), (30, .astore 6), (32, .iload 3), (33, .ifCond .lt 45), (36, .iload 3), (37, .aload 6), (39, .getfield 17480), (42, .if_icmp .lt 47), (45, .iconst (-1)), (46, .ireturn), (47, .iload 4), (49, .ifCond .ne 65), (52, .aload 6), (54, .getfield 17474), (57, .iload 3), (58, .aaload), (59, .getfield 13344), (62, .goto 75), (65, .aload 6), (67, .getfield 17474), (70, .iload 3), (71, .aaload), (72, .getfield 13352), (75, .ireturn)]
/-- JobText.flow(III)I -/
def zc_120 : List (Nat × Instr) := [(0, .aload 0), (1, .iload 1), (2, .iload 2), (3, .iload 3), (4, .iconst 3), (5, .invokeinterface 111 1429), (8, .istore 4), (10, .iload 4), (12, .ifCond .eq 18), (15, .iload 4), (17, .ireturn), (18, .aload 0), (19, .getfield 21530), (22, .iload 1), (23, .aaload), (24, .getfield 14442), (27, .astore 5), (29, .iload 3), (30, .iconst 2), (31, .if_icmp .ge 44), (34, .aload 5), (36, .getfield 16418), (39, .iload 2), (40, .aaload), (41, .goto 51), (44, .aload 5), (46, .getfield 16426), (49, .iload 2), (50, .aaload), (51, .astore 6), (53, .aload 6), (55, .getfield 12309), (58, .ifCond .eq 64), (61, .iconst (-5)), (63, .ireturn), (64, .iload 3), (65, .iconst 1), (66, .iand), (67, .ifCond .ne 78), (70, .aload 6), (72, .getfield 12289), (75, .goto 83), (78, .aload 6), (80, .getfield 12297), (83, .l2i), (84, .ireturn)]
/-- JobText.set(III)I -/
def zc_121 : List (Nat × Instr) := [(0, .aload 0), (1, .iload 1), (2, .iload 3), (3, .iconst 2), (4, .invokeinterface 108 1425), (7, .istore 4), (9, .iload 4), (11, .ifCond .eq 17), (14, .iload 4), (16, .ireturn), (17, .iload 2), (18, .ifCond .lt 34), (21, .iload 2), (22, .aload 0), (23, .getfield 21530), (26, .iload 1), (27, .aaload), (28, .getfield 14368), (31, .if_icmp .lt 36), (34, .iconst (-1)), (35, .ireturn), (36, .aload 0), (37, .getfield 21530), (40, .iload 1), (41, .aaload), (42, .getfield 14362), (45, .iload 2), (46, .aaload), (47, .astore 5), (49, .iload 3), (50, .ifCond .ne 74), (53, .aload 5), (55, .getfield 18441), (58, .jsr_w 0), (59, .lcmp), (60, .ifCond .ne 71), (63, .aload 5), (65, .getfield 18448), (68, .goto 73), (71, .iconst (-5)), (73, .ireturn), (74, .iload 3), (75, .iconst 1), (76, .if_icmp .ne 87), (79, .aload 5), (81, .getfield 18456), (84, .goto 92), (87, .aload 5), (89, .getfield 18464), (92, .ireturn)]
/-- JobText.setLetter(IIZI)I -/
def zc_122 : List (Nat × Instr) := [(0, .aload 0), (1, .iload 1), (2, .iconst 0), (3, .iconst 0), (4, .invokeinterface 108 1425), (7, .istore 5), (9, .iload 5), (11, .ifCond .eq 17), (14, .iload 5), (16, .ireturn), (17, .iload 2), (18, .ifCond .lt 34), (21, .iload 2), (22, .aload 0), (23, .getfield 21530), (26, .iload 1), (27, .aaload), (28, .getfield 14368), (31, .if_icmp .lt 36), (34, .iconst (-1)), (35, .ireturn), (36, .aload 0), (37, .getfield 21530), (40, .iload 1), (41, .aaload), (42, .getfield 14362), (45, .iload 2), (46, .aaload), (47, .astore 6), (49, .iload 3), (50, .ifCond .eq 61), (53, .aload 6), (55, .getfield 18441), (58, .goto 66), (61, .aload 6), (63, .getfield 18433), (66, .iload 4), (68, .invokeinterface 117 9), (71, .ireturn)]
/-- JobText.loop(III)I -/
def zc_123 : List (Nat × Instr) := [(0, .aload 0), (1, .iload 1), (2, .iload 3), (3, .iconst 1), (4, .invokeinterface 108 1425), (7, .istore 4), (9, .iload 4), (11, .ifCond .eq 17), (14, .iload 4), (16, .ireturn), (17, .iload 2), (18, .ifCond .lt 34), (21, .iload 2), (22, .aload 0), (23, .getfield 21530), (26, .iload 1), (27, .aaload), (28, .getfield 14384), (31, .if_icmp .lt 36), (34, .iconst (-1)), (35, .ireturn), (36, .aload 0), (37, .getfield 21530), (40, .iload 1), (41, .aaload), (42, .getfield 14378), (45, .iload 2), (46, .aaload), (47, .astore 5), (49, .iload 3), (50, .ifCond .ne 61), (53, .aload 5), (55, .getfield 18480), (58, .goto 66), (61, .aload 5), (63, .getfield 18488), (66, .ireturn)]
/-- JobText$Bytes.addBytes(LJobText$Bytes;)V -/
def zc_124 : List (Nat × Instr) := [(0, .iconst 0), (1, .istore 2), (2, .iload 2), (3, .aload 1), (4, .getfield 10248), (7, .if_icmp .ge 25), (10, .aload 0), (11, .aload 1), (12, .iload 2), (13, .invokeinterface 16 713), (16, .invokeinterface 11 712), (19, .iinc 2 1), (22, .goto 2), (25, .return_)]
/-- JobText$Job.printComment(LJobText$Bytes;I)V -/
def zc_125 : List (Nat × Instr) := [(0, .aload 1), (1, .iconst 35), (3, .invokeinterface 11 712), (6, .aload 0), (7, .getfield 14394), (10, .iload 2), (11, .aaload), (12, .getfield 10248), (15, .ifCond .le 34), (18, .aload 1), (19, .iconst 32), (21, .invokeinterface 11 712), (24, .aload 1), (25, .aload 0), (26, .getfield 14394), (29, .iload 2), (30, .aaload), (31, .invokeinterface 124 712), (34, .aload 1), (35, .iconst 10), (37, .invokeinterface 11 712), (40, .return_)]
/-- JobText$Bytes.addText(Ljava/lang/String;)V -/
def zc_126 : List (Nat × Instr) := [(0, .iconst 0), (1, .istore 2), (2, .iload 2), (3, .aload 1), (4, .invokeinterface 1 69), (7, .if_icmp .ge 25), (10, .aload 0), (11, .aload 1), (12, .iload 2), (13, .invokeinterface 6 73), (16, .invokeinterface 11 712), (19, .iinc 2 1), (22, .goto 2), (25, .return_)]
/-- JobText$Bytes.addName(J)V -/
def zc_127 : List (Nat × Instr) := [(0, .lload 1), (1, .invokeinterface 115 5), (4, .iconst 1), (5, .isub), (6, .istore 3), (7, .iload 3), (8, .ifCond .lt 26), (11, .aload 0), (12, .lload 1), (13, .iload 3), (14, .invokeinterface 116 9), (17, .invokeinterface 11 712), (20, .iinc 3 (-1)), (23, .goto 7), (26, .return_)]
/-- JobText$Operator.kindWord()Ljava/lang/String; -/
def zc_128 : List (Nat × Instr) := [(0, .aload 0), (1, .getfield 17416), (4, .tableswitch 69 1 7 #[48, 51, 54, 57, 60, 63, 66]), (48, .ldc 5), (50, .areturn), (51, .ldc 6), (53, .areturn), (54, .ldc 7), (56, .areturn), (57, .ldc 8), (59, .areturn), (60, .ldc 9), (62, .areturn), (63, .ldc 10), (65, .areturn), (66, .ldc 11), (68, .areturn), (69, .ldc 12), (71, .areturn)]
/-- JobText$Operator.printInputs(LJobText$Bytes;)V -/
def zc_129 : List (Nat × Instr) := [(0, .iconst 0), (1, .istore 2), (2, .iload 2), (3, .aload 0), (4, .getfield 17480), (7, .if_icmp .ge 72), (10, .iload 2), (11, .ifCond .le 20), (14, .aload 1), (15, .ldc 14), (17, .invokeinterface 126 712), (20, .aload 1), (21, .aload 0), (22, .getfield 17474), (25, .iload 2), (26, .aaload), (27, .getfield 13313), (30, .invokeinterface 127 712), (33, .aload 0), (34, .getfield 17474), (37, .iload 2), (38, .aaload), (39, .getfield 13329), (42, .jsr_w 0), (43, .lcmp), (44, .ifCond .eq 66), (47, .aload 1), (48, .iconst 46), (50, .invokeinterface 11 712), (53, .aload 1), (54, .aload 0), (55, .getfield 17474), (58, .iload 2), (59, .aaload), (60, .getfield 13329), (63, .invokeinterface 127 712), (66, .iinc 2 1), (69, .goto 2), (72, .return_)]
/-- JobText$Bytes.addNumber(I)V -/
def zc_130 : List (Nat × Instr) := [(0, .iconst 10000), (3, .istore 2), (4, .iload 2), (5, .ifCond .le 39), (8, .iload 1), (9, .iload 2), (10, .if_icmp .ge 18), (13, .iload 2), (14, .iconst 1), (15, .if_icmp .ne 31), (18, .aload 0), (19, .iconst 48), (21, .iload 1), (22, .iload 2), (23, .idiv), (24, .iconst 10), (26, .irem), (27, .iadd), (28, .invokeinterface 11 712), (31, .iload 2), (32, .iconst 10), (34, .idiv), (35, .istore 2), (36, .goto 4), (39, .return_)]
/-- JobText$Operator.printNumber(LJobText$Bytes;Ljava/lang/String;I)V -/
def zc_131 : List (Nat × Instr) := [(0, .iload 2), (1, .ifCond .eq 14), (4, .aload 0), (5, .aload 1), (6, .invokeinterface 126 712), (9, .aload 0), (10, .iload 2), (11, .invokeinterface 130 712), (14, .return_)]
/-- JobText$Operator.printSides(LJobText$Bytes;)V -/
def zc_132 : List (Nat × Instr) := [(0, .iconst 0), (1, .istore 2), (2, .iload 2), (3, .aload 0), (4, .getfield 17496), (7, .if_icmp .ge 41), (10, .aload 1), (11, .iload 2), (12, .ifCond .ne 20), (15, .ldc 20), (17, .goto 22), (20, .ldc 14), (22, .invokeinterface 126 712), (25, .aload 1), (26, .aload 0), (27, .getfield 17490), (30, .iload 2), (31, .laload), (32, .invokeinterface 127 712), (35, .iinc 2 1), (38, .goto 2), (41, .return_)]
/-- JobText$Operator.printTo(LJobText$Bytes;)V -/
def zc_133 : List (Nat × Instr) := [(0, .aload 1), (1, .aload 0), (2, .getfield 17416), (5, .ifCond .ne 13), (8, .ldc 2), (10, .goto 15), (13, .ldc 3), (15, .invokeinterface 126 712), (18, .aload 1), (19, .aload 0), (20, .getfield 17409), (23, .invokeinterface 127 712), (26, .aload 0), (27, .getfield 17416), (30, .ifCond .eq 58), (33, .aload 1), (34, .ldc 4), (36, .invokeinterface 126 712), (39, .aload 1), (40, .aload 0), (41, .invokeinterface 128 1159), (44, .invokeinterface 126 712), (47, .aload 1), (48, .ldc 13), (50, .invokeinterface 126 712), (53, .aload 0), (54, .aload 1), (55, .invokeinterface 129 1160), (58, .aload 1), (59, .ldc 15), (61, .aload 0), (62, .getfield 17424), (65, .invokeinterface 131 12), (68, .aload 1), (69, .ldc 16), (71, .aload 0), (72, .getfield 17432), (75, .invokeinterface 131 12), (78, .aload 0), (79, .getfield 17448), (82, .ifCond .eq 113), (85, .aload 1), (86, .ldc 17), (88, .invokeinterface 126 712), (91, .aload 1), (92, .aload 0), (93, .getfield 17440), (96, .invokeinterface 130 712), (99, .aload 1), (100, .iconst 47), (102, .invokeinterface 11 712), (105, .aload 1), (106, .aload 0), (107, .getfield 17448), (110, .invokeinterface 130 712), (113, .aload 0), (114, .getfield 17457), (117, .jsr_w 0), (118, .lcmp), (119, .ifCond .eq 136), (122, .aload 1), (123, .ldc 18), (125, .invokeinterface 126 712), (128, .aload 1), (129, .aload 0), (130, .getfield 17457), (133, .invokeinterface 127 712), (136, .aload 1), (137, .ldc 19), (139, .aload 0), (140, .getfield 17464), (143, .invokeinterface 131 12), (146, .aload 0), (147, .aload 1), (148, .invokeinterface 132 1160), (151, .aload 1), (152, .ldc 21), (154, .invokeinterface 126 712), (157, .return_)]
/-- JobText$Pair.printSetTo(LJobText$Bytes;)V -/
def zc_134 : List (Nat × Instr) := [(0, .aload 1), (1, .ldc 22), (3, .invokeinterface 126 712), (6, .aload 1), (7, .aload 0), (8, .getfield 18433), (11, .invokeinterface 127 712), (14, .aload 1), (15, .ldc 23), (17, .invokeinterface 126 712), (20, .aload 0), (21, .getfield 18441), (24, .jsr_w 0), (25, .lcmp), (26, .ifCond .ne 40), (29, .aload 1), (30, .aload 0), (31, .getfield 18448), (34, .invokeinterface 130 712), (37, .goto 48), (40, .aload 1), (41, .aload 0), (42, .getfield 18441), (45, .invokeinterface 127 712), (48, .aload 1), (49, .ldc 21), (51, .invokeinterface 126 712), (54, .return_)]
/-- JobText$Pair.printLoopTo(LJobText$Bytes;)V -/
def zc_135 : List (Nat × Instr) := [(0, .aload 1), (1, .ldc 24), (3, .invokeinterface 126 712), (6, .aload 1), (7, .aload 0), (8, .getfield 18433), (11, .invokeinterface 127 712), (14, .aload 1), (15, .ldc 25), (17, .invokeinterface 126 712), (20, .aload 1), (21, .aload 0), (22, .getfield 18441), (25, .invokeinterface 127 712), (28, .aload 1), (29, .ldc 21), (31, .invokeinterface 126 712), (34, .return_)]
/-- JobText$Job.printStatement(LJobText$Bytes;I)V -/
def zc_136 : List (Nat × Instr) := [(0, .aload 0), (1, .getfield 14426), (4, .iload 2), (5, .iaload), (6, .istore 3), (7, .aload 0), (8, .getfield 14418), (11, .iload 2), (12, .iaload), (13, .ifCond .ne 29), (16, .aload 0), (17, .getfield 14346), (20, .iload 3), (21, .aaload), (22, .aload 1), (23, .invokeinterface 133 1160), (26, .goto 62), (29, .aload 0), (30, .getfield 14418), (33, .iload 2), (34, .iaload), (35, .iconst 1), (36, .if_icmp .ne 52), (39, .aload 0), (40, .getfield 14362), (43, .iload 3), (44, .aaload), (45, .aload 1), (46, .invokeinterface 134 1224), (49, .goto 62), (52, .aload 0), (53, .getfield 14378), (56, .iload 3), (57, .aaload), (58, .aload 1), (59, .invokeinterface 135 1224), (62, .return_)]
/-- JobText$Job.printTo(LJobText$Bytes;)V -/
def zc_137 : List (Nat × Instr) := [(0, .iconst 0), (1, .istore 2), (2, .iconst 0), (3, .istore 3), (4, .iload 3), (5, .aload 0), (6, .getfield 14432), (9, .if_icmp .ge 60), (12, .iload 3), (13, .iconst 64), (15, .if_icmp .ge 60), (18, .iload 2), (19, .aload 0), (20, .getfield 14408), (23, .if_icmp .ge 48), (26, .aload 0), (27, .getfield 14402), (30, .iload 2), (31, .iaload), (32, .iload 3), (33, .if_icmp .gt 48), (36, .aload 0), (37, .aload 1), (38, .iload 2), (39, .invokeinterface 125 972), (42, .iinc 2 1), (45, .goto 18), (48, .aload 0), (49, .aload 1), (50, .iload 3), (51, .invokeinterface 136 972), (54, .iinc 3 1), (57, .goto 4), (60, .iload 2), (61, .aload 0), (62, .getfield 14408), (65, .if_icmp .ge 80), (68, .aload 0), (69, .aload 1), (70, .iload 2), (71, .invokeinterface 125 972), (74, .iinc 2 1), (77, .goto 60), (80, .return_)]
/-- JobText.print(I)I -/
def zc_138 : List (Nat × Instr) := [(0, .aload 0), (1, .iload 1), (2, .iconst 0), (3, .iconst 0), (4, .invokeinterface 108 1425), (7, .istore 2), (8, .iload 2), (9, .ifCond .eq 14), (12, .iload 2), (13, .ireturn), (14, .aload 0), (15, .getfield 21522), (18, .invokeinterface 15 708), (21, .aload 0), (22, .getfield 21530), (25, .iload 1), (26, .aaload), (27, .aload 0), (28, .getfield 21522), (31, .invokeinterface 137 968), (34, .aload 0), (35, .getfield 21522), (38, .getfield 10248), (41, .ireturn)]
/-- JobText.out(I)I -/
def zc_139 : List (Nat × Instr) := [(0, .aload 0), (1, .getfield 21522), (4, .iload 1), (5, .invokeinterface 16 713), (8, .ireturn)]
/-- JobText.take()I -/
def zc_140 : List (Nat × Instr) := [(0, .aload 0), (1, .getfield 21506), (4, .aload 0), (5, .getfield 21522), (8, .iconst 0), (9, .aload 0), (10, .getfield 21522), (13, .getfield 10248), (16, .iconst 1200), (19, .frem), (22, .invokeinterface 17 720), (25, .aload 0), (26, .getfield 21506), (29, .getfield 10248), (32, .ireturn)]
/-- JobText.addDifference(III)V -/
def zc_141 : List (Nat × Instr) := [(0, .aload 0), (1, .getfield 21592), (4, .iconst 3), (5, .imul), (6, .istore 4), (8, .iload 4), (10, .iconst 3), (11, .iadd), (12, .aload 0), (13, .getfield 21586), (16, .arraylength), (17, .if_icmp .gt 58), (20, .aload 0), (21, .getfield 21586), (24, .iload 4), (26, .iload 1), (27, .iastore), (28, .aload 0), (29, .getfield 21586), (32, .iload 4), (34, .iconst 1), (35, .iadd), (36, .iload 2), (37, .iastore), (38, .aload 0), (39, .getfield 21586), (42, .iload 4), (44, .iconst 2), (45, .iadd), (46, .iload 3), (47, .iastore), (48, .aload 0), (49, .dup), (50, .getfield 21592), (53, .iconst 1), (54, .iadd), (55, .putfield 21592), (58, .return_)]
/-- JobText$Input.isLike(LJobText$Input;)Z -/
def zc_142 : List (Nat × Instr) := [(0, .aload 0), (1, .getfield 13313), (4, .aload 1), (5, .getfield 13313), (8, .lcmp), (9, .ifCond .ne 28), (12, .aload 0), (13, .getfield 13329), (16, .aload 1), (17, .getfield 13329), (20, .lcmp), (21, .ifCond .ne 28), (24, .iconst 1), (25, .goto 29), (28, .iconst 0), (29, .jsr 0)]
/-- JobText$Operator.hasInputsOf(LJobText$Operator;)Z -/
def zc_143 : List (Nat × Instr) := [(0, .aload 0), (1, .getfield 17480), (4, .aload 1), (5, .getfield 17480), (8, .if_icmp .eq 13), (11, .iconst 0), (12, .jsr 0), (13, .iconst 0), (14, .istore 2), (15, .iload 2), (16, .aload 0), (17, .getfield 17480), (20, .if_icmp .ge 49), (23, .aload 0), (24, .getfield 17474), (27, .iload 2), (28, .aaload), (29, .aload 1), (30, .getfield 17474), (33, .iload 2), (34, .aaload), (35, .invokeinterface 142 905), (38, .ifCond .ne 43), (41, .iconst 0), (42, .jsr 0), (43, .iinc 2 1), (46, .goto 15), (49, .iconst 1), (50, .jsr 0)]
/-- JobText$Operator.hasSidesOf(LJobText$Operator;)Z -/
def zc_144 : List (Nat × Instr) := [(0, .aload 0), (1, .getfield 17496), (4, .aload 1), (5, .getfield 17496), (8, .if_icmp .eq 13), (11, .iconst 0), (12, .jsr 0), (13, .iconst 0), (14, .istore 2), (15, .iload 2), (16, .aload 0), (17, .getfield 17496), (20, .if_icmp .ge 47), (23, .aload 0), (24, .getfield 17490), (27, .iload 2), (28, .laload), (29, .aload 1), (30, .getfield 17490), (33, .iload 2), (34, .laload), (35, .lcmp), (36, .ifCond .eq 41), (39, .iconst 0), (40, .jsr 0), (41, .iinc 2 1), (44, .goto 15), (47, .iconst 1), (48, .jsr 0)]
/-- JobText$Operator.differenceBits(LJobText$Operator;)I -/
def zc_145 : List (Nat × Instr) := [(0, .aload 0), (1, .getfield 17416), (4, .aload 1), (5, .getfield 17416), (8, .if_icmp .ne 15), (11, .iconst 0), (12, .goto 16), (15, .iconst 1), (16, .istore 2), (17, .iload 2), (18, .aload 0), (19, .aload 1), (20, .invokeinterface 143 1161), (23, .ifCond .eq 30), (26, .iconst 0), (27, .goto 31), (30, .iconst 2), (31, .ior), (32, .istore 2), (33, .iload 2), (34, .aload 0), (35, .getfield 17424), (38, .aload 1), (39, .getfield 17424), (42, .if_icmp .ne 49), (45, .iconst 0), (46, .goto 50), (49, .iconst 4), (50, .ior), (51, .istore 2), (52, .iload 2), (53, .aload 0), (54, .getfield 17432), (57, .aload 1), (58, .getfield 17432), (61, .if_icmp .ne 68), (64, .iconst 0), (65, .goto 70), (68, .iconst 8), (70, .ior), (71, .istore 2), (72, .iload 2), (73, .aload 0), (74, .getfield 17440), (77, .aload 1), (78, .getfield 17440), (81, .if_icmp .ne 99), (84, .aload 0), (85, .getfield 17448), (88, .aload 1), (89, .getfield 17448), (92, .if_icmp .ne 99), (95, .iconst 0), (96, .goto 101), (99, .iconst 16), (101, .ior), (102, .istore 2), (103, .iload 2), (104, .aload 0), (105, .getfield 17457), (108, .aload 1), (109, .getfield 17457), (112, .lcmp), (113, .ifCond .ne 120), (116, .iconst 0), (117, .goto 122), (120, .iconst 32), (122, .ior), (123, .istore 2), (124, .iload 2), (125, .aload 0), (126, .getfield 17464), (129, .aload 1), (130, .getfield 17464), (133, .if_icmp .ne 140), (136, .iconst 0), (137, .goto 142), (140, .iconst 64), (142, .ior), (143, .istore 2), (144, .iload 2), (145, .aload 0), (146, .aload 1), (147, .invokeinterface 144 1161), (150, .ifCond .eq 157), (153, .iconst 0), (154, .goto 160), (157, .iconst 128), (160, .ior), (161, .istore 2), (162, .iload 2), (163, .ireturn)]
/-- JobText.compareFirst()V -/
def zc_146 : List (Nat × Instr) := [(0, .iconst 0), (1, .istore 1), (2, .iload 1), (3, .aload 0), (4, .getfield 21530), (7, .iconst 0), (8, .aaload), (9, .getfield 14352), (12, .if_icmp .ge 93), (15, .aload 0), (16, .getfield 21530), (19, .iconst 0), (20, .aaload), (21, .getfield 14346), (24, .iload 1), (25, .aaload), (26, .astore 2), (27, .aload 0), (28, .getfield 21530), (31, .iconst 1), (32, .aaload), (33, .aload 2), (34, .getfield 17409), (37, .invokeinterface 51 969), (40, .istore 3), (41, .iload 3), (42, .iconst (-5)), (44, .if_icmp .ne 57), (47, .aload 0), (48, .iconst 1), (49, .iload 1), (50, .iconst 0), (51, .invokeinterface 141 1424), (54, .goto 87), (57, .aload 2), (58, .aload 0), (59, .getfield 21530), (62, .iconst 1), (63, .aaload), (64, .getfield 14346), (67, .iload 3), (68, .aaload), (69, .invokeinterface 145 1161), (72, .istore 4), (74, .iload 4), (76, .ifCond .eq 87), (79, .aload 0), (80, .iconst 2), (81, .iload 1), (82, .iload 4), (84, .invokeinterface 141 1424), (87, .iinc 1 1), (90, .goto 2), (93, .return_)]
/-- JobText.findNew()V -/
def zc_147 : List (Nat × Instr) := [(0, .iconst 0), (1, .istore 1), (2, .iload 1), (3, .aload 0), (4, .getfield 21530), (7, .iconst 1), (8, .aaload), (9, .getfield 14352), (12, .if_icmp .ge 56), (15, .aload 0), (16, .getfield 21530), (19, .iconst 0), (20, .aaload), (21, .aload 0), (22, .getfield 21530), (25, .iconst 1), (26, .aaload), (27, .getfield 14346), (30, .iload 1), (31, .aaload), (32, .getfield 17409), (35, .invokeinterface 51 969), (38, .iconst (-5)), (40, .if_icmp .ne 50), (43, .aload 0), (44, .iconst 3), (45, .iload 1), (46, .iconst 0), (47, .invokeinterface 141 1424), (50, .iinc 1 1), (53, .goto 2), (56, .return_)]
/-- JobText.differ()I -/
def zc_148 : List (Nat × Instr) := [(0, .aload 0), (1, .getfield 21530), (4, .iconst 0), (5, .aaload), (6, .getfield 14341), (9, .ifCond .eq 24), (12, .aload 0), (13, .getfield 21530), (16, .iconst 1), (17, .aaload), (18, .getfield 14341), (21, .ifCond .ne 27), (24, .iconst (-2)), (26, .ireturn), (27, .aload 0), (28, .iconst 0), (29, .putfield 21592), (32, .aload 0), (33, .invokeinterface 146 1412), (36, .aload 0), (37, .invokeinterface 147 1412), (40, .aload 0), (41, .getfield 21592), (44, .ireturn)]
/-- JobText.difference(II)I -/
def zc_149 : List (Nat × Instr) := [(0, .iload 1), (1, .ifCond .lt 21), (4, .iload 1), (5, .aload 0), (6, .getfield 21592), (9, .if_icmp .ge 21), (12, .iload 2), (13, .ifCond .lt 21), (16, .iload 2), (17, .iconst 3), (18, .if_icmp .lt 23), (21, .iconst (-1)), (22, .ireturn), (23, .aload 0), (24, .getfield 21586), (27, .iload 1), (28, .iconst 3), (29, .imul), (30, .iload 2), (31, .iadd), (32, .iaload), (33, .ireturn)]
/-- JobText.numbers()I -/
def zc_150 : List (Nat × Instr) := [(0, .aload 0), (1, .getfield 21576), (4, .ireturn)]
/-- JobText.numbered(II)I -/
def zc_151 : List (Nat × Instr) := [(0, .iload 1), (1, .ifCond .lt 12), (4, .iload 1), (5, .aload 0), (6, .getfield 21576), (9, .if_icmp .lt 14), (12, .iconst (-1)), (13, .ireturn), (14, .aload 0), (15, .getfield 21570), (18, .iload 1), (19, .laload), (20, .iload 2), (21, .invokeinterface 117 9), (24, .ireturn)]
/-- JobTextModel.in(III)Z -/
def zc_152 : List (Nat × Instr) := [(0, .iload 0), (1, .iload 1), (2, .if_icmp .lt 14), (5, .iload 0), (6, .iload 2), (7, .if_icmp .gt 14), (10, .iconst 1), (11, .goto 15), (14, .iconst 0), (15, .jsr 0)]
/-- JobTextModel.type(JI)I -/
def zc_153 : List (Nat × Instr) := [(0, .iload 3), (1, .iconst 1), (2, .iconst 8), (4, .invokeinterface 152 13), (7, .ifCond .ne 12), (10, .iconst (-1)), (11, .ireturn), (12, .iload 3), (13, .iconst 1), (14, .isub), (15, .istore 4), (17, .iload 4), (19, .ifCond .lt 63), (22, .lload 1), (23, .iconst 8), (25, .iload 4), (27, .imul), (28, .lshr), (29, .jsr_w 255), (32, .land), (33, .l2i), (34, .istore 5), (36, .iload 5), (38, .iconst 10), (40, .if_icmp .eq 57), (43, .iload 5), (45, .iconst 32), (47, .iconst 126), (49, .invokeinterface 152 13), (52, .ifCond .ne 57), (55, .iconst (-1)), (56, .ireturn), (57, .iinc 4 (-1)), (60, .goto 17), (63, .aload 0), (64, .getfield 22536), (67, .iload 3), (68, .iadd), (69, .iconst 1200), (72, .if_icmp .le 78), (75, .iconst (-3)), (77, .ireturn), (78, .iload 3), (79, .iconst 1), (80, .isub), (81, .istore 4), (83, .iload 4), (85, .ifCond .lt 125), (88, .aload 0), (89, .getfield 22530), (92, .aload 0), (93, .getfield 22536), (96, .lload 1), (97, .iconst 8), (99, .iload 4), (101, .imul), (102, .lshr), (103, .jsr_w 255), (106, .land), (107, .l2i), (108, .iastore), (109, .aload 0), (110, .dup), (111, .getfield 22536), (114, .iconst 1), (115, .iadd), (116, .putfield 22536), (119, .iinc 4 (-1)), (122, .goto 83), (125, .aload 0), (126, .getfield 22536), (129, .ireturn)]
/-- JobTextModel.cut(I)I -/
def zc_154 : List (Nat × Instr) := [(0, .iload 1), (1, .iconst 0), (2, .aload 0), (3, .getfield 22536), (6, .invokeinterface 152 13), (9, .ifCond .ne 14), (12, .iconst (-1)), (13, .ireturn), (14, .aload 0), (15, .dup), (16, .getfield 22536), (19, .iload 1), (20, .isub), (21, .putfield 22536), (24, .aload 0), (25, .getfield 22536), (28, .ireturn)]
/-- JobTextModel.file(I)I -/
def zc_155 : List (Nat × Instr) := [(0, .iload 1), (1, .iconst 0), (2, .iconst 5), (3, .invokeinterface 152 13), (6, .ifCond .ne 11), (9, .iconst (-1)), (10, .ireturn), (11, .iconst 0), (12, .istore 2), (13, .iload 2), (14, .aload 0), (15, .getfield 22536), (18, .if_icmp .ge 45), (21, .aload 0), (22, .getfield 22546), (25, .iconst 1200), (28, .iload 1), (29, .imul), (30, .iload 2), (31, .iadd), (32, .aload 0), (33, .getfield 22530), (36, .iload 2), (37, .iaload), (38, .iastore), (39, .iinc 2 1), (42, .goto 13), (45, .aload 0), (46, .getfield 22554), (49, .iload 1), (50, .aload 0), (51, .getfield 22536), (54, .iastore), (55, .aload 0), (56, .iconst 0), (57, .putfield 22536), (60, .aload 0), (61, .getfield 22554), (64, .iload 1), (65, .iaload), (66, .ireturn)]
/-- JobTextModel.byteOf(II)I -/
def zc_156 : List (Nat × Instr) := [(0, .iload 1), (1, .iconst 0), (2, .iconst 5), (3, .invokeinterface 152 13), (6, .ifCond .ne 13), (9, .iconst (-1)), (10, .goto 46), (13, .iload 2), (14, .iconst 0), (15, .aload 0), (16, .getfield 22554), (19, .iload 1), (20, .iaload), (21, .iconst 1), (22, .isub), (23, .invokeinterface 152 13), (26, .ifCond .eq 44), (29, .aload 0), (30, .getfield 22546), (33, .iconst 1200), (36, .iload 1), (37, .imul), (38, .iload 2), (39, .iadd), (40, .iaload), (41, .goto 46), (44, .iconst (-5)), (46, .ireturn)]
/-- JobTextModel.empty()V -/
def zc_157 : List (Nat × Instr) := [(0, .aload 0), (1, .getfield 22666), (4, .iconst 2), (5, .iconst 0), (6, .iastore), (7, .aload 0), (8, .getfield 22674), (11, .iconst 2), (12, .iconst 0), (13, .iastore), (14, .aload 0), (15, .getfield 22682), (18, .iconst 2), (19, .iconst 0), (20, .iastore), (21, .aload 0), (22, .getfield 22690), (25, .iconst 2), (26, .iconst 0), (27, .iastore), (28, .aload 0), (29, .getfield 22698), (32, .iconst 2), (33, .iconst 0), (34, .iastore), (35, .aload 0), (36, .iconst 0), (37, .putfield 22704), (40, .return_)]
/-- JobTextModel.byteAt(I)I -/
def zc_158 : List (Nat × Instr) := [(0, .iload 1), (1, .aload 0), (2, .getfield 22554), (5, .aload 0), (6, .getfield 22610), (9, .aload 0), (10, .getfield 22600), (13, .iaload), (14, .iaload), (15, .if_icmp .ge 41), (18, .aload 0), (19, .getfield 22546), (22, .iconst 1200), (25, .aload 0), (26, .getfield 22610), (29, .aload 0), (30, .getfield 22600), (33, .iaload), (34, .imul), (35, .iload 1), (36, .iadd), (37, .iaload), (38, .goto 43), (41, .iconst (-5)), (43, .ireturn)]
/-- JobTextModel.keepComment(II)Z -/
def zc_159 : List (Nat × Instr) := [(0, .iload 1), (1, .istore 3), (2, .iload 2), (3, .istore 4), (5, .iload 3), (6, .iload 4), (8, .if_icmp .ge 27), (11, .aload 0), (12, .iload 3), (13, .invokeinterface 158 1481), (16, .iconst 32), (18, .if_icmp .ne 27), (21, .iinc 3 1), (24, .goto 5), (27, .iload 3), (28, .iload 4), (30, .if_icmp .ge 52), (33, .aload 0), (34, .iload 4), (36, .iconst 1), (37, .isub), (38, .invokeinterface 158 1481), (41, .iconst 32), (43, .if_icmp .ne 52), (46, .iinc 4 (-1)), (49, .goto 27), (52, .iload 4), (54, .iload 3), (55, .isub), (56, .iconst 60), (58, .if_icmp .le 63), (61, .iconst 0), (62, .jsr 0), (63, .iconst 80), (65, .aload 0), (66, .getfield 22698), (69, .iconst 2), (70, .iaload), (71, .iadd), (72, .istore 5), (74, .aload 0), (75, .getfield 22986), (78, .iload 5), (80, .aload 0), (81, .getfield 22690), (84, .iconst 2), (85, .iaload), (86, .iastore), (87, .aload 0), (88, .getfield 22994), (91, .iload 5), (93, .iload 4), (95, .iload 3), (96, .isub), (97, .iastore), (98, .iload 3), (99, .istore 6), (101, .iload 6), (103, .iload 4), (105, .if_icmp .ge 135), (108, .aload 0), (109, .getfield 23002), (112, .iconst 60), (114, .iload 5), (116, .imul), (117, .iload 6), (119, .iadd), (120, .iload 3), (121, .isub), (122, .aload 0), (123, .iload 6), (125, .invokeinterface 158 1481), (128, .iastore), (129, .iinc 6 1), (132, .goto 101), (135, .aload 0), (136, .getfield 22698), (139, .iconst 2), (140, .dup2), (141, .iaload), (142, .iconst 1), (143, .iadd), (144, .iastore), (145, .iconst 1), (146, .jsr 0)]
/-- JobTextModel.wrong(III)Z -/
def zc_160 : List (Nat × Instr) := [(0, .aload 0), (1, .iload 1), (2, .putfield 22624), (5, .aload 0), (6, .iload 2), (7, .putfield 22632), (10, .aload 0), (11, .iload 3), (12, .putfield 22640), (15, .iconst 0), (16, .jsr 0)]
/-- JobTextModel.pass()Z -/
def zc_161 : List (Nat × Instr) := [(0, .aload 0), (1, .getfield 22618), (4, .aload 0), (5, .getfield 22600), (8, .iaload), (9, .istore 1), (10, .aload 0), (11, .iload 1), (12, .invokeinterface 158 1481), (15, .istore 2), (16, .iload 2), (17, .iconst 10), (19, .if_icmp .eq 34), (22, .iload 2), (23, .iconst 32), (25, .if_icmp .eq 34), (28, .iload 2), (29, .iconst 35), (31, .if_icmp .ne 124), (34, .iload 2), (35, .iconst 35), (37, .if_icmp .ne 112), (40, .iload 1), (41, .istore 3), (42, .aload 0), (43, .iload 1), (44, .iconst 1), (45, .iadd), (46, .invokeinterface 158 1481), (49, .iconst 10), (51, .if_icmp .eq 72), (54, .aload 0), (55, .iload 1), (56, .iconst 1), (57, .iadd), (58, .invokeinterface 158 1481), (61, .iconst (-5)), (63, .if_icmp .eq 72), (66, .iinc 1 1), (69, .goto 42), (72, .aload 0), (73, .getfield 22698), (76, .iconst 2), (77, .iaload), (78, .iconst 40), (80, .if_icmp .eq 96), (83, .aload 0), (84, .iload 3), (85, .iconst 1), (86, .iadd), (87, .iload 1), (88, .iconst 1), (89, .iadd), (90, .invokeinterface 159 1485), (93, .ifCond .ne 112), (96, .aload 0), (97, .iconst 3), (98, .aload 0), (99, .getfield 22610), (102, .aload 0), (103, .getfield 22600), (106, .iaload), (107, .iload 3), (108, .invokeinterface 160 1489), (111, .jsr 0), (112, .iinc 1 1), (115, .aload 0), (116, .iload 1), (117, .invokeinterface 158 1481), (120, .istore 2), (121, .goto 16), (124, .aload 0), (125, .getfield 22618), (128, .aload 0), (129, .getfield 22600), (132, .iload 1), (133, .iastore), (134, .iconst 1), (135, .jsr 0)]
/-- JobTextModel.isLetter(I)Z -/
def zc_162 : List (Nat × Instr) := [(0, .iload 0), (1, .iconst 97), (3, .iconst 122), (5, .invokeinterface 152 13), (8, .jsr 0)]
/-- JobTextModel.isDigit(I)Z -/
def zc_163 : List (Nat × Instr) := [(0, .iload 0), (1, .iconst 48), (3, .iconst 57), (5, .invokeinterface 152 13), (8, .jsr 0)]
/-- JobTextModel.word(IIIIII)J -/
def zc_164 : List (Nat × Instr) := [(0, .jsr_w 0), (1, .lstore 6), (3, .jsr_w 37), (6, .lload 6), (8, .lmul), (9, .iload 0), (10, .i2l), (11, .ladd), (12, .lstore 6), (14, .jsr_w 37), (17, .lload 6), (19, .lmul), (20, .iload 1), (21, .i2l), (22, .ladd), (23, .lstore 6), (25, .iload 2), (26, .ifCond .ne 34), (29, .lload 6), (31, .goto 43), (34, .jsr_w 37), (37, .lload 6), (39, .lmul), (40, .iload 2), (41, .i2l), (42, .ladd), (43, .lstore 6), (45, .iload 3), (46, .ifCond .ne 54), (49, .lload 6), (51, .goto 63), (54, .jsr_w 37), (57, .lload 6), (59, .lmul), (60, .iload 3), (61, .i2l), (62, .ladd), (63, .lstore 6), (65, .iload 4), (67, .ifCond .ne 75), (70, .lload 6), (72, .goto 85), (75, .jsr_w 37), (78, .lload 6), (80, .lmul), (81, .iload 4), (83, .i2l), (84, .ladd), (85, .lstore 6), (87, .iload 5), (89, .ifCond .ne 97), (92, .lload 6), (94, .goto 107), (97, .jsr_w 37), (100, .lload 6), (102, .lmul), (103, .iload 5), (105, .i2l), (106, .ladd), (107, .lreturn)]
/-- JobTextModel.keyName(I)J -/
def zc_165 : List (Nat × Instr) := [(0, .iload 0), (1, .tableswitch 354 0 19 #[96, 108, 120, 134, 146, 160, 174, 186, 198, 210, 223, 235, 247, 259, 271, 286, 299, 312, 326, 341]), (96, .iconst 21), (98, .iconst 19), (100, .iconst 5), (101, .iconst 0), (102, .iconst 0), (103, .iconst 0), (104, .invokeinterface 164 26), (107, .lreturn), (108, .iconst 19), (110, .iconst 5), (111, .iconst 20), (113, .iconst 0), (114, .iconst 0), (115, .iconst 0), (116, .invokeinterface 164 26), (119, .lreturn), (120, .iconst 19), (122, .iconst 15), (124, .iconst 21), (126, .iconst 18), (128, .iconst 3), (129, .iconst 5), (130, .invokeinterface 164 26), (133, .lreturn), (134, .iconst 15), (136, .iconst 16), (138, .iconst 0), (139, .iconst 0), (140, .iconst 0), (141, .iconst 0), (142, .invokeinterface 164 26), (145, .lreturn), (146, .iconst 12), (148, .iconst 15), (150, .iconst 15), (152, .iconst 16), (154, .iconst 0), (155, .iconst 0), (156, .invokeinterface 164 26), (159, .lreturn), (160, .iconst 6), (162, .iconst 18), (164, .iconst 15), (166, .iconst 13), (168, .iconst 0), (169, .iconst 0), (170, .invokeinterface 164 26), (173, .lreturn), (174, .iconst 20), (176, .iconst 15), (178, .iconst 0), (179, .iconst 0), (180, .iconst 0), (181, .iconst 0), (182, .invokeinterface 164 26), (185, .lreturn), (186, .iconst 16), (188, .iconst 1), (189, .iconst 18), (191, .iconst 0), (192, .iconst 0), (193, .iconst 0), (194, .invokeinterface 164 26), (197, .lreturn), (198, .iconst 18), (200, .iconst 1), (201, .iconst 20), (203, .iconst 5), (204, .iconst 0), (205, .iconst 0), (206, .invokeinterface 164 26), (209, .lreturn), (210, .iconst 16), (212, .iconst 1), (213, .iconst 19), (215, .iconst 19), (217, .iconst 0), (218, .iconst 0), (219, .invokeinterface 164 26), (222, .lreturn), (223, .iconst 11), (225, .iconst 5), (226, .iconst 25), (228, .iconst 0), (229, .iconst 0), (230, .iconst 0), (231, .invokeinterface 164 26), (234, .lreturn), (235, .iconst 11), (237, .iconst 5), (238, .iconst 5), (239, .iconst 16), (241, .iconst 0), (242, .iconst 0), (243, .invokeinterface 164 26), (246, .lreturn), (247, .iconst 19), (249, .iconst 9), (251, .iconst 4), (252, .iconst 5), (253, .iconst 0), (254, .iconst 0), (255, .invokeinterface 164 26), (258, .lreturn), (259, .iconst 13), (261, .iconst 1), (262, .iconst 16), (264, .iconst 0), (265, .iconst 0), (266, .iconst 0), (267, .invokeinterface 164 26), (270, .lreturn), (271, .iconst 6), (273, .iconst 9), (275, .iconst 12), (277, .iconst 20), (279, .iconst 5), (280, .iconst 18), (282, .invokeinterface 164 26), (285, .lreturn), (286, .iconst 6), (288, .iconst 12), (290, .iconst 1), (291, .iconst 20), (293, .iconst 0), (294, .iconst 0), (295, .invokeinterface 164 26), (298, .lreturn), (299, .iconst 19), (301, .iconst 16), (303, .iconst 1), (304, .iconst 14), (306, .iconst 0), (307, .iconst 0), (308, .invokeinterface 164 26), (311, .lreturn), (312, .iconst 10), (314, .iconst 15), (316, .iconst 9), (318, .iconst 14), (320, .iconst 0), (321, .iconst 0), (322, .invokeinterface 164 26), (325, .lreturn), (326, .iconst 21), (328, .iconst 14), (330, .iconst 9), (332, .iconst 15), (334, .iconst 14), (336, .iconst 0), (337, .invokeinterface 164 26), (340, .lreturn), (341, .iconst 6), (343, .iconst 15), (345, .iconst 12), (347, .iconst 4), (348, .iconst 0), (349, .iconst 0), (350, .invokeinterface 164 26), (353, .lreturn), (354, .iconst 19), (356, .iconst 9), (358, .iconst 14), (360, .iconst 11), (362, .iconst 0), (363, .iconst 0), (364, .invokeinterface 164 26), (367, .lreturn)]
/-- JobTextModel.keyOf(J)I -/
def zc_166 : List (Nat × Instr) := [(0, .iconst 0), (1, .istore 2), (2, .iload 2), (3, .iconst 21), (5, .if_icmp .ge 28), (8, .lload 0), (9, .iload 2), (10, .invokeinterface 165 6), (13, .lcmp), (14, .ifCond .ne 22), (17, .iconst 9), (19, .iload 2), (20, .iadd), (21, .ireturn), (22, .iinc 2 1), (25, .goto 2), (28, .iconst 0), (29, .ireturn)]
/-- JobTextModel.look()Z -/
def zc_167 : List (Nat × Instr) := [(0, .aload 0), (1, .invokeinterface 161 1477), (4, .ifCond .ne 9), (7, .iconst 0), (8, .jsr 0), (9, .aload 0), (10, .getfield 22618), (13, .aload 0), (14, .getfield 22600), (17, .iaload), (18, .istore 1), (19, .iload 1), (20, .istore 2), (21, .aload 0), (22, .iload 1), (23, .invokeinterface 158 1481), (26, .istore 3), (27, .aload 0), (28, .aload 0), (29, .getfield 22610), (32, .aload 0), (33, .getfield 22600), (36, .iaload), (37, .putfield 22584), (40, .aload 0), (41, .iload 1), (42, .putfield 22592), (45, .iload 3), (46, .iconst (-5)), (48, .if_icmp .ne 59), (51, .aload 0), (52, .iconst 8), (54, .putfield 22560), (57, .iconst 1), (58, .jsr 0), (59, .iinc 1 1), (62, .iload 3), (63, .invokeinterface 162 5), (66, .ifCond .eq 186), (69, .iload 3), (70, .iconst 96), (72, .isub), (73, .i2l), (74, .lstore 4), (76, .aload 0), (77, .iload 1), (78, .invokeinterface 158 1481), (81, .invokeinterface 162 5), (84, .ifCond .ne 98), (87, .aload 0), (88, .iload 1), (89, .invokeinterface 158 1481), (92, .invokeinterface 163 5), (95, .ifCond .eq 155), (98, .aload 0), (99, .iload 1), (100, .invokeinterface 158 1481), (103, .istore 6), (105, .iload 1), (106, .iload 2), (107, .isub), (108, .iconst 12), (110, .if_icmp .ge 145), (113, .jsr_w 37), (116, .lload 4), (118, .lmul), (119, .iload 6), (121, .invokeinterface 163 5), (124, .ifCond .eq 135), (127, .iload 6), (129, .iconst 21), (131, .isub), (132, .goto 140), (135, .iload 6), (137, .iconst 96), (139, .isub), (140, .i2l), (141, .ladd), (142, .goto 147), (145, .lload 4), (147, .lstore 4), (149, .iinc 1 1), (152, .goto 76), (155, .aload 0), (156, .lload 4), (158, .putfield 22569), (161, .aload 0), (162, .iload 1), (163, .iload 2), (164, .isub), (165, .iconst 12), (167, .if_icmp .le 175), (170, .iconst (-5)), (172, .goto 180), (175, .lload 4), (177, .invokeinterface 166 5), (180, .putfield 22560), (183, .goto 402), (186, .iload 3), (187, .invokeinterface 163 5), (190, .ifCond .eq 334), (193, .iload 3), (194, .iconst 48), (196, .isub), (197, .istore 4), (199, .aload 0), (200, .iload 1), (201, .invokeinterface 158 1481), (204, .invokeinterface 163 5), (207, .ifCond .eq 244), (210, .iload 1), (211, .iload 2), (212, .isub), (213, .iconst 5), (214, .if_icmp .ge 234), (217, .iconst 10), (219, .iload 4), (221, .imul), (222, .aload 0), (223, .iload 1), (224, .invokeinterface 158 1481), (227, .iadd), (228, .iconst 48), (230, .isub), (231, .goto 236), (234, .iload 4), (236, .istore 4), (238, .iinc 1 1), (241, .goto 199), (244, .iload 1), (245, .iload 2), (246, .isub), (247, .iconst 5), (248, .if_icmp .gt 279), (251, .iload 3), (252, .iconst 48), (254, .if_icmp .ne 264), (257, .iload 1), (258, .iload 2), (259, .isub), (260, .iconst 1), (261, .if_icmp .ne 279), (264, .aload 0), (265, .iload 1), (266, .invokeinterface 158 1481), (269, .invokeinterface 162 5), (272, .ifCond .ne 279), (275, .iconst 1), (276, .goto 280), (279, .iconst 0), (280, .istore 5), (282, .aload 0), (283, .iload 1), (284, .invokeinterface 158 1481), (287, .invokeinterface 162 5), (290, .ifCond .ne 304), (293, .aload 0), (294, .iload 1), (295, .invokeinterface 158 1481), (298, .invokeinterface 163 5), (301, .ifCond .eq 310), (304, .iinc 1 1), (307, .goto 282), (310, .aload 0), (311, .iload 4), (313, .putfield 22576), (316, .aload 0), (317, .iload 5), (319, .ifCond .eq 326), (322, .iconst 1), (323, .goto 328), (326, .iconst (-5)), (328, .putfield 22560), (331, .goto 402), (334, .aload 0), (335, .iload 3), (336, .iconst 59), (338, .if_icmp .ne 345), (341, .iconst 2), (342, .goto 399), (345, .iload 3), (346, .iconst 44), (348, .if_icmp .ne 355), (351, .iconst 3), (352, .goto 399), (355, .iload 3), (356, .iconst 58), (358, .if_icmp .ne 365), (361, .iconst 4), (362, .goto 399), (365, .iload 3), (366, .iconst 46), (368, .if_icmp .ne 375), (371, .iconst 5), (372, .goto 399), (375, .iload 3), (376, .iconst 61), (378, .if_icmp .ne 386), (381, .iconst 6), (383, .goto 399), (386, .iload 3), (387, .iconst 47), (389, .if_icmp .ne 397), (392, .iconst 7), (394, .goto 399), (397, .iconst (-5)), (399, .putfield 22560), (402, .aload 0), (403, .getfield 22618), (406, .aload 0), (407, .getfield 22600), (410, .iload 1), (411, .iastore), (412, .iconst 1), (413, .jsr 0)]
/-- JobTextModel.want(I)Z -/
def zc_168 : List (Nat × Instr) := [(0, .aload 0), (1, .invokeinterface 167 1477), (4, .ifCond .ne 9), (7, .iconst 0), (8, .jsr 0), (9, .aload 0), (10, .getfield 22560), (13, .ifCond .lt 27), (16, .iload 1), (17, .aload 0), (18, .getfield 22560), (21, .ishr), (22, .iconst 1), (23, .iand), (24, .ifCond .ne 46), (27, .aload 0), (28, .iload 1), (29, .putfield 22648), (32, .aload 0), (33, .iconst 1), (34, .aload 0), (35, .getfield 22584), (38, .aload 0), (39, .getfield 22592), (42, .invokeinterface 160 1489), (45, .jsr 0), (46, .iconst 1), (47, .jsr 0)]
/-- JobTextModel.bounded(II)Z -/
def zc_169 : List (Nat × Instr) := [(0, .aload 0), (1, .getfield 22576), (4, .iload 1), (5, .iload 2), (6, .invokeinterface 152 13), (9, .ifCond .ne 28), (12, .aload 0), (13, .iconst 2), (14, .aload 0), (15, .getfield 22584), (18, .aload 0), (19, .getfield 22592), (22, .invokeinterface 160 1489), (25, .ifCond .eq 32), (28, .iconst 1), (29, .goto 33), (32, .iconst 0), (33, .jsr 0)]
/-- JobTextModel.readUse()Z -/
def zc_170 : List (Nat × Instr) := [(0, .aload 0), (1, .iconst 2), (2, .invokeinterface 168 1481), (5, .ifCond .eq 17), (8, .aload 0), (9, .iconst 0), (10, .iconst 5), (11, .invokeinterface 169 1485), (14, .ifCond .ne 19), (17, .iconst 0), (18, .jsr 0), (19, .aload 0), (20, .getfield 22576), (23, .istore 1), (24, .aload 0), (25, .getfield 22584), (28, .istore 2), (29, .aload 0), (30, .getfield 22592), (33, .istore 3), (34, .aload 0), (35, .getfield 22704), (38, .iconst 30), (40, .if_icmp .ne 51), (43, .aload 0), (44, .iconst 3), (45, .iload 2), (46, .iload 3), (47, .invokeinterface 160 1489), (50, .jsr 0), (51, .aload 0), (52, .dup), (53, .getfield 22704), (56, .iconst 1), (57, .iadd), (58, .putfield 22704), (61, .aload 0), (62, .iconst 4), (63, .invokeinterface 168 1481), (66, .ifCond .ne 71), (69, .iconst 0), (70, .jsr 0), (71, .iconst 0), (72, .istore 4), (74, .iload 4), (76, .aload 0), (77, .getfield 22600), (80, .if_icmp .gt 108), (83, .aload 0), (84, .getfield 22610), (87, .iload 4), (89, .iaload), (90, .iload 1), (91, .if_icmp .ne 102), (94, .aload 0), (95, .iconst 4), (96, .iload 2), (97, .iload 3), (98, .invokeinterface 160 1489), (101, .jsr 0), (102, .iinc 4 1), (105, .goto 74), (108, .aload 0), (109, .dup), (110, .getfield 22600), (113, .iconst 1), (114, .iadd), (115, .putfield 22600), (118, .aload 0), (119, .getfield 22610), (122, .aload 0), (123, .getfield 22600), (126, .iload 1), (127, .iastore), (128, .aload 0), (129, .getfield 22618), (132, .aload 0), (133, .getfield 22600), (136, .iconst 0), (137, .iastore), (138, .iconst 1), (139, .jsr 0)]
/-- JobTextModel.begin(II)V -/
def zc_171 : List (Nat × Instr) := [(0, .aload 0), (1, .getfield 22970), (4, .iconst 128), (7, .aload 0), (8, .getfield 22690), (11, .iconst 2), (12, .iaload), (13, .iadd), (14, .iload 1), (15, .iastore), (16, .aload 0), (17, .getfield 22978), (20, .iconst 128), (23, .aload 0), (24, .getfield 22690), (27, .iconst 2), (28, .iaload), (29, .iadd), (30, .iload 2), (31, .iastore), (32, .aload 0), (33, .getfield 22690), (36, .iconst 2), (37, .dup2), (38, .iaload), (39, .iconst 1), (40, .iadd), (41, .iastore), (42, .return_)]
/-- JobTextModel.readSet()Z -/
def zc_172 : List (Nat × Instr) := [(0, .aload 0), (1, .iconst 10), (3, .aload 0), (4, .getfield 22674), (7, .iconst 2), (8, .iaload), (9, .invokeinterface 171 1484), (12, .aload 0), (13, .iconst 1), (14, .invokeinterface 168 1481), (17, .ifCond .ne 22), (20, .iconst 0), (21, .jsr 0), (22, .aload 0), (23, .getfield 22674), (26, .iconst 2), (27, .iaload), (28, .iconst 16), (30, .if_icmp .ne 47), (33, .aload 0), (34, .iconst 3), (35, .aload 0), (36, .getfield 22584), (39, .aload 0), (40, .getfield 22592), (43, .invokeinterface 160 1489), (46, .jsr 0), (47, .iconst 0), (48, .istore 1), (49, .iload 1), (50, .aload 0), (51, .getfield 22674), (54, .iconst 2), (55, .iaload), (56, .if_icmp .ge 97), (59, .aload 0), (60, .getfield 22898), (63, .iconst 32), (65, .iload 1), (66, .iadd), (67, .laload), (68, .aload 0), (69, .getfield 22569), (72, .lcmp), (73, .ifCond .ne 91), (76, .aload 0), (77, .iconst 6), (79, .aload 0), (80, .getfield 22584), (83, .aload 0), (84, .getfield 22592), (87, .invokeinterface 160 1489), (90, .jsr 0), (91, .iinc 1 1), (94, .goto 49), (97, .iconst 32), (99, .aload 0), (100, .getfield 22674), (103, .iconst 2), (104, .iaload), (105, .iadd), (106, .istore 1), (107, .aload 0), (108, .getfield 22898), (111, .iload 1), (112, .aload 0), (113, .getfield 22569), (116, .lastore), (117, .aload 0), (118, .getfield 22922), (121, .iload 1), (122, .aload 0), (123, .getfield 22584), (126, .iastore), (127, .aload 0), (128, .getfield 22930), (131, .iload 1), (132, .aload 0), (133, .getfield 22592), (136, .iastore), (137, .aload 0), (138, .iconst 64), (140, .invokeinterface 168 1481), (143, .ifCond .eq 154), (146, .aload 0), (147, .iconst 3), (148, .invokeinterface 168 1481), (151, .ifCond .ne 156), (154, .iconst 0), (155, .jsr 0), (156, .aload 0), (157, .getfield 22906), (160, .iload 1), (161, .aload 0), (162, .getfield 22560), (165, .ifCond .ne 175), (168, .aload 0), (169, .getfield 22569), (172, .goto 176), (175, .jsr_w 0), (176, .lastore), (177, .aload 0), (178, .getfield 22914), (181, .iload 1), (182, .aload 0), (183, .getfield 22560), (186, .ifCond .ne 194), (189, .iconst (-5)), (191, .goto 198), (194, .aload 0), (195, .getfield 22576), (198, .iastore), (199, .aload 0), (200, .getfield 22674), (203, .iconst 2), (204, .dup2), (205, .iaload), (206, .iconst 1), (207, .iadd), (208, .iastore), (209, .aload 0), (210, .iconst 4), (211, .invokeinterface 168 1481), (214, .jsr 0)]
/-- JobTextModel.readLoop()Z -/
def zc_173 : List (Nat × Instr) := [(0, .aload 0), (1, .iconst 13), (3, .aload 0), (4, .getfield 22682), (7, .iconst 2), (8, .iaload), (9, .invokeinterface 171 1484), (12, .iconst 0), (13, .istore 1), (14, .iload 1), (15, .iconst 2), (16, .if_icmp .ge 123), (19, .iload 1), (20, .iconst 1), (21, .if_icmp .ne 34), (24, .aload 0), (25, .iconst 32768), (28, .invokeinterface 168 1481), (31, .ifCond .eq 42), (34, .aload 0), (35, .iconst 1), (36, .invokeinterface 168 1481), (39, .ifCond .ne 44), (42, .iconst 0), (43, .jsr 0), (44, .iload 1), (45, .ifCond .ne 73), (48, .aload 0), (49, .getfield 22682), (52, .iconst 2), (53, .iaload), (54, .iconst 8), (56, .if_icmp .ne 73), (59, .aload 0), (60, .iconst 3), (61, .aload 0), (62, .getfield 22584), (65, .aload 0), (66, .getfield 22592), (69, .invokeinterface 160 1489), (72, .jsr 0), (73, .iconst 32), (75, .iconst 2), (76, .aload 0), (77, .getfield 22682), (80, .iconst 2), (81, .iaload), (82, .imul), (83, .iadd), (84, .iload 1), (85, .iadd), (86, .istore 2), (87, .aload 0), (88, .getfield 22938), (91, .iload 2), (92, .aload 0), (93, .getfield 22569), (96, .lastore), (97, .aload 0), (98, .getfield 22946), (101, .iload 2), (102, .aload 0), (103, .getfield 22584), (106, .iastore), (107, .aload 0), (108, .getfield 22954), (111, .iload 2), (112, .aload 0), (113, .getfield 22592), (116, .iastore), (117, .iinc 1 1), (120, .goto 14), (123, .aload 0), (124, .getfield 22682), (127, .iconst 2), (128, .dup2), (129, .iaload), (130, .iconst 1), (131, .iadd), (132, .iastore), (133, .aload 0), (134, .iconst 4), (135, .invokeinterface 168 1481), (138, .jsr 0)]
/-- JobTextModel.operatorOf(IJ)I -/
def zc_174 : List (Nat × Instr) := [(0, .iconst 0), (1, .istore 4), (3, .iload 4), (5, .aload 0), (6, .getfield 22666), (9, .iload 1), (10, .iaload), (11, .if_icmp .ge 40), (14, .aload 0), (15, .getfield 22714), (18, .iconst 40), (20, .iload 1), (21, .imul), (22, .iload 4), (24, .iadd), (25, .laload), (26, .lload 2), (27, .lcmp), (28, .ifCond .ne 34), (31, .iload 4), (33, .ireturn), (34, .iinc 4 1), (37, .goto 3), (40, .iconst (-5)), (42, .ireturn)]
/-- JobTextModel.readName()Z -/
def zc_175 : List (Nat × Instr) := [(0, .aload 0), (1, .iconst 1), (2, .invokeinterface 168 1481), (5, .ifCond .ne 10), (8, .iconst 0), (9, .jsr 0), (10, .aload 0), (11, .getfield 22666), (14, .iconst 2), (15, .iaload), (16, .iconst 40), (18, .if_icmp .ne 35), (21, .aload 0), (22, .iconst 3), (23, .aload 0), (24, .getfield 22584), (27, .aload 0), (28, .getfield 22592), (31, .invokeinterface 160 1489), (34, .jsr 0), (35, .aload 0), (36, .iconst 2), (37, .aload 0), (38, .getfield 22569), (41, .invokeinterface 174 1485), (44, .ifCond .lt 62), (47, .aload 0), (48, .iconst 6), (50, .aload 0), (51, .getfield 22584), (54, .aload 0), (55, .getfield 22592), (58, .invokeinterface 160 1489), (61, .jsr 0), (62, .iconst 80), (64, .aload 0), (65, .getfield 22666), (68, .iconst 2), (69, .iaload), (70, .iadd), (71, .istore 1), (72, .aload 0), (73, .getfield 22714), (76, .iload 1), (77, .aload 0), (78, .getfield 22569), (81, .lastore), (82, .aload 0), (83, .getfield 22794), (86, .iload 1), (87, .aload 0), (88, .getfield 22584), (91, .iastore), (92, .aload 0), (93, .getfield 22802), (96, .iload 1), (97, .aload 0), (98, .getfield 22592), (101, .iastore), (102, .aload 0), (103, .getfield 22730), (106, .iload 1), (107, .iconst 0), (108, .iastore), (109, .aload 0), (110, .getfield 22738), (113, .iload 1), (114, .iconst 0), (115, .iastore), (116, .aload 0), (117, .getfield 22746), (120, .iload 1), (121, .iconst 0), (122, .iastore), (123, .aload 0), (124, .getfield 22754), (127, .iload 1), (128, .iconst 0), (129, .iastore), (130, .aload 0), (131, .getfield 22762), (134, .iload 1), (135, .iconst 0), (136, .iastore), (137, .aload 0), (138, .getfield 22770), (141, .iload 1), (142, .jsr_w 0), (143, .lastore), (144, .aload 0), (145, .getfield 22778), (148, .iload 1), (149, .iconst 0), (150, .iastore), (151, .aload 0), (152, .getfield 22786), (155, .iload 1), (156, .iconst 0), (157, .iastore), (158, .aload 0), (159, .getfield 22722), (162, .iload 1), (163, .iconst 0), (164, .iastore), (165, .iconst 1), (166, .jsr 0)]
/-- JobTextModel.mayHave(I)I -/
def zc_176 : List (Nat × Instr) := [(0, .iconst 65536), (3, .istore 1), (4, .iload 1), (5, .iload 0), (6, .ifCond .ne 15), (9, .iconst 131072), (12, .goto 16), (15, .iconst 0), (16, .ior), (17, .istore 1), (18, .iload 1), (19, .iload 0), (20, .iconst 3), (21, .if_icmp .le 30), (24, .iload 0), (25, .iconst 6), (27, .if_icmp .ne 36), (30, .iconst 524288), (33, .goto 37), (36, .iconst 0), (37, .ior), (38, .istore 1), (39, .iload 1), (40, .iload 0), (41, .ifCond .eq 62), (44, .iload 0), (45, .iconst 6), (47, .if_icmp .eq 62), (50, .iload 0), (51, .iconst 8), (53, .if_icmp .eq 62), (56, .iconst 262144), (59, .goto 63), (62, .iconst 0), (63, .ior), (64, .istore 1), (65, .iload 1), (66, .iload 0), (67, .iconst 4), (68, .if_icmp .eq 82), (71, .iload 0), (72, .iconst 5), (73, .if_icmp .eq 82), (76, .iload 0), (77, .iconst 7), (79, .if_icmp .ne 88), (82, .iconst 1048576), (85, .goto 89), (88, .iconst 0), (89, .ior), (90, .istore 1), (91, .iload 0), (92, .iconst 6), (94, .if_icmp .eq 111), (97, .iload 0), (98, .iconst 8), (100, .if_icmp .eq 111), (103, .iload 1), (104, .iconst 2097152), (107, .ior), (108, .goto 112), (111, .iload 1), (112, .ireturn)]
/-- JobTextModel.readInputSide(I)Z -/
def zc_177 : List (Nat × Instr) := [(0, .aload 0), (1, .iconst 1), (2, .invokeinterface 168 1481), (5, .ifCond .ne 10), (8, .iconst 0), (9, .jsr 0), (10, .iconst 4), (11, .iload 1), (12, .imul), (13, .aload 0), (14, .getfield 22778), (17, .iload 1), (18, .iaload), (19, .iadd), (20, .iconst 1), (21, .isub), (22, .istore 2), (23, .aload 0), (24, .getfield 22834), (27, .iload 2), (28, .aload 0), (29, .getfield 22569), (32, .lastore), (33, .aload 0), (34, .getfield 22858), (37, .iload 2), (38, .aload 0), (39, .getfield 22584), (42, .iastore), (43, .aload 0), (44, .getfield 22866), (47, .iload 2), (48, .aload 0), (49, .getfield 22592), (52, .iastore), (53, .iconst 1), (54, .jsr 0)]
/-- JobTextModel.readInput(I)Z -/
def zc_178 : List (Nat × Instr) := [(0, .aload 0), (1, .iconst 1), (2, .invokeinterface 168 1481), (5, .ifCond .ne 10), (8, .iconst 0), (9, .jsr 0), (10, .aload 0), (11, .getfield 22778), (14, .iload 1), (15, .iaload), (16, .iconst 4), (17, .if_icmp .ne 34), (20, .aload 0), (21, .iconst 3), (22, .aload 0), (23, .getfield 22584), (26, .aload 0), (27, .getfield 22592), (30, .invokeinterface 160 1489), (33, .jsr 0), (34, .iconst 4), (35, .iload 1), (36, .imul), (37, .aload 0), (38, .getfield 22778), (41, .iload 1), (42, .iaload), (43, .iadd), (44, .istore 2), (45, .aload 0), (46, .getfield 22826), (49, .iload 2), (50, .aload 0), (51, .getfield 22569), (54, .lastore), (55, .aload 0), (56, .getfield 22842), (59, .iload 2), (60, .aload 0), (61, .getfield 22584), (64, .iastore), (65, .aload 0), (66, .getfield 22850), (69, .iload 2), (70, .aload 0), (71, .getfield 22592), (74, .iastore), (75, .aload 0), (76, .getfield 22834), (79, .iload 2), (80, .jsr_w 0), (81, .lastore), (82, .aload 0), (83, .getfield 22778), (86, .iload 1), (87, .dup2), (88, .iaload), (89, .iconst 1), (90, .iadd), (91, .iastore), (92, .iconst 1), (93, .jsr 0)]
/-- JobTextModel.readSide(I)Z -/
def zc_179 : List (Nat × Instr) := [(0, .aload 0), (1, .iconst 1), (2, .invokeinterface 168 1481), (5, .ifCond .ne 10), (8, .iconst 0), (9, .jsr 0), (10, .aload 0), (11, .getfield 22786), (14, .iload 1), (15, .iaload), (16, .iconst 3), (17, .if_icmp .ne 34), (20, .aload 0), (21, .iconst 3), (22, .aload 0), (23, .getfield 22584), (26, .aload 0), (27, .getfield 22592), (30, .invokeinterface 160 1489), (33, .jsr 0), (34, .iconst 0), (35, .istore 2), (36, .iload 2), (37, .aload 0), (38, .getfield 22786), (41, .iload 1), (42, .iaload), (43, .if_icmp .ge 85), (46, .aload 0), (47, .getfield 22890), (50, .iconst 3), (51, .iload 1), (52, .imul), (53, .iload 2), (54, .iadd), (55, .laload), (56, .aload 0), (57, .getfield 22569), (60, .lcmp), (61, .ifCond .ne 79), (64, .aload 0), (65, .iconst 6), (67, .aload 0), (68, .getfield 22584), (71, .aload 0), (72, .getfield 22592), (75, .invokeinterface 160 1489), (78, .jsr 0), (79, .iinc 2 1), (82, .goto 36), (85, .aload 0), (86, .getfield 22890), (89, .iconst 3), (90, .iload 1), (91, .imul), (92, .aload 0), (93, .getfield 22786), (96, .iload 1), (97, .iaload), (98, .iadd), (99, .aload 0), (100, .getfield 22569), (103, .lastore), (104, .aload 0), (105, .getfield 22786), (108, .iload 1), (109, .dup2), (110, .iaload), (111, .iconst 1), (112, .iadd), (113, .iastore), (114, .iconst 1), (115, .jsr 0)]
/-- JobTextModel.readNumber(II)Z -/
def zc_180 : List (Nat × Instr) := [(0, .aload 0), (1, .iconst 2), (2, .invokeinterface 168 1481), (5, .ifCond .eq 21), (8, .aload 0), (9, .iload 1), (10, .iload 2), (11, .invokeinterface 169 1485), (14, .ifCond .eq 21), (17, .iconst 1), (18, .goto 22), (21, .iconst 0), (22, .jsr 0)]
/-- JobTextModel.readProperty(II)Z -/
def zc_181 : List (Nat × Instr) := [(0, .iconst 1), (1, .istore 3), (2, .iload 2), (3, .tableswitch 183 16 20 #[36, 57, 79, 142, 161]), (36, .aload 0), (37, .iconst 1), (38, .iconst 64), (40, .invokeinterface 180 1485), (43, .istore 3), (44, .aload 0), (45, .getfield 22730), (48, .iload 1), (49, .aload 0), (50, .getfield 22576), (53, .iastore), (54, .goto 189), (57, .aload 0), (58, .iconst 1), (59, .iconst 99999), (62, .invokeinterface 180 1485), (65, .istore 3), (66, .aload 0), (67, .getfield 22738), (70, .iload 1), (71, .aload 0), (72, .getfield 22576), (75, .iastore), (76, .goto 189), (79, .aload 0), (80, .iconst 0), (81, .iconst 999), (84, .invokeinterface 180 1485), (87, .istore 3), (88, .aload 0), (89, .getfield 22746), (92, .iload 1), (93, .aload 0), (94, .getfield 22576), (97, .iastore), (98, .iload 3), (99, .ifCond .eq 127), (102, .aload 0), (103, .iconst 128), (106, .invokeinterface 168 1481), (109, .ifCond .eq 127), (112, .aload 0), (113, .iconst 1), (114, .iconst 999), (117, .invokeinterface 180 1485), (120, .ifCond .eq 127), (123, .iconst 1), (124, .goto 128), (127, .iconst 0), (128, .istore 3), (129, .aload 0), (130, .getfield 22754), (133, .iload 1), (134, .aload 0), (135, .getfield 22576), (138, .iastore), (139, .goto 189), (142, .aload 0), (143, .iconst 1), (144, .invokeinterface 168 1481), (147, .istore 3), (148, .aload 0), (149, .getfield 22770), (152, .iload 1), (153, .aload 0), (154, .getfield 22569), (157, .lastore), (158, .goto 189), (161, .aload 0), (162, .iconst 1), (163, .iconst 9999), (166, .invokeinterface 180 1485), (169, .istore 3), (170, .aload 0), (171, .getfield 22762), (174, .iload 1), (175, .aload 0), (176, .getfield 22576), (179, .iastore), (180, .goto 189), (183, .aload 0), (184, .iload 1), (185, .invokeinterface 179 1481), (188, .istore 3), (189, .iload 3), (190, .jsr 0)]
/-- JobTextModel.readRest(IZ)Z -/
def zc_182 : List (Nat × Instr) := [(0, .aload 0), (1, .getfield 22722), (4, .iload 1), (5, .iaload), (6, .invokeinterface 176 5), (9, .istore 3), (10, .iload 2), (11, .istore 4), (13, .iload 2), (14, .istore 5), (16, .iload 2), (17, .istore 6), (19, .aload 0), (20, .iload 3), (21, .iconst 4), (22, .ior), (23, .iload 5), (25, .ifCond .eq 33), (28, .iconst 8), (30, .goto 34), (33, .iconst 0), (34, .ior), (35, .iload 6), (37, .ifCond .eq 45), (40, .iconst 32), (42, .goto 46), (45, .iconst 0), (46, .ior), (47, .invokeinterface 168 1481), (50, .ifCond .ne 55), (53, .iconst 0), (54, .jsr 0), (55, .aload 0), (56, .getfield 22560), (59, .iconst 2), (60, .if_icmp .ne 65), (63, .iconst 1), (64, .jsr 0), (65, .aload 0), (66, .getfield 22560), (69, .iconst 5), (70, .if_icmp .ne 86), (73, .iconst 0), (74, .istore 6), (76, .aload 0), (77, .iload 1), (78, .invokeinterface 177 1481), (81, .istore 7), (83, .goto 165), (86, .aload 0), (87, .getfield 22560), (90, .iconst 3), (91, .if_icmp .ne 121), (94, .iload 4), (96, .istore 6), (98, .iload 4), (100, .ifCond .eq 111), (103, .aload 0), (104, .iload 1), (105, .invokeinterface 178 1481), (108, .goto 116), (111, .aload 0), (112, .iload 1), (113, .invokeinterface 179 1481), (116, .istore 7), (118, .goto 165), (121, .aload 0), (122, .getfield 22560), (125, .istore 8), (127, .iload 3), (128, .iconst 1), (129, .iload 8), (131, .ishl), (132, .iconst (-1)), (133, .ixor), (134, .iand), (135, .istore 3), (136, .iconst 0), (137, .istore 4), (139, .iconst 0), (140, .istore 6), (142, .iload 8), (144, .iconst 21), (146, .if_icmp .ne 153), (149, .iconst 1), (150, .goto 154), (153, .iconst 0), (154, .istore 5), (156, .aload 0), (157, .iload 1), (158, .iload 8), (160, .invokeinterface 181 1485), (163, .istore 7), (165, .iload 7), (167, .ifCond .ne 172), (170, .iconst 0), (171, .jsr 0), (172, .goto 19)]
/-- JobTextModel.readSource()Z -/
def zc_183 : List (Nat × Instr) := [(0, .aload 0), (1, .iconst 12), (3, .aload 0), (4, .getfield 22666), (7, .iconst 2), (8, .iaload), (9, .invokeinterface 171 1484), (12, .aload 0), (13, .invokeinterface 175 1477), (16, .ifCond .ne 21), (19, .iconst 0), (20, .jsr 0), (21, .iconst 80), (23, .aload 0), (24, .getfield 22666), (27, .iconst 2), (28, .iaload), (29, .iadd), (30, .istore 1), (31, .aload 0), (32, .getfield 22666), (35, .iconst 2), (36, .dup2), (37, .iaload), (38, .iconst 1), (39, .iadd), (40, .iastore), (41, .aload 0), (42, .iload 1), (43, .iconst 0), (44, .invokeinterface 182 1485), (47, .jsr 0)]
/-- JobTextModel.readOperator()Z -/
def zc_184 : List (Nat × Instr) := [(0, .aload 0), (1, .iconst 12), (3, .aload 0), (4, .getfield 22666), (7, .iconst 2), (8, .iaload), (9, .invokeinterface 171 1484), (12, .aload 0), (13, .invokeinterface 175 1477), (16, .ifCond .eq 38), (19, .aload 0), (20, .iconst 16), (22, .invokeinterface 168 1481), (25, .ifCond .eq 38), (28, .aload 0), (29, .iconst 1069547520), (32, .invokeinterface 168 1481), (35, .ifCond .ne 40), (38, .iconst 0), (39, .jsr 0), (40, .iconst 80), (42, .aload 0), (43, .getfield 22666), (46, .iconst 2), (47, .iaload), (48, .iadd), (49, .istore 1), (50, .aload 0), (51, .getfield 22722), (54, .iload 1), (55, .aload 0), (56, .getfield 22560), (59, .iconst 22), (61, .isub), (62, .iconst 1), (63, .iadd), (64, .iastore), (65, .aload 0), (66, .getfield 22810), (69, .iload 1), (70, .aload 0), (71, .getfield 22584), (74, .iastore), (75, .aload 0), (76, .getfield 22818), (79, .iload 1), (80, .aload 0), (81, .getfield 22592), (84, .iastore), (85, .aload 0), (86, .iconst 16384), (89, .invokeinterface 168 1481), (92, .ifCond .eq 103), (95, .aload 0), (96, .iload 1), (97, .invokeinterface 178 1481), (100, .ifCond .ne 105), (103, .iconst 0), (104, .jsr 0), (105, .aload 0), (106, .getfield 22666), (109, .iconst 2), (110, .dup2), (111, .iaload), (112, .iconst 1), (113, .iadd), (114, .iastore), (115, .aload 0), (116, .iload 1), (117, .iconst 1), (118, .invokeinterface 182 1485), (121, .jsr 0)]
/-- JobTextModel.readText(I)Z -/
def zc_185 : List (Nat × Instr) := [(0, .aload 0), (1, .iconst 0), (2, .putfield 22600), (5, .aload 0), (6, .getfield 22610), (9, .iconst 0), (10, .iload 1), (11, .iastore), (12, .aload 0), (13, .getfield 22618), (16, .iconst 0), (17, .iconst 0), (18, .iastore), (19, .aload 0), (20, .invokeinterface 157 1476), (23, .aload 0), (24, .iconst 16128), (27, .invokeinterface 168 1481), (30, .ifCond .ne 35), (33, .iconst 0), (34, .jsr 0), (35, .iconst 1), (36, .istore 2), (37, .aload 0), (38, .getfield 22560), (41, .tableswitch 134 8 13 #[80, 102, 110, 126, 134, 118]), (80, .aload 0), (81, .getfield 22600), (84, .ifCond .ne 89), (87, .iconst 1), (88, .jsr 0), (89, .aload 0), (90, .dup), (91, .getfield 22600), (94, .iconst 1), (95, .isub), (96, .putfield 22600), (99, .goto 139), (102, .aload 0), (103, .invokeinterface 170 1477), (106, .istore 2), (107, .goto 139), (110, .aload 0), (111, .invokeinterface 172 1477), (114, .istore 2), (115, .goto 139), (118, .aload 0), (119, .invokeinterface 173 1477), (122, .istore 2), (123, .goto 139), (126, .aload 0), (127, .invokeinterface 183 1477), (130, .istore 2), (131, .goto 139), (134, .aload 0), (135, .invokeinterface 184 1477), (138, .istore 2), (139, .iload 2), (140, .ifCond .ne 145), (143, .iconst 0), (144, .jsr 0), (145, .goto 23)]
/-- JobTextModel.sideOf(IJ)I -/
def zc_186 : List (Nat × Instr) := [(0, .iconst 0), (1, .istore 4), (3, .iload 4), (5, .aload 0), (6, .getfield 22786), (9, .iload 1), (10, .iaload), (11, .if_icmp .ge 39), (14, .aload 0), (15, .getfield 22890), (18, .iconst 3), (19, .iload 1), (20, .imul), (21, .iload 4), (23, .iadd), (24, .laload), (25, .lload 2), (26, .lcmp), (27, .ifCond .ne 33), (30, .iload 4), (32, .ireturn), (33, .iinc 4 1), (36, .goto 3), (39, .iconst (-5)), (41, .ireturn)]
/-- JobTextModel.judgeInput(I)Z -/
def zc_187 : List (Nat × Instr) := [(0, .aload 0), (1, .iconst 2), (2, .aload 0), (3, .getfield 22826), (6, .iload 1), (7, .laload), (8, .invokeinterface 174 1485), (11, .istore 2), (12, .iload 2), (13, .ifCond .ge 35), (16, .aload 0), (17, .iconst 7), (19, .aload 0), (20, .getfield 22842), (23, .iload 1), (24, .iaload), (25, .aload 0), (26, .getfield 22850), (29, .iload 1), (30, .iaload), (31, .invokeinterface 160 1489), (34, .jsr 0), (35, .aload 0), (36, .getfield 22874), (39, .iload 1), (40, .iload 2), (41, .iastore), (42, .aload 0), (43, .getfield 22882), (46, .iload 1), (47, .iconst (-5)), (49, .iastore), (50, .aload 0), (51, .getfield 22834), (54, .iload 1), (55, .laload), (56, .jsr_w 0), (57, .lcmp), (58, .ifCond .eq 109), (61, .aload 0), (62, .getfield 22882), (65, .iload 1), (66, .aload 0), (67, .iconst 80), (69, .iload 2), (70, .iadd), (71, .aload 0), (72, .getfield 22834), (75, .iload 1), (76, .laload), (77, .invokeinterface 186 1485), (80, .iastore), (81, .aload 0), (82, .getfield 22882), (85, .iload 1), (86, .iaload), (87, .ifCond .ge 109), (90, .aload 0), (91, .iconst 8), (93, .aload 0), (94, .getfield 22858), (97, .iload 1), (98, .iaload), (99, .aload 0), (100, .getfield 22866), (103, .iload 1), (104, .iaload), (105, .invokeinterface 160 1489), (108, .jsr 0), (109, .aload 0), (110, .getfield 22722), (113, .iconst 80), (115, .iload 2), (116, .iadd), (117, .iaload), (118, .iconst 8), (120, .if_icmp .ne 144), (123, .aload 0), (124, .iconst 9), (126, .aload 0), (127, .getfield 22842), (130, .iload 1), (131, .iaload), (132, .aload 0), (133, .getfield 22850), (136, .iload 1), (137, .iaload), (138, .invokeinterface 160 1489), (141, .ifCond .eq 148), (144, .iconst 1), (145, .goto 149), (148, .iconst 0), (149, .jsr 0)]
/-- JobTextModel.judgeOperators()Z -/
def zc_188 : List (Nat × Instr) := [(0, .iconst 80), (2, .istore 1), (3, .iload 1), (4, .iconst 80), (6, .aload 0), (7, .getfield 22666), (10, .iconst 2), (11, .iaload), (12, .iadd), (13, .if_icmp .ge 152), (16, .iconst 0), (17, .istore 2), (18, .iload 2), (19, .aload 0), (20, .getfield 22778), (23, .iload 1), (24, .iaload), (25, .if_icmp .ge 48), (28, .aload 0), (29, .iconst 4), (30, .iload 1), (31, .imul), (32, .iload 2), (33, .iadd), (34, .invokeinterface 187 1481), (37, .ifCond .ne 42), (40, .iconst 0), (41, .jsr 0), (42, .iinc 2 1), (45, .goto 18), (48, .aload 0), (49, .getfield 22778), (52, .iload 1), (53, .iaload), (54, .istore 2), (55, .aload 0), (56, .getfield 22722), (59, .iload 1), (60, .iaload), (61, .ifCond .eq 117), (64, .aload 0), (65, .getfield 22722), (68, .iload 1), (69, .iaload), (70, .iconst 8), (72, .if_icmp .eq 117), (75, .aload 0), (76, .getfield 22722), (79, .iload 1), (80, .iaload), (81, .iconst 5), (82, .if_icmp .ne 93), (85, .iload 2), (86, .iconst 2), (87, .if_icmp .ne 121), (90, .goto 117), (93, .aload 0), (94, .getfield 22722), (97, .iload 1), (98, .iaload), (99, .iconst 6), (101, .if_icmp .ne 112), (104, .iload 2), (105, .iconst 1), (106, .if_icmp .le 121), (109, .goto 117), (112, .iload 2), (113, .iconst 1), (114, .if_icmp .ne 121), (117, .iconst 1), (118, .goto 122), (121, .iconst 0), (122, .istore 3), (123, .iload 3), (124, .ifCond .ne 146), (127, .aload 0), (128, .iconst 10), (130, .aload 0), (131, .getfield 22810), (134, .iload 1), (135, .iaload), (136, .aload 0), (137, .getfield 22818), (140, .iload 1), (141, .iaload), (142, .invokeinterface 160 1489), (145, .jsr 0), (146, .iinc 1 1), (149, .goto 3), (152, .iconst 1), (153, .jsr 0)]
/-- JobTextModel.judgeLoops()Z -/
def zc_189 : List (Nat × Instr) := [(0, .iconst 0), (1, .istore 1), (2, .iload 1), (3, .aload 0), (4, .getfield 22682), (7, .iconst 2), (8, .iaload), (9, .if_icmp .ge 167), (12, .iconst 32), (14, .iconst 2), (15, .iload 1), (16, .imul), (17, .iadd), (18, .istore 2), (19, .iload 2), (20, .istore 3), (21, .iload 3), (22, .iload 2), (23, .iconst 2), (24, .iadd), (25, .if_icmp .ge 79), (28, .aload 0), (29, .getfield 22962), (32, .iload 3), (33, .aload 0), (34, .iconst 2), (35, .aload 0), (36, .getfield 22938), (39, .iload 3), (40, .laload), (41, .invokeinterface 174 1485), (44, .iastore), (45, .aload 0), (46, .getfield 22962), (49, .iload 3), (50, .iaload), (51, .ifCond .ge 73), (54, .aload 0), (55, .iconst 7), (57, .aload 0), (58, .getfield 22946), (61, .iload 3), (62, .iaload), (63, .aload 0), (64, .getfield 22954), (67, .iload 3), (68, .iaload), (69, .invokeinterface 160 1489), (72, .jsr 0), (73, .iinc 3 1), (76, .goto 21), (79, .aload 0), (80, .getfield 22722), (83, .iconst 80), (85, .aload 0), (86, .getfield 22962), (89, .iload 2), (90, .iaload), (91, .iadd), (92, .iaload), (93, .iconst 8), (95, .if_icmp .ne 117), (98, .aload 0), (99, .iconst 9), (101, .aload 0), (102, .getfield 22946), (105, .iload 2), (106, .iaload), (107, .aload 0), (108, .getfield 22954), (111, .iload 2), (112, .iaload), (113, .invokeinterface 160 1489), (116, .jsr 0), (117, .aload 0), (118, .getfield 22722), (121, .iconst 80), (123, .aload 0), (124, .getfield 22962), (127, .iload 2), (128, .iconst 1), (129, .iadd), (130, .iaload), (131, .iadd), (132, .iaload), (133, .iconst 6), (135, .if_icmp .eq 161), (138, .aload 0), (139, .iconst 12), (141, .aload 0), (142, .getfield 22946), (145, .iload 2), (146, .iconst 1), (147, .iadd), (148, .iaload), (149, .aload 0), (150, .getfield 22954), (153, .iload 2), (154, .iconst 1), (155, .iadd), (156, .iaload), (157, .invokeinterface 160 1489), (160, .jsr 0), (161, .iinc 1 1), (164, .goto 2), (167, .iconst 1), (168, .jsr 0)]
/-- JobTextModel.findComes()V -/
def zc_190 : List (Nat × Instr) := [(0, .aload 0), (1, .getfield 22666), (4, .iconst 2), (5, .iaload), (6, .istore 1), (7, .iconst 0), (8, .istore 2), (9, .iload 2), (10, .iconst 1600), (13, .if_icmp .ge 29), (16, .aload 0), (17, .getfield 23114), (20, .iload 2), (21, .iconst 0), (22, .bastore), (23, .iinc 2 1), (26, .goto 9), (29, .iconst 0), (30, .istore 2), (31, .iload 2), (32, .iload 1), (33, .if_icmp .ge 87), (36, .iconst 0), (37, .istore 3), (38, .iload 3), (39, .aload 0), (40, .getfield 22778), (43, .iconst 80), (45, .iload 2), (46, .iadd), (47, .iaload), (48, .if_icmp .ge 81), (51, .aload 0), (52, .getfield 23114), (55, .iconst 40), (57, .iload 2), (58, .imul), (59, .aload 0), (60, .getfield 22874), (63, .iconst 4), (64, .iconst 80), (66, .iload 2), (67, .iadd), (68, .imul), (69, .iload 3), (70, .iadd), (71, .iaload), (72, .iadd), (73, .iconst 1), (74, .bastore), (75, .iinc 3 1), (78, .goto 38), (81, .iinc 2 1), (84, .goto 31), (87, .iconst 0), (88, .istore 2), (89, .iload 2), (90, .iload 1), (91, .if_icmp .ge 189), (94, .iconst 0), (95, .istore 3), (96, .iload 3), (97, .iload 1), (98, .if_icmp .ge 183), (101, .iconst 0), (102, .istore 4), (104, .iload 4), (106, .iload 1), (107, .if_icmp .ge 177), (110, .aload 0), (111, .getfield 23114), (114, .iconst 40), (116, .iload 3), (117, .imul), (118, .iload 2), (119, .iadd), (120, .baload), (121, .ifCond .eq 177), (124, .aload 0), (125, .getfield 23114), (128, .iconst 40), (130, .iload 3), (131, .imul), (132, .iload 4), (134, .iadd), (135, .aload 0), (136, .getfield 23114), (139, .iconst 40), (141, .iload 3), (142, .imul), (143, .iload 4), (145, .iadd), (146, .baload), (147, .ifCond .ne 165), (150, .aload 0), (151, .getfield 23114), (154, .iconst 40), (156, .iload 2), (157, .imul), (158, .iload 4), (160, .iadd), (161, .baload), (162, .ifCond .eq 169), (165, .iconst 1), (166, .goto 170), (169, .iconst 0), (170, .bastore), (171, .iinc 4 1), (174, .goto 104), (177, .iinc 3 1), (180, .goto 96), (183, .iinc 2 1), (186, .goto 89), (189, .return_)]
/-- JobTextModel.judgeRings()Z -/
def zc_191 : List (Nat × Instr) := [(0, .aload 0), (1, .invokeinterface 190 1476), (4, .iconst 0), (5, .istore 1), (6, .iload 1), (7, .aload 0), (8, .getfield 22666), (11, .iconst 2), (12, .iaload), (13, .if_icmp .ge 59), (16, .aload 0), (17, .getfield 23114), (20, .iconst 41), (22, .iload 1), (23, .imul), (24, .baload), (25, .ifCond .eq 53), (28, .aload 0), (29, .iconst 13), (31, .aload 0), (32, .getfield 22794), (35, .iconst 80), (37, .iload 1), (38, .iadd), (39, .iaload), (40, .aload 0), (41, .getfield 22802), (44, .iconst 80), (46, .iload 1), (47, .iadd), (48, .iaload), (49, .invokeinterface 160 1489), (52, .jsr 0), (53, .iinc 1 1), (56, .goto 6), (59, .iconst 0), (60, .istore 1), (61, .iload 1), (62, .aload 0), (63, .getfield 22682), (66, .iconst 2), (67, .iaload), (68, .if_icmp .ge 146), (71, .iconst 32), (73, .iconst 2), (74, .iload 1), (75, .imul), (76, .iadd), (77, .istore 2), (78, .aload 0), (79, .getfield 22962), (82, .iload 2), (83, .iaload), (84, .aload 0), (85, .getfield 22962), (88, .iload 2), (89, .iconst 1), (90, .iadd), (91, .iaload), (92, .if_icmp .eq 140), (95, .aload 0), (96, .getfield 23114), (99, .iconst 40), (101, .aload 0), (102, .getfield 22962), (105, .iload 2), (106, .iaload), (107, .imul), (108, .aload 0), (109, .getfield 22962), (112, .iload 2), (113, .iconst 1), (114, .iadd), (115, .iaload), (116, .iadd), (117, .baload), (118, .ifCond .ne 140), (121, .aload 0), (122, .iconst 14), (124, .aload 0), (125, .getfield 22946), (128, .iload 2), (129, .iaload), (130, .aload 0), (131, .getfield 22954), (134, .iload 2), (135, .iaload), (136, .invokeinterface 160 1489), (139, .jsr 0), (140, .iinc 1 1), (143, .goto 61), (146, .iconst 1), (147, .jsr 0)]
/-- JobTextModel.isReady(I)Z -/
def zc_192 : List (Nat × Instr) := [(0, .iconst 1), (1, .istore 2), (2, .iconst 0), (3, .istore 3), (4, .iload 3), (5, .aload 0), (6, .getfield 22778), (9, .iload 1), (10, .iaload), (11, .if_icmp .ge 51), (14, .iload 2), (15, .ifCond .eq 43), (18, .aload 0), (19, .getfield 23018), (22, .iconst 80), (24, .aload 0), (25, .getfield 22874), (28, .iconst 4), (29, .iload 1), (30, .imul), (31, .iload 3), (32, .iadd), (33, .iaload), (34, .iadd), (35, .iaload), (36, .ifCond .lt 43), (39, .iconst 1), (40, .goto 44), (43, .iconst 0), (44, .istore 2), (45, .iinc 3 1), (48, .goto 4), (51, .iload 2), (52, .jsr 0)]
/-- JobTextModel.layOut()V -/
def zc_193 : List (Nat × Instr) := [(0, .aload 0), (1, .getfield 22666), (4, .iconst 2), (5, .iaload), (6, .istore 1), (7, .iconst 80), (9, .istore 2), (10, .iload 2), (11, .istore 3), (12, .iload 3), (13, .iload 2), (14, .iload 1), (15, .iadd), (16, .if_icmp .ge 33), (19, .aload 0), (20, .getfield 23018), (23, .iload 3), (24, .iconst (-5)), (26, .iastore), (27, .iinc 3 1), (30, .goto 12), (33, .iconst 0), (34, .istore 3), (35, .iload 3), (36, .iload 1), (37, .if_icmp .ge 177), (40, .iload 2), (41, .istore 4), (43, .aload 0), (44, .getfield 23018), (47, .iload 4), (49, .iaload), (50, .ifCond .ge 62), (53, .aload 0), (54, .iload 4), (56, .invokeinterface 192 1481), (59, .ifCond .ne 68), (62, .iinc 4 1), (65, .goto 43), (68, .aload 0), (69, .getfield 23018), (72, .iload 4), (74, .iload 3), (75, .iastore), (76, .aload 0), (77, .getfield 23026), (80, .iload 2), (81, .iload 3), (82, .iadd), (83, .iload 4), (85, .iload 2), (86, .isub), (87, .iastore), (88, .aload 0), (89, .getfield 23010), (92, .iload 4), (94, .iconst 0), (95, .iastore), (96, .iconst 0), (97, .istore 5), (99, .iload 5), (101, .aload 0), (102, .getfield 22778), (105, .iload 4), (107, .iaload), (108, .if_icmp .ge 171), (111, .aload 0), (112, .getfield 23010), (115, .iload 2), (116, .aload 0), (117, .getfield 22874), (120, .iconst 4), (121, .iload 4), (123, .imul), (124, .iload 5), (126, .iadd), (127, .iaload), (128, .iadd), (129, .iaload), (130, .iconst 1), (131, .iadd), (132, .istore 6), (134, .aload 0), (135, .getfield 23010), (138, .iload 4), (140, .iload 6), (142, .aload 0), (143, .getfield 23010), (146, .iload 4), (148, .iaload), (149, .if_icmp .le 157), (152, .iload 6), (154, .goto 164), (157, .aload 0), (158, .getfield 23010), (161, .iload 4), (163, .iaload), (164, .iastore), (165, .iinc 5 1), (168, .goto 99), (171, .iinc 3 1), (174, .goto 35), (177, .return_)]
/-- JobTextModel.keyedAt(II)J -/
def zc_194 : List (Nat × Instr) := [(0, .aload 0), (1, .getfield 23050), (4, .iconst 80), (6, .aload 0), (7, .getfield 22874), (10, .iconst 4), (11, .iload 1), (12, .imul), (13, .iload 2), (14, .iadd), (15, .iaload), (16, .iadd), (17, .laload), (18, .lreturn)]
/-- JobTextModel.findKey(I)V -/
def zc_195 : List (Nat × Instr) := [(0, .aload 0), (1, .getfield 22722), (4, .iload 1), (5, .iaload), (6, .istore 2), (7, .aload 0), (8, .getfield 23050), (11, .iload 1), (12, .aload 0), (13, .getfield 22770), (16, .iload 1), (17, .laload), (18, .lastore), (19, .aload 0), (20, .getfield 22770), (23, .iload 1), (24, .laload), (25, .jsr_w 0), (26, .lcmp), (27, .ifCond .eq 31), (30, .return_), (31, .iload 2), (32, .iconst 2), (33, .if_icmp .eq 52), (36, .iload 2), (37, .iconst 4), (38, .if_icmp .eq 52), (41, .iload 2), (42, .iconst 7), (44, .if_icmp .eq 52), (47, .iload 2), (48, .iconst 5), (49, .if_icmp .ne 67), (52, .aload 0), (53, .getfield 23050), (56, .iload 1), (57, .aload 0), (58, .iload 1), (59, .iconst 0), (60, .invokeinterface 194 1486), (63, .lastore), (64, .goto 125), (67, .iload 2), (68, .iconst 6), (70, .if_icmp .ne 125), (73, .aload 0), (74, .iload 1), (75, .iconst 0), (76, .invokeinterface 194 1486), (79, .lstore 3), (80, .iconst 1), (81, .istore 5), (83, .iload 5), (85, .aload 0), (86, .getfield 22778), (89, .iload 1), (90, .iaload), (91, .if_icmp .ge 118), (94, .aload 0), (95, .iload 1), (96, .iload 5), (98, .invokeinterface 194 1486), (101, .lload 3), (102, .lcmp), (103, .ifCond .ne 110), (106, .lload 3), (107, .goto 111), (110, .jsr_w 0), (111, .lstore 3), (112, .iinc 5 1), (115, .goto 83), (118, .aload 0), (119, .getfield 23050), (122, .iload 1), (123, .lload 3), (124, .lastore), (125, .return_)]
/-- JobTextModel.judgeKeys()Z -/
def zc_196 : List (Nat × Instr) := [(0, .iconst 0), (1, .istore 1), (2, .iload 1), (3, .aload 0), (4, .getfield 22666), (7, .iconst 2), (8, .iaload), (9, .if_icmp .ge 145), (12, .iconst 80), (14, .aload 0), (15, .getfield 23026), (18, .iconst 80), (20, .iload 1), (21, .iadd), (22, .iaload), (23, .iadd), (24, .istore 2), (25, .aload 0), (26, .getfield 22722), (29, .iload 2), (30, .iaload), (31, .iconst 4), (32, .if_icmp .eq 56), (35, .aload 0), (36, .getfield 22722), (39, .iload 2), (40, .iaload), (41, .iconst 5), (42, .if_icmp .eq 56), (45, .aload 0), (46, .getfield 22722), (49, .iload 2), (50, .iaload), (51, .iconst 7), (53, .if_icmp .ne 60), (56, .iconst 1), (57, .goto 61), (60, .iconst 0), (61, .istore 3), (62, .iconst 0), (63, .istore 4), (65, .iload 4), (67, .aload 0), (68, .getfield 22778), (71, .iload 2), (72, .iaload), (73, .if_icmp .ge 134), (76, .iload 3), (77, .ifCond .eq 134), (80, .aload 0), (81, .iload 2), (82, .iload 4), (84, .invokeinterface 194 1486), (87, .jsr_w 0), (88, .lcmp), (89, .ifCond .eq 109), (92, .aload 0), (93, .iload 2), (94, .iload 4), (96, .invokeinterface 194 1486), (99, .aload 0), (100, .iload 2), (101, .iconst 0), (102, .invokeinterface 194 1486), (105, .lcmp), (106, .ifCond .eq 128), (109, .aload 0), (110, .iconst 15), (112, .aload 0), (113, .getfield 22810), (116, .iload 2), (117, .iaload), (118, .aload 0), (119, .getfield 22818), (122, .iload 2), (123, .iaload), (124, .invokeinterface 160 1489), (127, .jsr 0), (128, .iinc 4 1), (131, .goto 65), (134, .aload 0), (135, .iload 2), (136, .invokeinterface 195 1480), (139, .iinc 1 1), (142, .goto 2), (145, .iconst 1), (146, .jsr 0)]
/-- JobTextModel.big()V -/
def zc_197 : List (Nat × Instr) := [(0, .aload 0), (1, .jsr_w (-5)), (4, .putfield 23121), (7, .aload 0), (8, .jsr_w (-5)), (11, .putfield 23129), (14, .return_)]
/-- JobTextModel.fraction(JJ)V -/
def zc_198 : List (Nat × Instr) := [(0, .lload 1), (1, .lstore 5), (3, .lload 3), (4, .lstore 7), (6, .lload 7), (8, .jsr_w 0), (9, .lcmp), (10, .ifCond .eq 31), (13, .lload 5), (15, .lload 7), (17, .lrem), (18, .lstore 9), (20, .lload 7), (22, .lstore 5), (24, .lload 9), (26, .lstore 7), (28, .goto 6), (31, .aload 0), (32, .lload 1), (33, .lload 5), (35, .ldiv), (36, .putfield 23121), (39, .aload 0), (40, .lload 3), (41, .lload 5), (43, .ldiv), (44, .putfield 23129), (47, .aload 0), (48, .getfield 23121), (51, .jsr_w 1000000000), (54, .lcmp), (55, .ifCond .gt 69), (58, .aload 0), (59, .getfield 23129), (62, .jsr_w 1000000000), (65, .lcmp), (66, .ifCond .le 73), (69, .aload 0), (70, .invokeinterface 197 1476), (73, .return_)]
/-- JobTextModel.comesTo(I)V -/
def zc_199 : List (Nat × Instr) := [(0, .jsr_w 0), (1, .lstore 2), (2, .jsr_w 1), (3, .lstore 4), (5, .iconst 0), (6, .istore 6), (8, .iload 6), (10, .aload 0), (11, .getfield 22778), (14, .iload 1), (15, .iaload), (16, .if_icmp .ge 244), (19, .iconst 80), (21, .aload 0), (22, .getfield 22874), (25, .iconst 4), (26, .iload 1), (27, .imul), (28, .iload 6), (30, .iadd), (31, .iaload), (32, .iadd), (33, .istore 7), (35, .aload 0), (36, .getfield 22882), (39, .iconst 4), (40, .iload 1), (41, .imul), (42, .iload 6), (44, .iadd), (45, .iaload), (46, .ifCond .ge 53), (49, .iconst 1), (50, .goto 54), (53, .iconst 0), (54, .istore 8), (56, .iload 8), (58, .ifCond .eq 71), (61, .aload 0), (62, .getfield 23058), (65, .iload 7), (67, .laload), (68, .goto 78), (71, .aload 0), (72, .getfield 23074), (75, .iload 7), (77, .laload), (78, .lstore 9), (80, .iload 8), (82, .ifCond .eq 95), (85, .aload 0), (86, .getfield 23066), (89, .iload 7), (91, .laload), (92, .goto 102), (95, .aload 0), (96, .getfield 23082), (99, .iload 7), (101, .laload), (102, .lstore 11), (104, .lload 2), (105, .jsr_w 0), (106, .lcmp), (107, .ifCond .lt 117), (110, .lload 9), (112, .jsr_w 0), (113, .lcmp), (114, .ifCond .ge 124), (117, .aload 0), (118, .invokeinterface 197 1476), (121, .goto 227), (124, .iload 6), (126, .ifCond .ne 144), (129, .aload 0), (130, .lload 9), (132, .putfield 23121), (135, .aload 0), (136, .lload 11), (138, .putfield 23129), (141, .goto 227), (144, .aload 0), (145, .getfield 22722), (148, .iload 1), (149, .iaload), (150, .iconst 5), (151, .if_icmp .ne 208), (154, .lload 9), (156, .lload 4), (158, .lmul), (159, .lload 2), (160, .lload 11), (162, .lmul), (163, .lcmp), (164, .ifCond .ge 171), (167, .iconst 1), (168, .goto 172), (171, .iconst 0), (172, .istore 13), (174, .aload 0), (175, .iload 13), (177, .ifCond .eq 185), (180, .lload 9), (182, .goto 186), (185, .lload 2), (186, .putfield 23121), (189, .aload 0), (190, .iload 13), (192, .ifCond .eq 200), (195, .lload 11), (197, .goto 202), (200, .lload 4), (202, .putfield 23129), (205, .goto 227), (208, .aload 0), (209, .lload 2), (210, .lload 11), (212, .lmul), (213, .lload 9), (215, .lload 4), (217, .lmul), (218, .ladd), (219, .lload 4), (221, .lload 11), (223, .lmul), (224, .invokeinterface 198 1484), (227, .aload 0), (228, .getfield 23121), (231, .lstore 2), (232, .aload 0), (233, .getfield 23129), (236, .lstore 4), (238, .iinc 6 1), (241, .goto 8), (244, .return_)]
/-- JobTextModel.findFlow(I)V -/
def zc_200 : List (Nat × Instr) := [(0, .aload 0), (1, .getfield 22722), (4, .iload 1), (5, .iaload), (6, .ifCond .ne 41), (9, .aload 0), (10, .aload 0), (11, .getfield 22738), (14, .iload 1), (15, .iaload), (16, .ifCond .ne 23), (19, .jsr_w 1), (20, .goto 30), (23, .aload 0), (24, .getfield 22738), (27, .iload 1), (28, .iaload), (29, .i2l), (30, .putfield 23121), (33, .aload 0), (34, .jsr_w 1), (35, .putfield 23129), (38, .goto 46), (41, .aload 0), (42, .iload 1), (43, .invokeinterface 199 1480), (46, .aload 0), (47, .getfield 23121), (50, .lstore 2), (51, .aload 0), (52, .getfield 23129), (55, .lstore 4), (57, .aload 0), (58, .getfield 22754), (61, .iload 1), (62, .iaload), (63, .ifCond .ne 70), (66, .jsr_w 1), (67, .goto 77), (70, .aload 0), (71, .getfield 22746), (74, .iload 1), (75, .iaload), (76, .i2l), (77, .lstore 6), (79, .aload 0), (80, .getfield 22754), (83, .iload 1), (84, .iaload), (85, .ifCond .ne 92), (88, .jsr_w 1), (89, .goto 99), (92, .aload 0), (93, .getfield 22754), (96, .iload 1), (97, .iaload), (98, .i2l), (99, .lstore 8), (101, .lload 2), (102, .jsr_w 0), (103, .lcmp), (104, .ifCond .lt 120), (107, .aload 0), (108, .lload 2), (109, .lload 6), (111, .lmul), (112, .lload 4), (114, .lload 8), (116, .lmul), (117, .invokeinterface 198 1484), (120, .aload 0), (121, .getfield 23058), (124, .iload 1), (125, .aload 0), (126, .getfield 23121), (129, .lastore), (130, .aload 0), (131, .getfield 23066), (134, .iload 1), (135, .aload 0), (136, .getfield 23129), (139, .lastore), (140, .lload 2), (141, .jsr_w 0), (142, .lcmp), (143, .ifCond .ge 153), (146, .aload 0), (147, .invokeinterface 197 1476), (150, .goto 181), (153, .aload 0), (154, .lload 6), (156, .lload 8), (158, .lcmp), (159, .ifCond .ge 172), (162, .lload 2), (163, .lload 8), (165, .lload 6), (167, .lsub), (168, .lmul), (169, .goto 173), (172, .jsr_w 0), (173, .lload 4), (175, .lload 8), (177, .lmul), (178, .invokeinterface 198 1484), (181, .aload 0), (182, .getfield 23074), (185, .iload 1), (186, .aload 0), (187, .getfield 23121), (190, .lastore), (191, .aload 0), (192, .getfield 23082), (195, .iload 1), (196, .aload 0), (197, .getfield 23129), (200, .lastore), (201, .return_)]
/-- JobTextModel.parOf(I)I -/
def zc_201 : List (Nat × Instr) := [(0, .aload 0), (1, .getfield 22730), (4, .iload 1), (5, .iaload), (6, .ifCond .ne 13), (9, .iconst 1), (10, .goto 19), (13, .aload 0), (14, .getfield 22730), (17, .iload 1), (18, .iaload), (19, .ireturn)]
/-- JobTextModel.readersOf(IIZ)I -/
def zc_202 : List (Nat × Instr) := [(0, .iconst 0), (1, .istore 4), (3, .iconst 40), (5, .iload 1), (6, .imul), (7, .istore 5), (9, .iload 5), (11, .iconst 40), (13, .iload 1), (14, .imul), (15, .aload 0), (16, .getfield 22666), (19, .iload 1), (20, .iaload), (21, .iadd), (22, .if_icmp .ge 97), (25, .iconst 0), (26, .istore 6), (28, .iload 6), (30, .aload 0), (31, .getfield 22778), (34, .iload 5), (36, .iaload), (37, .if_icmp .ge 91), (40, .iload 4), (42, .aload 0), (43, .getfield 22874), (46, .iconst 4), (47, .iload 5), (49, .imul), (50, .iload 6), (52, .iadd), (53, .iaload), (54, .iload 2), (55, .if_icmp .ne 81), (58, .iload 3), (59, .ifCond .eq 77), (62, .aload 0), (63, .getfield 22882), (66, .iconst 4), (67, .iload 5), (69, .imul), (70, .iload 6), (72, .iadd), (73, .iaload), (74, .ifCond .ge 81), (77, .iconst 1), (78, .goto 82), (81, .iconst 0), (82, .iadd), (83, .istore 4), (85, .iinc 6 1), (88, .goto 28), (91, .iinc 5 1), (94, .goto 9), (97, .iconst 0), (98, .istore 5), (100, .iload 5), (102, .aload 0), (103, .getfield 22682), (106, .iload 1), (107, .iaload), (108, .if_icmp .ge 145), (111, .iload 4), (113, .aload 0), (114, .getfield 22962), (117, .iconst 16), (119, .iload 1), (120, .imul), (121, .iconst 2), (122, .iload 5), (124, .imul), (125, .iadd), (126, .iaload), (127, .iload 2), (128, .if_icmp .ne 135), (131, .iconst 1), (132, .goto 136), (135, .iconst 0), (136, .iadd), (137, .istore 4), (139, .iinc 5 1), (142, .goto 100), (145, .iload 4), (147, .ireturn)]
/-- JobTextModel.findFused(I)V -/
def zc_203 : List (Nat × Instr) := [(0, .aload 0), (1, .getfield 22722), (4, .iload 1), (5, .iaload), (6, .istore 2), (7, .iload 2), (8, .ifCond .le 16), (11, .iload 2), (12, .iconst 3), (13, .if_icmp .le 22), (16, .iload 2), (17, .iconst 8), (19, .if_icmp .ne 58), (22, .aload 0), (23, .getfield 22770), (26, .iload 1), (27, .laload), (28, .jsr_w 0), (29, .lcmp), (30, .ifCond .ne 58), (33, .aload 0), (34, .getfield 22778), (37, .iload 1), (38, .iaload), (39, .iconst 1), (40, .if_icmp .ne 58), (43, .aload 0), (44, .getfield 22882), (47, .iconst 4), (48, .iload 1), (49, .imul), (50, .iaload), (51, .ifCond .ge 58), (54, .iconst 1), (55, .goto 59), (58, .iconst 0), (59, .istore 3), (60, .iload 3), (61, .ifCond .eq 75), (64, .aload 0), (65, .getfield 22874), (68, .iconst 4), (69, .iload 1), (70, .imul), (71, .iaload), (72, .goto 76), (75, .iconst 0), (76, .istore 4), (78, .aload 0), (79, .getfield 23042), (82, .iload 1), (83, .iload 3), (84, .ifCond .eq 120), (87, .aload 0), (88, .iconst 80), (90, .iload 4), (92, .iadd), (93, .invokeinterface 201 1481), (96, .aload 0), (97, .iload 1), (98, .invokeinterface 201 1481), (101, .if_icmp .ne 120), (104, .aload 0), (105, .iconst 2), (106, .iload 4), (108, .iconst 1), (109, .invokeinterface 202 1489), (112, .iconst 1), (113, .if_icmp .ne 120), (116, .iconst 1), (117, .goto 121), (120, .iconst 0), (121, .bastore), (122, .return_)]
/-- JobTextModel.channelsOf(II)I -/
def zc_204 : List (Nat × Instr) := [(0, .aload 0), (1, .iconst 80), (3, .iload 1), (4, .iadd), (5, .invokeinterface 201 1481), (8, .istore 3), (9, .aload 0), (10, .iconst 80), (12, .iload 2), (13, .iadd), (14, .invokeinterface 201 1481), (17, .istore 4), (19, .iload 3), (20, .iload 4), (22, .if_icmp .ne 43), (25, .aload 0), (26, .getfield 23050), (29, .iconst 80), (31, .iload 1), (32, .iadd), (33, .laload), (34, .jsr_w 0), (35, .lcmp), (36, .ifCond .ne 43), (39, .iload 3), (40, .goto 47), (43, .iload 3), (44, .iload 4), (46, .imul), (47, .ireturn)]
/-- JobTextModel.findChains()V -/
def zc_205 : List (Nat × Instr) := [(0, .aload 0), (1, .getfield 23090), (4, .iconst 2), (5, .iconst 0), (6, .iastore), (7, .aload 0), (8, .getfield 23098), (11, .iconst 2), (12, .iconst 0), (13, .iastore), (14, .aload 0), (15, .getfield 23106), (18, .iconst 2), (19, .iconst 0), (20, .iastore), (21, .iconst 0), (22, .istore 1), (23, .iload 1), (24, .aload 0), (25, .getfield 22666), (28, .iconst 2), (29, .iaload), (30, .if_icmp .ge 174), (33, .aload 0), (34, .getfield 23026), (37, .iconst 80), (39, .iload 1), (40, .iadd), (41, .iaload), (42, .istore 2), (43, .iconst 80), (45, .iload 2), (46, .iadd), (47, .istore 3), (48, .aload 0), (49, .iload 3), (50, .invokeinterface 203 1480), (53, .aload 0), (54, .getfield 23042), (57, .iload 3), (58, .baload), (59, .ifCond .eq 87), (62, .aload 0), (63, .getfield 23034), (66, .iload 3), (67, .aload 0), (68, .getfield 23034), (71, .iconst 80), (73, .aload 0), (74, .getfield 22874), (77, .iconst 4), (78, .iload 3), (79, .imul), (80, .iaload), (81, .iadd), (82, .iaload), (83, .iastore), (84, .goto 168), (87, .aload 0), (88, .getfield 23034), (91, .iload 3), (92, .aload 0), (93, .getfield 23090), (96, .iconst 2), (97, .iaload), (98, .iastore), (99, .aload 0), (100, .getfield 23090), (103, .iconst 2), (104, .dup2), (105, .iaload), (106, .iconst 1), (107, .iadd), (108, .iastore), (109, .aload 0), (110, .getfield 23098), (113, .iconst 2), (114, .dup2), (115, .iaload), (116, .aload 0), (117, .iload 3), (118, .invokeinterface 201 1481), (121, .iadd), (122, .iastore), (123, .iconst 0), (124, .istore 4), (126, .iload 4), (128, .aload 0), (129, .getfield 22778), (132, .iload 3), (133, .iaload), (134, .if_icmp .ge 168), (137, .aload 0), (138, .getfield 23106), (141, .iconst 2), (142, .dup2), (143, .iaload), (144, .aload 0), (145, .aload 0), (146, .getfield 22874), (149, .iconst 4), (150, .iload 3), (151, .imul), (152, .iload 4), (154, .iadd), (155, .iaload), (156, .iload 2), (157, .invokeinterface 204 1485), (160, .iadd), (161, .iastore), (162, .iinc 4 1), (165, .goto 126), (168, .iinc 1 1), (171, .goto 23), (174, .iconst 0), (175, .istore 1), (176, .iload 1), (177, .aload 0), (178, .getfield 22682), (181, .iconst 2), (182, .iaload), (183, .if_icmp .ge 229), (186, .aload 0), (187, .getfield 23106), (190, .iconst 2), (191, .dup2), (192, .iaload), (193, .aload 0), (194, .aload 0), (195, .getfield 22962), (198, .iconst 32), (200, .iconst 2), (201, .iload 1), (202, .imul), (203, .iadd), (204, .iaload), (205, .aload 0), (206, .getfield 22962), (209, .iconst 32), (211, .iconst 2), (212, .iload 1), (213, .imul), (214, .iadd), (215, .iconst 1), (216, .iadd), (217, .iaload), (218, .invokeinterface 204 1485), (221, .iadd), (222, .iastore), (223, .iinc 1 1), (226, .goto 176), (229, .return_)]
/-- JobTextModel.judge()Z -/
def zc_206 : List (Nat × Instr) := [(0, .aload 0), (1, .invokeinterface 188 1477), (4, .ifCond .eq 21), (7, .aload 0), (8, .invokeinterface 189 1477), (11, .ifCond .eq 21), (14, .aload 0), (15, .invokeinterface 191 1477), (18, .ifCond .ne 23), (21, .iconst 0), (22, .jsr 0), (23, .aload 0), (24, .invokeinterface 193 1476), (27, .aload 0), (28, .invokeinterface 196 1477), (31, .ifCond .ne 36), (34, .iconst 0), (35, .jsr 0), (36, .iconst 0), (37, .istore 1), (38, .iload 1), (39, .aload 0), (40, .getfield 22666), (43, .iconst 2), (44, .iaload), (45, .if_icmp .ge 70), (48, .aload 0), (49, .iconst 80), (51, .aload 0), (52, .getfield 23026), (55, .iconst 80), (57, .iload 1), (58, .iadd), (59, .iaload), (60, .iadd), (61, .invokeinterface 200 1480), (64, .iinc 1 1), (67, .goto 38), (70, .aload 0), (71, .invokeinterface 205 1476), (74, .iconst 1), (75, .jsr 0)]
/-- JobTextModel.numberOf(J)I -/
def zc_207 : List (Nat × Instr) := [(0, .iconst 0), (1, .istore 3), (2, .iload 3), (3, .aload 0), (4, .getfield 23136), (7, .if_icmp .ge 29), (10, .aload 0), (11, .getfield 23146), (14, .iload 3), (15, .laload), (16, .lload 1), (17, .lcmp), (18, .ifCond .ne 23), (21, .iload 3), (22, .ireturn), (23, .iinc 3 1), (26, .goto 2), (29, .iconst (-5)), (31, .ireturn)]
/-- JobTextModel.keepInputs(II)V -/
def zc_208 : List (Nat × Instr) := [(0, .iconst 0), (1, .istore 3), (2, .iload 3), (3, .iconst 4), (4, .if_icmp .ge 93), (7, .aload 0), (8, .getfield 22826), (11, .iconst 4), (12, .iload 2), (13, .imul), (14, .iload 3), (15, .iadd), (16, .aload 0), (17, .getfield 22826), (20, .iconst 4), (21, .iload 1), (22, .imul), (23, .iload 3), (24, .iadd), (25, .laload), (26, .lastore), (27, .aload 0), (28, .getfield 22834), (31, .iconst 4), (32, .iload 2), (33, .imul), (34, .iload 3), (35, .iadd), (36, .aload 0), (37, .getfield 22834), (40, .iconst 4), (41, .iload 1), (42, .imul), (43, .iload 3), (44, .iadd), (45, .laload), (46, .lastore), (47, .aload 0), (48, .getfield 22874), (51, .iconst 4), (52, .iload 2), (53, .imul), (54, .iload 3), (55, .iadd), (56, .aload 0), (57, .getfield 22874), (60, .iconst 4), (61, .iload 1), (62, .imul), (63, .iload 3), (64, .iadd), (65, .iaload), (66, .iastore), (67, .aload 0), (68, .getfield 22882), (71, .iconst 4), (72, .iload 2), (73, .imul), (74, .iload 3), (75, .iadd), (76, .aload 0), (77, .getfield 22882), (80, .iconst 4), (81, .iload 1), (82, .imul), (83, .iload 3), (84, .iadd), (85, .iaload), (86, .iastore), (87, .iinc 3 1), (90, .goto 2), (93, .iconst 0), (94, .istore 3), (95, .iload 3), (96, .iconst 3), (97, .if_icmp .ge 126), (100, .aload 0), (101, .getfield 22890), (104, .iconst 3), (105, .iload 2), (106, .imul), (107, .iload 3), (108, .iadd), (109, .aload 0), (110, .getfield 22890), (113, .iconst 3), (114, .iload 1), (115, .imul), (116, .iload 3), (117, .iadd), (118, .laload), (119, .lastore), (120, .iinc 3 1), (123, .goto 95), (126, .return_)]
/-- JobTextModel.keepOperator(II)V -/
def zc_209 : List (Nat × Instr) := [(0, .aload 0), (1, .getfield 22714), (4, .iload 2), (5, .aload 0), (6, .getfield 22714), (9, .iload 1), (10, .laload), (11, .lastore), (12, .aload 0), (13, .getfield 22722), (16, .iload 2), (17, .aload 0), (18, .getfield 22722), (21, .iload 1), (22, .iaload), (23, .iastore), (24, .aload 0), (25, .getfield 22730), (28, .iload 2), (29, .aload 0), (30, .getfield 22730), (33, .iload 1), (34, .iaload), (35, .iastore), (36, .aload 0), (37, .getfield 22738), (40, .iload 2), (41, .aload 0), (42, .getfield 22738), (45, .iload 1), (46, .iaload), (47, .iastore), (48, .aload 0), (49, .getfield 22746), (52, .iload 2), (53, .aload 0), (54, .getfield 22746), (57, .iload 1), (58, .iaload), (59, .iastore), (60, .aload 0), (61, .getfield 22754), (64, .iload 2), (65, .aload 0), (66, .getfield 22754), (69, .iload 1), (70, .iaload), (71, .iastore), (72, .aload 0), (73, .getfield 22762), (76, .iload 2), (77, .aload 0), (78, .getfield 22762), (81, .iload 1), (82, .iaload), (83, .iastore), (84, .aload 0), (85, .getfield 22770), (88, .iload 2), (89, .aload 0), (90, .getfield 22770), (93, .iload 1), (94, .laload), (95, .lastore), (96, .aload 0), (97, .getfield 22778), (100, .iload 2), (101, .aload 0), (102, .getfield 22778), (105, .iload 1), (106, .iaload), (107, .iastore), (108, .aload 0), (109, .getfield 22786), (112, .iload 2), (113, .aload 0), (114, .getfield 22786), (117, .iload 1), (118, .iaload), (119, .iastore), (120, .aload 0), (121, .getfield 22794), (124, .iload 2), (125, .aload 0), (126, .getfield 22794), (129, .iload 1), (130, .iaload), (131, .iastore), (132, .aload 0), (133, .getfield 22802), (136, .iload 2), (137, .aload 0), (138, .getfield 22802), (141, .iload 1), (142, .iaload), (143, .iastore), (144, .aload 0), (145, .getfield 23010), (148, .iload 2), (149, .aload 0), (150, .getfield 23010), (153, .iload 1), (154, .iaload), (155, .iastore), (156, .aload 0), (157, .getfield 23018), (160, .iload 2), (161, .aload 0), (162, .getfield 23018), (165, .iload 1), (166, .iaload), (167, .iastore), (168, .aload 0), (169, .getfield 23034), (172, .iload 2), (173, .aload 0), (174, .getfield 23034), (177, .iload 1), (178, .iaload), (179, .iastore), (180, .aload 0), (181, .getfield 23042), (184, .iload 2), (185, .aload 0), (186, .getfield 23042), (189, .iload 1), (190, .baload), (191, .bastore), (192, .aload 0), (193, .getfield 23050), (196, .iload 2), (197, .aload 0), (198, .getfield 23050), (201, .iload 1), (202, .laload), (203, .lastore), (204, .aload 0), (205, .getfield 23058), (208, .iload 2), (209, .aload 0), (210, .getfield 23058), (213, .iload 1), (214, .laload), (215, .lastore), (216, .aload 0), (217, .getfield 23066), (220, .iload 2), (221, .aload 0), (222, .getfield 23066), (225, .iload 1), (226, .laload), (227, .lastore), (228, .aload 0), (229, .getfield 23074), (232, .iload 2), (233, .aload 0), (234, .getfield 23074), (237, .iload 1), (238, .laload), (239, .lastore), (240, .aload 0), (241, .getfield 23082), (244, .iload 2), (245, .aload 0), (246, .getfield 23082), (249, .iload 1), (250, .laload), (251, .lastore), (252, .aload 0), (253, .iload 1), (254, .iload 2), (255, .invokeinterface 208 1484), (258, .return_)]
/-- JobTextModel.keep(I)V -/
def zc_210 : List (Nat × Instr) := [(0, .aload 0), (1, .getfield 22666), (4, .iload 1), (5, .aload 0), (6, .getfield 22666), (9, .iconst 2), (10, .iaload), (11, .iastore), (12, .aload 0), (13, .getfield 22674), (16, .iload 1), (17, .aload 0), (18, .getfield 22674), (21, .iconst 2), (22, .iaload), (23, .iastore), (24, .aload 0), (25, .getfield 22682), (28, .iload 1), (29, .aload 0), (30, .getfield 22682), (33, .iconst 2), (34, .iaload), (35, .iastore), (36, .aload 0), (37, .getfield 22690), (40, .iload 1), (41, .aload 0), (42, .getfield 22690), (45, .iconst 2), (46, .iaload), (47, .iastore), (48, .aload 0), (49, .getfield 22698), (52, .iload 1), (53, .aload 0), (54, .getfield 22698), (57, .iconst 2), (58, .iaload), (59, .iastore), (60, .aload 0), (61, .getfield 23090), (64, .iload 1), (65, .aload 0), (66, .getfield 23090), (69, .iconst 2), (70, .iaload), (71, .iastore), (72, .aload 0), (73, .getfield 23098), (76, .iload 1), (77, .aload 0), (78, .getfield 23098), (81, .iconst 2), (82, .iaload), (83, .iastore), (84, .aload 0), (85, .getfield 23106), (88, .iload 1), (89, .aload 0), (90, .getfield 23106), (93, .iconst 2), (94, .iaload), (95, .iastore), (96, .iconst 0), (97, .istore 2), (98, .iload 2), (99, .iconst 40), (101, .if_icmp .ge 164), (104, .aload 0), (105, .iconst 80), (107, .iload 2), (108, .iadd), (109, .iconst 40), (111, .iload 1), (112, .imul), (113, .iload 2), (114, .iadd), (115, .invokeinterface 209 1484), (118, .aload 0), (119, .getfield 22986), (122, .iconst 40), (124, .iload 1), (125, .imul), (126, .iload 2), (127, .iadd), (128, .aload 0), (129, .getfield 22986), (132, .iconst 80), (134, .iload 2), (135, .iadd), (136, .iaload), (137, .iastore), (138, .aload 0), (139, .getfield 22994), (142, .iconst 40), (144, .iload 1), (145, .imul), (146, .iload 2), (147, .iadd), (148, .aload 0), (149, .getfield 22994), (152, .iconst 80), (154, .iload 2), (155, .iadd), (156, .iaload), (157, .iastore), (158, .iinc 2 1), (161, .goto 98), (164, .iconst 0), (165, .istore 2), (166, .iload 2), (167, .iconst 2400), (170, .if_icmp .ge 201), (173, .aload 0), (174, .getfield 23002), (177, .iconst 2400), (180, .iload 1), (181, .imul), (182, .iload 2), (183, .iadd), (184, .aload 0), (185, .getfield 23002), (188, .iconst 4800), (191, .iload 2), (192, .iadd), (193, .iaload), (194, .iastore), (195, .iinc 2 1), (198, .goto 166), (201, .iconst 0), (202, .istore 2), (203, .iload 2), (204, .iconst 16), (206, .if_icmp .ge 355), (209, .aload 0), (210, .getfield 22898), (213, .iconst 16), (215, .iload 1), (216, .imul), (217, .iload 2), (218, .iadd), (219, .aload 0), (220, .getfield 22898), (223, .iconst 32), (225, .iload 2), (226, .iadd), (227, .laload), (228, .lastore), (229, .aload 0), (230, .getfield 22906), (233, .iconst 16), (235, .iload 1), (236, .imul), (237, .iload 2), (238, .iadd), (239, .aload 0), (240, .getfield 22906), (243, .iconst 32), (245, .iload 2), (246, .iadd), (247, .laload), (248, .lastore), (249, .aload 0), (250, .getfield 22914), (253, .iconst 16), (255, .iload 1), (256, .imul), (257, .iload 2), (258, .iadd), (259, .aload 0), (260, .getfield 22914), (263, .iconst 32), (265, .iload 2), (266, .iadd), (267, .iaload), (268, .iastore), (269, .aload 0), (270, .getfield 22922), (273, .iconst 16), (275, .iload 1), (276, .imul), (277, .iload 2), (278, .iadd), (279, .aload 0), (280, .getfield 22922), (283, .iconst 32), (285, .iload 2), (286, .iadd), (287, .iaload), (288, .iastore), (289, .aload 0), (290, .getfield 22930), (293, .iconst 16), (295, .iload 1), (296, .imul), (297, .iload 2), (298, .iadd), (299, .aload 0), (300, .getfield 22930), (303, .iconst 32), (305, .iload 2), (306, .iadd), (307, .iaload), (308, .iastore), (309, .aload 0), (310, .getfield 22938), (313, .iconst 16), (315, .iload 1), (316, .imul), (317, .iload 2), (318, .iadd), (319, .aload 0), (320, .getfield 22938), (323, .iconst 32), (325, .iload 2), (326, .iadd), (327, .laload), (328, .lastore), (329, .aload 0), (330, .getfield 22962), (333, .iconst 16), (335, .iload 1), (336, .imul), (337, .iload 2), (338, .iadd), (339, .aload 0), (340, .getfield 22962), (343, .iconst 32), (345, .iload 2), (346, .iadd), (347, .iaload), (348, .iastore), (349, .iinc 2 1), (352, .goto 203), (355, .iconst 0), (356, .istore 2), (357, .iload 2), (358, .iconst 64), (360, .if_icmp .ge 411), (363, .aload 0), (364, .getfield 22970), (367, .iconst 64), (369, .iload 1), (370, .imul), (371, .iload 2), (372, .iadd), (373, .aload 0), (374, .getfield 22970), (377, .iconst 128), (380, .iload 2), (381, .iadd), (382, .iaload), (383, .iastore), (384, .aload 0), (385, .getfield 22978), (388, .iconst 64), (390, .iload 1), (391, .imul), (392, .iload 2), (393, .iadd), (394, .aload 0), (395, .getfield 22978), (398, .iconst 128), (401, .iload 2), (402, .iadd), (403, .iaload), (404, .iastore), (405, .iinc 2 1), (408, .goto 357), (411, .aload 0), (412, .getfield 22658), (415, .iload 1), (416, .iconst 1), (417, .bastore), (418, .return_)]
/-- JobTextModel.read(II)I -/
def zc_211 : List (Nat × Instr) := [(0, .iload 1), (1, .iconst 0), (2, .iconst 1), (3, .invokeinterface 152 13), (6, .ifCond .eq 18), (9, .iload 2), (10, .iconst 0), (11, .iconst 5), (12, .invokeinterface 152 13), (15, .ifCond .ne 20), (18, .iconst (-1)), (19, .ireturn), (20, .aload 0), (21, .iconst 0), (22, .putfield 22624), (25, .aload 0), (26, .iconst (-5)), (28, .putfield 22632), (31, .aload 0), (32, .iconst (-5)), (34, .putfield 22640), (37, .aload 0), (38, .iload 2), (39, .invokeinterface 185 1481), (42, .ifCond .eq 52), (45, .aload 0), (46, .invokeinterface 206 1477), (49, .ifCond .ne 60), (52, .iconst (-10)), (54, .aload 0), (55, .getfield 22624), (58, .isub), (59, .ireturn), (60, .iconst 0), (61, .istore 3), (62, .iconst 0), (63, .istore 4), (65, .iload 4), (67, .aload 0), (68, .getfield 22666), (71, .iconst 2), (72, .iaload), (73, .if_icmp .ge 107), (76, .iload 3), (77, .aload 0), (78, .aload 0), (79, .getfield 22714), (82, .iconst 80), (84, .iload 4), (86, .iadd), (87, .laload), (88, .invokeinterface 207 1481), (91, .ifCond .ge 98), (94, .iconst 1), (95, .goto 99), (98, .iconst 0), (99, .iadd), (100, .istore 3), (101, .iinc 4 1), (104, .goto 65), (107, .aload 0), (108, .getfield 23136), (111, .iload 3), (112, .iadd), (113, .iconst 200), (116, .if_icmp .le 122), (119, .iconst (-3)), (121, .ireturn), (122, .iconst 0), (123, .istore 4), (125, .iload 4), (127, .aload 0), (128, .getfield 22666), (131, .iconst 2), (132, .iaload), (133, .if_icmp .ge 188), (136, .aload 0), (137, .aload 0), (138, .getfield 22714), (141, .iconst 80), (143, .iload 4), (145, .iadd), (146, .laload), (147, .invokeinterface 207 1481), (150, .ifCond .ge 182), (153, .aload 0), (154, .getfield 23146), (157, .aload 0), (158, .getfield 23136), (161, .aload 0), (162, .getfield 22714), (165, .iconst 80), (167, .iload 4), (169, .iadd), (170, .laload), (171, .lastore), (172, .aload 0), (173, .dup), (174, .getfield 23136), (177, .iconst 1), (178, .iadd), (179, .putfield 23136), (182, .iinc 4 1), (185, .goto 125), (188, .aload 0), (189, .iload 1), (190, .invokeinterface 210 1480), (193, .aload 0), (194, .getfield 22666), (197, .iload 1), (198, .iaload), (199, .ireturn)]
/-- JobTextModel.against(IZ)I -/
def zc_212 : List (Nat × Instr) := [(0, .iload 1), (1, .iconst 0), (2, .iconst 1), (3, .invokeinterface 152 13), (6, .ifCond .eq 13), (9, .iload 2), (10, .ifCond .ne 17), (13, .iconst (-1)), (14, .goto 32), (17, .aload 0), (18, .getfield 22658), (21, .iload 1), (22, .baload), (23, .ifCond .eq 30), (26, .iconst 0), (27, .goto 32), (30, .iconst (-2)), (32, .ireturn)]
/-- JobTextModel.drop(I)I -/
def zc_213 : List (Nat × Instr) := [(0, .aload 0), (1, .iload 1), (2, .iconst 1), (3, .invokeinterface 212 1485), (6, .istore 2), (7, .iload 2), (8, .ifCond .ne 18), (11, .aload 0), (12, .getfield 22658), (15, .iload 1), (16, .iconst 0), (17, .bastore), (18, .iload 2), (19, .ifCond .ge 26), (22, .iload 2), (23, .goto 27), (26, .iconst 1), (27, .ireturn)]
/-- JobTextModel.fault(I)I -/
def zc_214 : List (Nat × Instr) := [(0, .iload 1), (1, .tableswitch 64 0 3 #[32, 37, 42, 47]), (32, .aload 0), (33, .getfield 22624), (36, .ireturn), (37, .aload 0), (38, .getfield 22632), (41, .ireturn), (42, .aload 0), (43, .getfield 22640), (46, .ireturn), (47, .aload 0), (48, .getfield 22624), (51, .iconst 1), (52, .if_icmp .ne 62), (55, .aload 0), (56, .getfield 22648), (59, .goto 63), (62, .iconst 0), (63, .ireturn), (64, .iconst (-1)), (65, .ireturn)]
/-- JobTextModel.count(II)I -/
def zc_215 : List (Nat × Instr) := [(0, .aload 0), (1, .iload 1), (2, .iload 2), (3, .iconst 0), (4, .iconst 7), (6, .invokeinterface 152 13), (9, .invokeinterface 212 1485), (12, .istore 3), (13, .iload 3), (14, .ifCond .ge 19), (17, .iload 3), (18, .ireturn), (19, .iconst 0), (20, .istore 4), (22, .iconst 40), (24, .iload 1), (25, .imul), (26, .istore 5), (28, .iload 5), (30, .iconst 40), (32, .iload 1), (33, .imul), (34, .aload 0), (35, .getfield 22666), (38, .iload 1), (39, .iaload), (40, .iadd), (41, .if_icmp .ge 80), (44, .aload 0), (45, .getfield 23010), (48, .iload 5), (50, .iaload), (51, .iconst 1), (52, .iadd), (53, .iload 4), (55, .if_icmp .le 70), (58, .aload 0), (59, .getfield 23010), (62, .iload 5), (64, .iaload), (65, .iconst 1), (66, .iadd), (67, .goto 72), (70, .iload 4), (72, .istore 4), (74, .iinc 5 1), (77, .goto 28), (80, .iload 2), (81, .tableswitch 173 0 6 #[124, 131, 138, 145, 152, 159, 166]), (124, .aload 0), (125, .getfield 22666), (128, .iload 1), (129, .iaload), (130, .ireturn), (131, .aload 0), (132, .getfield 22674), (135, .iload 1), (136, .iaload), (137, .ireturn), (138, .aload 0), (139, .getfield 22682), (142, .iload 1), (143, .iaload), (144, .ireturn), (145, .aload 0), (146, .getfield 22698), (149, .iload 1), (150, .iaload), (151, .ireturn), (152, .aload 0), (153, .getfield 23090), (156, .iload 1), (157, .iaload), (158, .ireturn), (159, .aload 0), (160, .getfield 23098), (163, .iload 1), (164, .iaload), (165, .ireturn), (166, .aload 0), (167, .getfield 23106), (170, .iload 1), (171, .iaload), (172, .ireturn), (173, .iload 4), (175, .ireturn)]
/-- JobTextModel.countOf([II)I -/
def zc_216 : List (Nat × Instr) := [(0, .iload 2), (1, .iconst 0), (2, .iconst 1), (3, .invokeinterface 152 13), (6, .ifCond .eq 15), (9, .aload 1), (10, .iload 2), (11, .iaload), (12, .goto 16), (15, .iconst 0), (16, .ireturn)]
/-- JobTextModel.againstOne(IZII)I -/
def zc_217 : List (Nat × Instr) := [(0, .aload 0), (1, .iload 1), (2, .iload 2), (3, .invokeinterface 212 1485), (6, .istore 5), (8, .iload 5), (10, .ifCond .ge 18), (13, .iload 5), (15, .goto 35), (18, .iload 3), (19, .iconst 0), (20, .iload 4), (22, .iconst 1), (23, .isub), (24, .invokeinterface 152 13), (27, .ifCond .eq 34), (30, .iconst 0), (31, .goto 35), (34, .iconst (-1)), (35, .ireturn)]
/-- JobTextModel.operator(III)I -/
def zc_218 : List (Nat × Instr) := [(0, .aload 0), (1, .iload 1), (2, .iload 3), (3, .iconst 0), (4, .iconst 15), (6, .invokeinterface 152 13), (9, .iload 2), (10, .aload 0), (11, .aload 0), (12, .getfield 22666), (15, .iload 1), (16, .invokeinterface 216 1485), (19, .invokeinterface 217 1493), (22, .istore 4), (24, .iload 4), (26, .ifCond .ge 32), (29, .iload 4), (31, .ireturn), (32, .iconst 40), (34, .iload 1), (35, .imul), (36, .iload 2), (37, .iadd), (38, .istore 5), (40, .iload 3), (41, .tableswitch 240 0 14 #[116, 124, 132, 140, 148, 156, 164, 172, 180, 192, 200, 208, 216, 224, 232]), (116, .aload 0), (117, .getfield 22722), (120, .iload 5), (122, .iaload), (123, .ireturn), (124, .aload 0), (125, .getfield 22730), (128, .iload 5), (130, .iaload), (131, .ireturn), (132, .aload 0), (133, .getfield 22738), (136, .iload 5), (138, .iaload), (139, .ireturn), (140, .aload 0), (141, .getfield 22746), (144, .iload 5), (146, .iaload), (147, .ireturn), (148, .aload 0), (149, .getfield 22754), (152, .iload 5), (154, .iaload), (155, .ireturn), (156, .aload 0), (157, .getfield 22762), (160, .iload 5), (162, .iaload), (163, .ireturn), (164, .aload 0), (165, .getfield 22778), (168, .iload 5), (170, .iaload), (171, .ireturn), (172, .aload 0), (173, .getfield 22786), (176, .iload 5), (178, .iaload), (179, .ireturn), (180, .aload 0), (181, .aload 0), (182, .getfield 22714), (185, .iload 5), (187, .laload), (188, .invokeinterface 207 1481), (191, .ireturn), (192, .aload 0), (193, .getfield 22794), (196, .iload 5), (198, .iaload), (199, .ireturn), (200, .aload 0), (201, .getfield 22802), (204, .iload 5), (206, .iaload), (207, .ireturn), (208, .aload 0), (209, .getfield 23010), (212, .iload 5), (214, .iaload), (215, .ireturn), (216, .aload 0), (217, .getfield 23018), (220, .iload 5), (222, .iaload), (223, .ireturn), (224, .aload 0), (225, .getfield 23034), (228, .iload 5), (230, .iaload), (231, .ireturn), (232, .aload 0), (233, .iload 1), (234, .iload 2), (235, .iconst 0), (236, .invokeinterface 202 1489), (239, .ireturn), (240, .aload 0), (241, .getfield 23042), (244, .iload 5), (246, .baload), (247, .ifCond .eq 254), (250, .iconst 1), (251, .goto 255), (254, .iconst 0), (255, .ireturn)]
/-- JobTextModel.lengthOf(J)I -/
def zc_219 : List (Nat × Instr) := [(0, .iconst 0), (1, .istore 2), (2, .lload 0), (3, .lstore 3), (4, .lload 3), (5, .jsr_w 0), (6, .lcmp), (7, .ifCond .le 22), (10, .iinc 2 1), (13, .lload 3), (14, .jsr_w 37), (17, .ldiv), (18, .lstore 3), (19, .goto 4), (22, .iload 2), (23, .ireturn)]
/-- JobTextModel.letterAt(JI)I -/
def zc_220 : List (Nat × Instr) := [(0, .lload 0), (1, .invokeinterface 219 5), (4, .istore 3), (5, .iload 2), (6, .iconst 0), (7, .iload 3), (8, .iconst 1), (9, .isub), (10, .invokeinterface 152 13), (13, .ifCond .ne 19), (16, .iconst (-5)), (18, .ireturn), (19, .lload 0), (20, .lstore 4), (22, .iload 3), (23, .iconst 1), (24, .isub), (25, .istore 6), (27, .iload 6), (29, .iload 2), (30, .if_icmp .le 47), (33, .lload 4), (35, .jsr_w 37), (38, .ldiv), (39, .lstore 4), (41, .iinc 6 (-1)), (44, .goto 27), (47, .lload 4), (49, .jsr_w 37), (52, .lrem), (53, .l2i), (54, .istore 6), (56, .iload 6), (58, .iconst 26), (60, .if_icmp .gt 71), (63, .iconst 96), (65, .iload 6), (67, .iadd), (68, .goto 76), (71, .iconst 21), (73, .iload 6), (75, .iadd), (76, .ireturn)]
/-- JobTextModel.letter(IIII)I -/
def zc_221 : List (Nat × Instr) := [(0, .aload 0), (1, .iload 1), (2, .iload 3), (3, .iconst 0), (4, .iconst 4), (5, .invokeinterface 152 13), (8, .iload 2), (9, .aload 0), (10, .aload 0), (11, .getfield 22666), (14, .iload 1), (15, .invokeinterface 216 1485), (18, .invokeinterface 217 1493), (21, .istore 5), (23, .iload 5), (25, .ifCond .ge 31), (28, .iload 5), (30, .ireturn), (31, .iconst 40), (33, .iload 1), (34, .imul), (35, .iload 2), (36, .iadd), (37, .istore 6), (39, .iload 3), (40, .iconst 1), (41, .if_icmp .le 73), (44, .iload 3), (45, .iconst 2), (46, .isub), (47, .aload 0), (48, .getfield 22786), (51, .iload 6), (53, .iaload), (54, .if_icmp .ge 73), (57, .aload 0), (58, .getfield 22890), (61, .iconst 3), (62, .iload 6), (64, .imul), (65, .iload 3), (66, .iadd), (67, .iconst 2), (68, .isub), (69, .laload), (70, .goto 74), (73, .jsr_w 0), (74, .lstore 7), (76, .iload 3), (77, .ifCond .ne 90), (80, .aload 0), (81, .getfield 22714), (84, .iload 6), (86, .laload), (87, .goto 107), (90, .iload 3), (91, .iconst 1), (92, .if_icmp .ne 105), (95, .aload 0), (96, .getfield 23050), (99, .iload 6), (101, .laload), (102, .goto 107), (105, .lload 7), (107, .iload 4), (109, .invokeinterface 220 9), (112, .ireturn)]
/-- JobTextModel.input(IIII)I -/
def zc_222 : List (Nat × Instr) := [(0, .aload 0), (1, .iload 1), (2, .iload 4), (4, .iconst 0), (5, .iconst 1), (6, .invokeinterface 152 13), (9, .iload 2), (10, .aload 0), (11, .aload 0), (12, .getfield 22666), (15, .iload 1), (16, .invokeinterface 216 1485), (19, .invokeinterface 217 1493), (22, .istore 5), (24, .iload 5), (26, .ifCond .ge 32), (29, .iload 5), (31, .ireturn), (32, .iconst 4), (33, .iconst 40), (35, .iload 1), (36, .imul), (37, .iload 2), (38, .iadd), (39, .imul), (40, .iload 3), (41, .iadd), (42, .istore 6), (44, .iload 3), (45, .iconst 0), (46, .aload 0), (47, .getfield 22778), (50, .iconst 40), (52, .iload 1), (53, .imul), (54, .iload 2), (55, .iadd), (56, .iaload), (57, .iconst 1), (58, .isub), (59, .invokeinterface 152 13), (62, .ifCond .ne 69), (65, .iconst (-1)), (66, .goto 91), (69, .iload 4), (71, .ifCond .ne 84), (74, .aload 0), (75, .getfield 22874), (78, .iload 6), (80, .iaload), (81, .goto 91), (84, .aload 0), (85, .getfield 22882), (88, .iload 6), (90, .iaload), (91, .ireturn)]
/-- JobTextModel.flow(III)I -/
def zc_223 : List (Nat × Instr) := [(0, .aload 0), (1, .iload 1), (2, .iload 3), (3, .iconst 0), (4, .iconst 3), (5, .invokeinterface 152 13), (8, .iload 2), (9, .aload 0), (10, .aload 0), (11, .getfield 22666), (14, .iload 1), (15, .invokeinterface 216 1485), (18, .invokeinterface 217 1493), (21, .istore 4), (23, .iload 4), (25, .ifCond .ge 31), (28, .iload 4), (30, .ireturn), (31, .iconst 40), (33, .iload 1), (34, .imul), (35, .iload 2), (36, .iadd), (37, .istore 5), (39, .iload 3), (40, .ifCond .ne 53), (43, .aload 0), (44, .getfield 23058), (47, .iload 5), (49, .laload), (50, .goto 90), (53, .iload 3), (54, .iconst 1), (55, .if_icmp .ne 68), (58, .aload 0), (59, .getfield 23066), (62, .iload 5), (64, .laload), (65, .goto 90), (68, .iload 3), (69, .iconst 2), (70, .if_icmp .ne 83), (73, .aload 0), (74, .getfield 23074), (77, .iload 5), (79, .laload), (80, .goto 90), (83, .aload 0), (84, .getfield 23082), (87, .iload 5), (89, .laload), (90, .l2i), (91, .ireturn)]
/-- JobTextModel.set(III)I -/
def zc_224 : List (Nat × Instr) := [(0, .aload 0), (1, .iload 1), (2, .iload 3), (3, .iconst 0), (4, .iconst 2), (5, .invokeinterface 152 13), (8, .iload 2), (9, .aload 0), (10, .aload 0), (11, .getfield 22674), (14, .iload 1), (15, .invokeinterface 216 1485), (18, .invokeinterface 217 1493), (21, .istore 4), (23, .iconst 16), (25, .iload 1), (26, .imul), (27, .iload 2), (28, .iadd), (29, .istore 5), (31, .iload 4), (33, .ifCond .ge 41), (36, .iload 4), (38, .goto 77), (41, .iload 3), (42, .ifCond .ne 55), (45, .aload 0), (46, .getfield 22914), (49, .iload 5), (51, .iaload), (52, .goto 77), (55, .iload 3), (56, .iconst 1), (57, .if_icmp .ne 70), (60, .aload 0), (61, .getfield 22922), (64, .iload 5), (66, .iaload), (67, .goto 77), (70, .aload 0), (71, .getfield 22930), (74, .iload 5), (76, .iaload), (77, .ireturn)]
/-- JobTextModel.setLetter(IIZI)I -/
def zc_225 : List (Nat × Instr) := [(0, .aload 0), (1, .iload 1), (2, .iconst 1), (3, .iload 2), (4, .aload 0), (5, .aload 0), (6, .getfield 22674), (9, .iload 1), (10, .invokeinterface 216 1485), (13, .invokeinterface 217 1493), (16, .istore 5), (18, .iload 5), (20, .ifCond .ge 28), (23, .iload 5), (25, .goto 62), (28, .iload 3), (29, .ifCond .eq 46), (32, .aload 0), (33, .getfield 22906), (36, .iconst 16), (38, .iload 1), (39, .imul), (40, .iload 2), (41, .iadd), (42, .laload), (43, .goto 57), (46, .aload 0), (47, .getfield 22898), (50, .iconst 16), (52, .iload 1), (53, .imul), (54, .iload 2), (55, .iadd), (56, .laload), (57, .iload 4), (59, .invokeinterface 220 9), (62, .ireturn)]
/-- JobTextModel.loop(III)I -/
def zc_226 : List (Nat × Instr) := [(0, .aload 0), (1, .iload 1), (2, .iload 3), (3, .iconst 0), (4, .iconst 1), (5, .invokeinterface 152 13), (8, .iload 2), (9, .aload 0), (10, .aload 0), (11, .getfield 22682), (14, .iload 1), (15, .invokeinterface 216 1485), (18, .invokeinterface 217 1493), (21, .istore 4), (23, .iload 4), (25, .ifCond .ge 33), (28, .iload 4), (30, .goto 48), (33, .aload 0), (34, .getfield 22962), (37, .iconst 16), (39, .iload 1), (40, .imul), (41, .iconst 2), (42, .iload 2), (43, .imul), (44, .iadd), (45, .iload 3), (46, .iadd), (47, .iaload), (48, .ireturn)]
/-- JobTextModel.put(I)V -/
def zc_227 : List (Nat × Instr) := [(0, .aload 0), (1, .getfield 23154), (4, .aload 0), (5, .getfield 23160), (8, .iload 1), (9, .iastore), (10, .aload 0), (11, .dup), (12, .getfield 23160), (15, .iconst 1), (16, .iadd), (17, .putfield 23160), (20, .return_)]
/-- JobTextModel.putComments(II)V -/
def zc_228 : List (Nat × Instr) := [(0, .iconst 40), (2, .iload 1), (3, .imul), (4, .istore 3), (5, .iload 3), (6, .iconst 40), (8, .iload 1), (9, .imul), (10, .aload 0), (11, .getfield 22698), (14, .iload 1), (15, .iaload), (16, .iadd), (17, .if_icmp .ge 102), (20, .aload 0), (21, .getfield 22986), (24, .iload 3), (25, .iaload), (26, .iload 2), (27, .if_icmp .eq 33), (30, .goto 96), (33, .aload 0), (34, .iconst 35), (36, .invokeinterface 227 1480), (39, .aload 0), (40, .getfield 22994), (43, .iload 3), (44, .iaload), (45, .ifCond .le 54), (48, .aload 0), (49, .iconst 32), (51, .invokeinterface 227 1480), (54, .iconst 0), (55, .istore 4), (57, .iload 4), (59, .aload 0), (60, .getfield 22994), (63, .iload 3), (64, .iaload), (65, .if_icmp .ge 90), (68, .aload 0), (69, .aload 0), (70, .getfield 23002), (73, .iconst 60), (75, .iload 3), (76, .imul), (77, .iload 4), (79, .iadd), (80, .iaload), (81, .invokeinterface 227 1480), (84, .iinc 4 1), (87, .goto 57), (90, .aload 0), (91, .iconst 10), (93, .invokeinterface 227 1480), (96, .iinc 3 1), (99, .goto 5), (102, .return_)]
/-- JobTextModel.putName(J)V -/
def zc_229 : List (Nat × Instr) := [(0, .lload 1), (1, .invokeinterface 219 5), (4, .istore 3), (5, .iconst 0), (6, .istore 4), (8, .iload 4), (10, .iload 3), (11, .if_icmp .ge 30), (14, .aload 0), (15, .lload 1), (16, .iload 4), (18, .invokeinterface 220 9), (21, .invokeinterface 227 1480), (24, .iinc 4 1), (27, .goto 8), (30, .return_)]
/-- JobTextModel.putKey(I)V -/
def zc_230 : List (Nat × Instr) := [(0, .aload 0), (1, .iload 1), (2, .iconst 9), (4, .isub), (5, .invokeinterface 165 6), (8, .invokeinterface 229 1480), (11, .return_)]
/-- JobTextModel.putNumber(I)V -/
def zc_231 : List (Nat × Instr) := [(0, .iconst 1), (1, .istore 2), (2, .iload 1), (3, .iload 2), (4, .idiv), (5, .iconst 9), (7, .if_icmp .le 18), (10, .iload 2), (11, .iconst 10), (13, .imul), (14, .istore 2), (15, .goto 2), (18, .iload 2), (19, .istore 3), (20, .iload 3), (21, .ifCond .le 45), (24, .aload 0), (25, .iconst 48), (27, .iload 1), (28, .iload 3), (29, .idiv), (30, .iconst 10), (32, .irem), (33, .iadd), (34, .invokeinterface 227 1480), (37, .iload 3), (38, .iconst 10), (40, .idiv), (41, .istore 3), (42, .goto 20), (45, .return_)]
/-- JobTextModel.putNumberProperty(II)V -/
def zc_232 : List (Nat × Instr) := [(0, .iload 2), (1, .ifCond .le 26), (4, .aload 0), (5, .iconst 32), (7, .invokeinterface 227 1480), (10, .aload 0), (11, .iload 1), (12, .invokeinterface 230 1480), (15, .aload 0), (16, .iconst 32), (18, .invokeinterface 227 1480), (21, .aload 0), (22, .iload 2), (23, .invokeinterface 231 1480), (26, .return_)]
/-- JobTextModel.putProperties(I)V -/
def zc_233 : List (Nat × Instr) := [(0, .aload 0), (1, .iconst 16), (3, .aload 0), (4, .getfield 22730), (7, .iload 1), (8, .iaload), (9, .invokeinterface 232 1484), (12, .aload 0), (13, .iconst 17), (15, .aload 0), (16, .getfield 22738), (19, .iload 1), (20, .iaload), (21, .invokeinterface 232 1484), (24, .aload 0), (25, .getfield 22754), (28, .iload 1), (29, .iaload), (30, .ifCond .le 77), (33, .aload 0), (34, .iconst 32), (36, .invokeinterface 227 1480), (39, .aload 0), (40, .iconst 18), (42, .invokeinterface 230 1480), (45, .aload 0), (46, .iconst 32), (48, .invokeinterface 227 1480), (51, .aload 0), (52, .aload 0), (53, .getfield 22746), (56, .iload 1), (57, .iaload), (58, .invokeinterface 231 1480), (61, .aload 0), (62, .iconst 47), (64, .invokeinterface 227 1480), (67, .aload 0), (68, .aload 0), (69, .getfield 22754), (72, .iload 1), (73, .iaload), (74, .invokeinterface 231 1480), (77, .aload 0), (78, .getfield 22770), (81, .iload 1), (82, .laload), (83, .jsr_w 0), (84, .lcmp), (85, .ifCond .eq 116), (88, .aload 0), (89, .iconst 32), (91, .invokeinterface 227 1480), (94, .aload 0), (95, .iconst 19), (97, .invokeinterface 230 1480), (100, .aload 0), (101, .iconst 32), (103, .invokeinterface 227 1480), (106, .aload 0), (107, .aload 0), (108, .getfield 22770), (111, .iload 1), (112, .laload), (113, .invokeinterface 229 1480), (116, .aload 0), (117, .iconst 20), (119, .aload 0), (120, .getfield 22762), (123, .iload 1), (124, .iaload), (125, .invokeinterface 232 1484), (128, .iconst 0), (129, .istore 2), (130, .iload 2), (131, .aload 0), (132, .getfield 22786), (135, .iload 1), (136, .iaload), (137, .if_icmp .ge 191), (140, .iload 2), (141, .ifCond .ne 159), (144, .aload 0), (145, .iconst 32), (147, .invokeinterface 227 1480), (150, .aload 0), (151, .iconst 21), (153, .invokeinterface 230 1480), (156, .goto 165), (159, .aload 0), (160, .iconst 44), (162, .invokeinterface 227 1480), (165, .aload 0), (166, .iconst 32), (168, .invokeinterface 227 1480), (171, .aload 0), (172, .aload 0), (173, .getfield 22890), (176, .iconst 3), (177, .iload 1), (178, .imul), (179, .iload 2), (180, .iadd), (181, .laload), (182, .invokeinterface 229 1480), (185, .iinc 2 1), (188, .goto 130), (191, .return_)]
/-- JobTextModel.putOperator(I)V -/
def zc_234 : List (Nat × Instr) := [(0, .aload 0), (1, .aload 0), (2, .getfield 22722), (5, .iload 1), (6, .iaload), (7, .ifCond .ne 15), (10, .iconst 11), (12, .goto 17), (15, .iconst 12), (17, .invokeinterface 230 1480), (20, .aload 0), (21, .iconst 32), (23, .invokeinterface 227 1480), (26, .aload 0), (27, .aload 0), (28, .getfield 22714), (31, .iload 1), (32, .laload), (33, .invokeinterface 229 1480), (36, .aload 0), (37, .getfield 22722), (40, .iload 1), (41, .iaload), (42, .ifCond .le 167), (45, .aload 0), (46, .iconst 58), (48, .invokeinterface 227 1480), (51, .aload 0), (52, .iconst 32), (54, .invokeinterface 227 1480), (57, .aload 0), (58, .iconst 22), (60, .aload 0), (61, .getfield 22722), (64, .iload 1), (65, .iaload), (66, .iadd), (67, .iconst 1), (68, .isub), (69, .invokeinterface 230 1480), (72, .aload 0), (73, .iconst 32), (75, .invokeinterface 227 1480), (78, .aload 0), (79, .iconst 14), (81, .invokeinterface 230 1480), (84, .iconst 0), (85, .istore 2), (86, .iload 2), (87, .aload 0), (88, .getfield 22778), (91, .iload 1), (92, .iaload), (93, .if_icmp .ge 167), (96, .iload 2), (97, .ifCond .le 106), (100, .aload 0), (101, .iconst 44), (103, .invokeinterface 227 1480), (106, .aload 0), (107, .iconst 32), (109, .invokeinterface 227 1480), (112, .aload 0), (113, .aload 0), (114, .getfield 22826), (117, .iconst 4), (118, .iload 1), (119, .imul), (120, .iload 2), (121, .iadd), (122, .laload), (123, .invokeinterface 229 1480), (126, .aload 0), (127, .getfield 22834), (130, .iconst 4), (131, .iload 1), (132, .imul), (133, .iload 2), (134, .iadd), (135, .laload), (136, .jsr_w 0), (137, .lcmp), (138, .ifCond .eq 161), (141, .aload 0), (142, .iconst 46), (144, .invokeinterface 227 1480), (147, .aload 0), (148, .aload 0), (149, .getfield 22834), (152, .iconst 4), (153, .iload 1), (154, .imul), (155, .iload 2), (156, .iadd), (157, .laload), (158, .invokeinterface 229 1480), (161, .iinc 2 1), (164, .goto 86), (167, .aload 0), (168, .iload 1), (169, .invokeinterface 233 1480), (172, .return_)]
/-- JobTextModel.putStatement(II)V -/
def zc_235 : List (Nat × Instr) := [(0, .aload 0), (1, .getfield 22978), (4, .iconst 64), (6, .iload 1), (7, .imul), (8, .iload 2), (9, .iadd), (10, .iaload), (11, .istore 3), (12, .aload 0), (13, .getfield 22970), (16, .iconst 64), (18, .iload 1), (19, .imul), (20, .iload 2), (21, .iadd), (22, .iaload), (23, .iconst 12), (25, .if_icmp .ne 41), (28, .aload 0), (29, .iconst 40), (31, .iload 1), (32, .imul), (33, .iload 3), (34, .iadd), (35, .invokeinterface 234 1480), (38, .goto 208), (41, .aload 0), (42, .getfield 22970), (45, .iconst 64), (47, .iload 1), (48, .imul), (49, .iload 2), (50, .iadd), (51, .iaload), (52, .iconst 10), (54, .if_icmp .ne 144), (57, .iconst 16), (59, .iload 1), (60, .imul), (61, .iload 3), (62, .iadd), (63, .istore 4), (65, .aload 0), (66, .iconst 10), (68, .invokeinterface 230 1480), (71, .aload 0), (72, .iconst 32), (74, .invokeinterface 227 1480), (77, .aload 0), (78, .aload 0), (79, .getfield 22898), (82, .iload 4), (84, .laload), (85, .invokeinterface 229 1480), (88, .aload 0), (89, .iconst 32), (91, .invokeinterface 227 1480), (94, .aload 0), (95, .iconst 61), (97, .invokeinterface 227 1480), (100, .aload 0), (101, .iconst 32), (103, .invokeinterface 227 1480), (106, .aload 0), (107, .getfield 22914), (110, .iload 4), (112, .iaload), (113, .ifCond .ge 130), (116, .aload 0), (117, .aload 0), (118, .getfield 22906), (121, .iload 4), (123, .laload), (124, .invokeinterface 229 1480), (127, .goto 141), (130, .aload 0), (131, .aload 0), (132, .getfield 22914), (135, .iload 4), (137, .iaload), (138, .invokeinterface 231 1480), (141, .goto 208), (144, .iconst 16), (146, .iload 1), (147, .imul), (148, .iconst 2), (149, .iload 3), (150, .imul), (151, .iadd), (152, .istore 4), (154, .aload 0), (155, .iconst 13), (157, .invokeinterface 230 1480), (160, .aload 0), (161, .iconst 32), (163, .invokeinterface 227 1480), (166, .aload 0), (167, .aload 0), (168, .getfield 22938), (171, .iload 4), (173, .laload), (174, .invokeinterface 229 1480), (177, .aload 0), (178, .iconst 32), (180, .invokeinterface 227 1480), (183, .aload 0), (184, .iconst 15), (186, .invokeinterface 230 1480), (189, .aload 0), (190, .iconst 32), (192, .invokeinterface 227 1480), (195, .aload 0), (196, .aload 0), (197, .getfield 22938), (200, .iload 4), (202, .iconst 1), (203, .iadd), (204, .laload), (205, .invokeinterface 229 1480), (208, .aload 0), (209, .iconst 59), (211, .invokeinterface 227 1480), (214, .aload 0), (215, .iconst 10), (217, .invokeinterface 227 1480), (220, .return_)]
/-- JobTextModel.print(I)I -/
def zc_236 : List (Nat × Instr) := [(0, .aload 0), (1, .iload 1), (2, .iconst 1), (3, .invokeinterface 212 1485), (6, .istore 2), (7, .iload 2), (8, .ifCond .ge 13), (11, .iload 2), (12, .ireturn), (13, .aload 0), (14, .iconst 0), (15, .putfield 23160), (18, .iconst 0), (19, .istore 3), (20, .iload 3), (21, .aload 0), (22, .getfield 22690), (25, .iload 1), (26, .iaload), (27, .if_icmp .ge 48), (30, .aload 0), (31, .iload 1), (32, .iload 3), (33, .invokeinterface 228 1484), (36, .aload 0), (37, .iload 1), (38, .iload 3), (39, .invokeinterface 235 1484), (42, .iinc 3 1), (45, .goto 20), (48, .aload 0), (49, .iload 1), (50, .aload 0), (51, .getfield 22690), (54, .iload 1), (55, .iaload), (56, .invokeinterface 228 1484), (59, .aload 0), (60, .getfield 23160), (63, .ireturn)]
/-- JobTextModel.out(I)I -/
def zc_237 : List (Nat × Instr) := [(0, .iload 1), (1, .iconst 0), (2, .aload 0), (3, .getfield 23160), (6, .iconst 1), (7, .isub), (8, .invokeinterface 152 13), (11, .ifCond .eq 23), (14, .aload 0), (15, .getfield 23154), (18, .iload 1), (19, .iaload), (20, .goto 25), (23, .iconst (-5)), (25, .ireturn)]
/-- JobTextModel.take()I -/
def zc_238 : List (Nat × Instr) := [(0, .aload 0), (1, .aload 0), (2, .getfield 23160), (5, .iconst 1200), (8, .if_icmp .le 17), (11, .iconst 1200), (14, .goto 21), (17, .aload 0), (18, .getfield 23160), (21, .putfield 22536), (24, .iconst 0), (25, .istore 1), (26, .iload 1), (27, .aload 0), (28, .getfield 22536), (31, .if_icmp .ge 52), (34, .aload 0), (35, .getfield 22530), (38, .iload 1), (39, .aload 0), (40, .getfield 23154), (43, .iload 1), (44, .iaload), (45, .iastore), (46, .iinc 1 1), (49, .goto 26), (52, .aload 0), (53, .getfield 22536), (56, .ireturn)]
/-- JobTextModel.haveLikeInputs(II)Z -/
def zc_239 : List (Nat × Instr) := [(0, .aload 0), (1, .getfield 22778), (4, .iload 1), (5, .iaload), (6, .aload 0), (7, .getfield 22778), (10, .iload 2), (11, .iaload), (12, .if_icmp .ne 19), (15, .iconst 1), (16, .goto 20), (19, .iconst 0), (20, .istore 3), (21, .iconst 0), (22, .istore 4), (24, .iload 4), (26, .aload 0), (27, .getfield 22778), (30, .iload 1), (31, .iaload), (32, .if_icmp .ge 103), (35, .iload 3), (36, .ifCond .eq 103), (39, .aload 0), (40, .getfield 22826), (43, .iconst 4), (44, .iload 1), (45, .imul), (46, .iload 4), (48, .iadd), (49, .laload), (50, .aload 0), (51, .getfield 22826), (54, .iconst 4), (55, .iload 2), (56, .imul), (57, .iload 4), (59, .iadd), (60, .laload), (61, .lcmp), (62, .ifCond .ne 95), (65, .aload 0), (66, .getfield 22834), (69, .iconst 4), (70, .iload 1), (71, .imul), (72, .iload 4), (74, .iadd), (75, .laload), (76, .aload 0), (77, .getfield 22834), (80, .iconst 4), (81, .iload 2), (82, .imul), (83, .iload 4), (85, .iadd), (86, .laload), (87, .lcmp), (88, .ifCond .ne 95), (91, .iconst 1), (92, .goto 96), (95, .iconst 0), (96, .istore 3), (97, .iinc 4 1), (100, .goto 24), (103, .iload 3), (104, .jsr 0)]
/-- JobTextModel.haveLikeSides(II)Z -/
def zc_240 : List (Nat × Instr) := [(0, .aload 0), (1, .getfield 22786), (4, .iload 1), (5, .iaload), (6, .aload 0), (7, .getfield 22786), (10, .iload 2), (11, .iaload), (12, .if_icmp .ne 19), (15, .iconst 1), (16, .goto 20), (19, .iconst 0), (20, .istore 3), (21, .iconst 0), (22, .istore 4), (24, .iload 4), (26, .aload 0), (27, .getfield 22786), (30, .iload 1), (31, .iaload), (32, .if_icmp .ge 77), (35, .iload 3), (36, .ifCond .eq 77), (39, .aload 0), (40, .getfield 22890), (43, .iconst 3), (44, .iload 1), (45, .imul), (46, .iload 4), (48, .iadd), (49, .laload), (50, .aload 0), (51, .getfield 22890), (54, .iconst 3), (55, .iload 2), (56, .imul), (57, .iload 4), (59, .iadd), (60, .laload), (61, .lcmp), (62, .ifCond .ne 69), (65, .iconst 1), (66, .goto 70), (69, .iconst 0), (70, .istore 3), (71, .iinc 4 1), (74, .goto 24), (77, .iload 3), (78, .jsr 0)]
/-- JobTextModel.bitsOf(II)I -/
def zc_241 : List (Nat × Instr) := [(0, .aload 0), (1, .getfield 22722), (4, .iload 1), (5, .iaload), (6, .aload 0), (7, .getfield 22722), (10, .iload 2), (11, .iaload), (12, .if_icmp .eq 19), (15, .iconst 1), (16, .goto 20), (19, .iconst 0), (20, .istore 3), (21, .iload 3), (22, .aload 0), (23, .iload 1), (24, .iload 2), (25, .invokeinterface 239 1485), (28, .ifCond .eq 35), (31, .iconst 0), (32, .goto 36), (35, .iconst 2), (36, .iadd), (37, .istore 3), (38, .iload 3), (39, .aload 0), (40, .getfield 22730), (43, .iload 1), (44, .iaload), (45, .aload 0), (46, .getfield 22730), (49, .iload 2), (50, .iaload), (51, .if_icmp .eq 58), (54, .iconst 4), (55, .goto 59), (58, .iconst 0), (59, .iadd), (60, .istore 3), (61, .iload 3), (62, .aload 0), (63, .getfield 22738), (66, .iload 1), (67, .iaload), (68, .aload 0), (69, .getfield 22738), (72, .iload 2), (73, .iaload), (74, .if_icmp .eq 82), (77, .iconst 8), (79, .goto 83), (82, .iconst 0), (83, .iadd), (84, .istore 3), (85, .iload 3), (86, .aload 0), (87, .getfield 22746), (90, .iload 1), (91, .iaload), (92, .aload 0), (93, .getfield 22746), (96, .iload 2), (97, .iaload), (98, .if_icmp .ne 116), (101, .aload 0), (102, .getfield 22754), (105, .iload 1), (106, .iaload), (107, .aload 0), (108, .getfield 22754), (111, .iload 2), (112, .iaload), (113, .if_icmp .eq 121), (116, .iconst 16), (118, .goto 122), (121, .iconst 0), (122, .iadd), (123, .istore 3), (124, .iload 3), (125, .aload 0), (126, .getfield 22770), (129, .iload 1), (130, .laload), (131, .aload 0), (132, .getfield 22770), (135, .iload 2), (136, .laload), (137, .lcmp), (138, .ifCond .eq 146), (141, .iconst 32), (143, .goto 147), (146, .iconst 0), (147, .iadd), (148, .istore 3), (149, .iload 3), (150, .aload 0), (151, .getfield 22762), (154, .iload 1), (155, .iaload), (156, .aload 0), (157, .getfield 22762), (160, .iload 2), (161, .iaload), (162, .if_icmp .eq 170), (165, .iconst 64), (167, .goto 171), (170, .iconst 0), (171, .iadd), (172, .istore 3), (173, .iload 3), (174, .aload 0), (175, .iload 1), (176, .iload 2), (177, .invokeinterface 240 1485), (180, .ifCond .eq 187), (183, .iconst 0), (184, .goto 190), (187, .iconst 128), (190, .iadd), (191, .ireturn)]
/-- JobTextModel.note(III)V -/
def zc_242 : List (Nat × Instr) := [(0, .aload 0), (1, .getfield 23178), (4, .iconst 3), (5, .aload 0), (6, .getfield 23168), (9, .imul), (10, .iload 1), (11, .iastore), (12, .aload 0), (13, .getfield 23178), (16, .iconst 3), (17, .aload 0), (18, .getfield 23168), (21, .imul), (22, .iconst 1), (23, .iadd), (24, .iload 2), (25, .iastore), (26, .aload 0), (27, .getfield 23178), (30, .iconst 3), (31, .aload 0), (32, .getfield 23168), (35, .imul), (36, .iconst 2), (37, .iadd), (38, .iload 3), (39, .iastore), (40, .aload 0), (41, .dup), (42, .getfield 23168), (45, .iconst 1), (46, .iadd), (47, .putfield 23168), (50, .return_)]
/-- JobTextModel.differ()I -/
def zc_243 : List (Nat × Instr) := [(0, .aload 0), (1, .getfield 22658), (4, .iconst 0), (5, .baload), (6, .ifCond .eq 18), (9, .aload 0), (10, .getfield 22658), (13, .iconst 1), (14, .baload), (15, .ifCond .ne 21), (18, .iconst (-2)), (20, .ireturn), (21, .aload 0), (22, .iconst 0), (23, .putfield 23168), (26, .iconst 0), (27, .istore 1), (28, .iload 1), (29, .aload 0), (30, .getfield 22666), (33, .iconst 0), (34, .iaload), (35, .if_icmp .ge 97), (38, .aload 0), (39, .iconst 1), (40, .aload 0), (41, .getfield 22714), (44, .iload 1), (45, .laload), (46, .invokeinterface 174 1485), (49, .istore 2), (50, .iload 2), (51, .ifCond .ge 58), (54, .iconst 0), (55, .goto 67), (58, .aload 0), (59, .iload 1), (60, .iconst 40), (62, .iload 2), (63, .iadd), (64, .invokeinterface 241 1485), (67, .istore 3), (68, .iload 2), (69, .ifCond .lt 76), (72, .iload 3), (73, .ifCond .le 91), (76, .aload 0), (77, .iload 2), (78, .ifCond .ge 85), (81, .iconst 1), (82, .goto 86), (85, .iconst 2), (86, .iload 1), (87, .iload 3), (88, .invokeinterface 242 1488), (91, .iinc 1 1), (94, .goto 28), (97, .iconst 0), (98, .istore 1), (99, .iload 1), (100, .aload 0), (101, .getfield 22666), (104, .iconst 1), (105, .iaload), (106, .if_icmp .ge 139), (109, .aload 0), (110, .iconst 0), (111, .aload 0), (112, .getfield 22714), (115, .iconst 40), (117, .iload 1), (118, .iadd), (119, .laload), (120, .invokeinterface 174 1485), (123, .ifCond .ge 133), (126, .aload 0), (127, .iconst 3), (128, .iload 1), (129, .iconst 0), (130, .invokeinterface 242 1488), (133, .iinc 1 1), (136, .goto 99), (139, .aload 0), (140, .getfield 23168), (143, .ireturn)]
/-- JobTextModel.difference(II)I -/
def zc_244 : List (Nat × Instr) := [(0, .iload 1), (1, .iconst 0), (2, .aload 0), (3, .getfield 23168), (6, .iconst 1), (7, .isub), (8, .invokeinterface 152 13), (11, .ifCond .eq 36), (14, .iload 2), (15, .iconst 0), (16, .iconst 2), (17, .invokeinterface 152 13), (20, .ifCond .eq 36), (23, .aload 0), (24, .getfield 23178), (27, .iconst 3), (28, .iload 1), (29, .imul), (30, .iload 2), (31, .iadd), (32, .iaload), (33, .goto 37), (36, .iconst (-1)), (37, .ireturn)]
/-- JobTextModel.numbers()I -/
def zc_245 : List (Nat × Instr) := [(0, .aload 0), (1, .getfield 23136), (4, .ireturn)]
/-- JobTextModel.numbered(II)I -/
def zc_246 : List (Nat × Instr) := [(0, .iload 1), (1, .iconst 0), (2, .aload 0), (3, .getfield 23136), (6, .iconst 1), (7, .isub), (8, .invokeinterface 152 13), (11, .ifCond .eq 27), (14, .aload 0), (15, .getfield 23146), (18, .iload 1), (19, .laload), (20, .iload 2), (21, .invokeinterface 220 9), (24, .goto 28), (27, .iconst (-1)), (28, .ireturn)]
end
section
/-! ===== what a program decides about the static tables ===== -/
def z_chkM (r : zM) : Bool :=
  decide (lw_tbl[r.2.2.2.2.2.2.2.1]? = some (Cond.initialized r.1.cls)) &&
  (if r.2.2.2.2.2.1.1 then decide (lw_tbl[r.2.2.2.2.2.2.2.2.1]? = some (Cond.static r.1)) else decide (lw_tbl[r.2.2.2.2.2.2.2.2.1]? = some (Cond.instanceMethod r.1)) && decide (lw_tbl[r.2.2.2.2.2.2.2.2.2]? = some (Cond.selects r.1.cls r.1 r.1))) &&
  plainName r.1.cls && decide (r.1.cls ≠ "java/lang/invoke/MethodHandle") && decide (r.1.cls ≠ "java/lang/invoke/VarHandle") && decide ((parseMethodDescriptor r.1.desc).map (fun d => d.parameters.length) = some r.2.2.2.2.2.1.2) && decide (z_cn r.2.2.2.2.1.1 = r.1.cls)
theorem z_chkM_ok : z_ms.all z_chkM = true := by decide +kernel
def z_cw (r : zM) : Option Cond := some (Cond.code r.1 r.2.1 r.2.2.1 r.2.2.2.1)
def z_cx (r : zM) : Option Cond := lw_tbl[r.2.2.2.2.2.2.1]?
set_option maxRecDepth 100000 in
theorem z_cwk_0 : z_ms0.map z_cx = z_ms0.map z_cw := rfl
set_option maxRecDepth 100000 in
theorem z_cwk_1 : z_ms1.map z_cx = z_ms1.map z_cw := rfl
set_option maxRecDepth 100000 in
theorem z_cwk_2 : z_ms2.map z_cx = z_ms2.map z_cw := rfl
set_option maxRecDepth 100000 in
theorem z_cwk_3 : z_ms3.map z_cx = z_ms3.map z_cw := rfl
set_option maxRecDepth 100000 in
theorem z_cwk_4 : z_ms4.map z_cx = z_ms4.map z_cw := rfl
theorem z_cwk : z_ms.map z_cx = z_ms.map z_cw := by
  unfold z_ms
  simp only [List.map_append, z_cwk_0, z_cwk_1, z_cwk_2, z_cwk_3, z_cwk_4]
theorem z_map_eq {α β : Type} {f g : α → β} : ∀ {l : List α}, l.map f = l.map g → ∀ r ∈ l, f r = g r
  | [], _, r, h => by cases h
  | a :: l, e, r, h => by
    simp only [List.map_cons, List.cons.injEq] at e
    rcases List.mem_cons.mp h with h | h
    · rw [h]; exact e.1
    · exact z_map_eq e.2 r h
theorem z_ms_len : z_ms.length = 247 := by decide +kernel
def z_chkF (o : Nat) (q : Nat × Nat × Nat) : Bool :=
  if q.2.1 / 1024 = 0 then decide (lw_tbl[q.2.2]? = some (Cond.fieldLink (z_cn o) q.1 "java/lang/String" (if q.2.1 % 8 = 4 then "value" else "coder") (if q.2.1 % 8 = 4 then "[B" else "B"))) && (q.2.1 % 8 == 4 || q.2.1 % 8 == 6)
  else match zcl[q.2.1 / 1024 - 10]? with
    | some (_, T, N) => decide (10 ≤ q.2.1 / 1024) && decide (q.2.1 / 8 % 128 < N) && decide (lw_tbl[q.2.2]? = some (Cond.fieldLink (z_cn o) q.1 (T (q.2.1 / 8 % 128)).1 (T (q.2.1 / 8 % 128)).2.1 (T (q.2.1 / 8 % 128)).2.2.1)) && decide (q.2.1 % 8 = z_tc (q.2.1 / 1024) (q.2.1 / 8 % 128))
    | none => false
theorem z_chkF_ok : ((List.range 17).all fun o => (z_fls.getD o []).all (z_chkF o)) = true := by decide +kernel
def z_chkL (o : Nat) (q : Nat × Nat × Nat × Nat) : Bool :=
  Nat.blt q.2.1 247 && (match q.2.2.1 with
    | 0 => !(z_m q.2.1).2.2.2.2.2.1.1 && decide (lw_tbl[q.2.2.2]? = some (Cond.methodLink (z_cn o) q.1 (z_m q.2.1).1))
    | 1 => (z_m q.2.1).2.2.2.2.2.1.1 && decide (lw_tbl[q.2.2.2]? = some (Cond.methodLink (z_cn o) q.1 (z_m q.2.1).1))
    | 2 => (z_m q.2.1).2.2.2.2.2.1.1
    | 3 => decide (lw_tbl[q.2.2.2]? = some (Cond.methodLink (z_cn o) q.1 Lib.Math.max.name))
    | 4 => decide (lw_tbl[q.2.2.2]? = some (Cond.methodLink (z_cn o) q.1 Lib.Math.min.name))
    | _ => false)
theorem z_chkL_ok : ((List.range 17).all fun o => (z_mls.getD o []).all (z_chkL o)) = true := by decide +kernel
theorem z_chkK_ok : ((List.range 17).all fun o => (z_kls.getD o []).all fun q => decide (lw_tbl[q.2.2]? = some (Cond.constant (z_cn o) q.1 (Int32.ofInt q.2.1)))) = true := by decide +kernel
theorem z_chkLL_ok : ((List.range 17).all fun o => (z_lls.getD o []).all fun q => decide (lw_tbl[q.2.2]? = some (Cond.constantLong (z_cn o) q.1 (Int64.ofInt q.2.1)))) = true := by decide +kernel
theorem z_chkS_ok : ((List.range 17).all fun o => (z_sls.getD o []).all fun q => Nat.blt q.2.1 26) = true := by decide +kernel
def z_chkG (o : Nat) (q : Nat × Nat × Nat) : Bool := match q.2.1 with
  | 0 => decide (lw_tbl[q.2.2]? = some (Cond.fieldLink (z_cn o) q.1 "java/lang/String" "COMPACT_STRINGS" "Z"))
  | 1 => decide (lw_tbl[q.2.2]? = some (Cond.fieldLink (z_cn o) q.1 "jdk/internal/util/Preconditions" "SIOOBE_FORMATTER" "Ljava/util/function/BiFunction;"))
  | 2 => decide (lw_tbl[q.2.2]? = some (Cond.fieldLink (z_cn o) q.1 RX9 "MAY_STAND" "[I"))
  | 3 => decide (o = 9 ∧ q.1 = 216)
  | _ => false
theorem z_chkG_ok : ((List.range 17).all fun o => (z_gls.getD o []).all (z_chkG o)) = true := by decide +kernel
theorem z_lens : z_fls.length = 17 ∧ z_mls.length = 17 ∧ z_kls.length = 17 ∧ z_lls.length = 17 ∧ z_sls.length = 17 ∧ z_gls.length = 17 := by decide +kernel
/-- fields: types, names apart, what is final -/
def z_ft (t : Nat) : FieldType := match t with
  | 0 => .int
  | 5 => .boolean
  | _ => .long
def z_chkT (c : Nat) : Bool := match zcl[c]? with
  | some (_, T, N) => Nat.beq N (z_nf c) && (List.range N).all fun k => (match z_tc (c + 10) k with
    | 2 => (T k).2.2.2
    | 3 => !(T k).2.2.2 && (match parseFieldDescriptor (T k).2.2.1 with
      | some (.object _) => true
      | _ => false)
    | 9 => false
    | t => !(T k).2.2.2 && decide (parseFieldDescriptor (T k).2.2.1 = some (z_ft t)) && (t == 0 || t == 5 || t == 1))
  | none => false
theorem z_chkT_ok : (List.range 13).all z_chkT = true := by decide +kernel
/-- ways from valid cells lead to valid cells -/
theorem z_chkV_ok : ((List.range 13).all fun c => (List.range (z_nf c)).all fun f => !(z_tc (c + 10) f == 2) || ((List.range 10).all fun i => (List.range (z_bd (c + 10) i)).all fun j => Nat.blt (z_fr (c + 10, i, j) f).2.2 (z_bd (z_fr (c + 10, i, j) f).1 (z_fr (c + 10, i, j) f).2.1) && Nat.ble 10 (z_fr (c + 10, i, j) f).1)) = true := by decide +kernel
theorem z_chkE_ok : ((List.range 182).all fun k => !(z_at k == 4) || ((List.range 10).all fun i => (List.range (z_bd k i)).all fun j => (List.range (z_ln (k, i, j))).all fun n => Nat.blt (z_el (k, i, j) n).2.2 (z_bd (z_el (k, i, j) n).1 (z_el (k, i, j) n).2.1) && Nat.ble 10 (z_el (k, i, j) n).1)) = true := by decide +kernel
theorem z_chkB_ok : ((List.range 182).all fun k => Nat.ble k 9 || Nat.ble (z_bds.getD k []).length 10) = true := by decide +kernel
theorem z_bds_len : z_bds.length = 182 ∧ z_ats.length = 182 ∧ z_t0s.length = 182 := by decide +kernel
theorem z_chkA_ok : ((List.range 182).all fun k => match z_at k with
  | 0 => Nat.beq (z_t0 k) 0 && Nat.ble 23 k
  | 1 => Nat.beq (z_t0 k) 1 && Nat.ble 23 k
  | 2 => Nat.beq (z_t0 k) 2 && Nat.ble 23 k
  | 3 => Nat.beq (z_t0 k) 3 && Nat.ble 23 k
  | 4 => Nat.ble 4 (z_t0 k) && Nat.ble (z_t0 k) 9 && Nat.ble 23 k
  | 5 => Nat.beq (z_t0 k) 5 && Nat.ble 23 k
  | 8 => Nat.beq k 1
  | 9 => Nat.beq k 2
  | 99 => true
  | _ => false) = true := by decide +kernel
theorem z_math_ok : lw_tbl[122]? = some (.initialized "java/lang/Math") ∧ lw_tbl[155]? = some (.static Lib.Math.max.name) ∧ lw_tbl[156]? = some (.code Lib.Math.max.name Lib.Math.max.code 2 (some .int)) ∧ lw_tbl[868]? = some (.static Lib.Math.min.name) ∧ lw_tbl[869]? = some (.code Lib.Math.min.name Lib.Math.min.code 2 (some .int)) := by decide +kernel
end
section
/-! ===== tables, derived ===== -/
theorem z_m_mem {y : Nat} (hy : y < 247) : z_m y ∈ z_ms := by
  unfold z_m
  rw [List.getD_eq_getElem?_getD, List.getElem?_eq_getElem (by rw [z_ms_len]; exact hy)]
  exact List.getElem_mem _
theorem z_good_code {y : MethodName} {b : ByteArray} {n : Nat} {r : Option FieldType} : goodWord (Cond.code y b n r) = true := rfl
/-- what is known of a method by its number -/
def z_MF (y : Nat) : Prop := Cond.code (z_m y).1 (z_m y).2.1 (z_m y).2.2.1 (z_m y).2.2.2.1 ∈ zTG ∧ Cond.initialized (z_m y).1.cls ∈ zTG ∧
  ((z_m y).2.2.2.2.2.1.1 = true → Cond.static (z_m y).1 ∈ zTG) ∧ ((z_m y).2.2.2.2.2.1.1 = false → Cond.instanceMethod (z_m y).1 ∈ zTG ∧ Cond.selects (z_m y).1.cls (z_m y).1 (z_m y).1 ∈ zTG) ∧
  plainName (z_m y).1.cls = true ∧ (z_m y).1.cls ≠ "java/lang/invoke/MethodHandle" ∧ (z_m y).1.cls ≠ "java/lang/invoke/VarHandle" ∧ (parseMethodDescriptor (z_m y).1.desc).map (fun d => d.parameters.length) = some (z_m y).2.2.2.2.2.1.2 ∧ z_cn (z_m y).2.2.2.2.1.1 = (z_m y).1.cls
theorem z_mf {y : Nat} (hy : y < 247) : z_MF y := by
  have h := List.all_eq_true.mp z_chkM_ok (z_m y) (z_m_mem hy)
  unfold z_chkM at h
  simp only [Bool.and_eq_true, decide_eq_true_eq] at h
  obtain ⟨⟨⟨⟨⟨⟨h2, h3⟩, h4⟩, h5⟩, h6⟩, h7⟩, h8⟩ := h
  have h1 : lw_tbl[(z_m y).2.2.2.2.2.2.1]? = some (Cond.code (z_m y).1 (z_m y).2.1 (z_m y).2.2.1 (z_m y).2.2.2.1) := z_map_eq z_cwk (z_m y) (z_m_mem hy)
  refine ⟨zTG_of h1 rfl, zTG_of h2 rfl, fun hs => ?_, fun hs => ?_, h4, h5, h6, h7, h8⟩
  · rw [hs] at h3
    simp only [if_true, decide_eq_true_eq] at h3
    exact zTG_of h3 rfl
  · rw [hs] at h3
    simp only [Bool.false_eq_true, if_false, Bool.and_eq_true, decide_eq_true_eq] at h3
    exact ⟨zTG_of h3.1 rfl, zTG_of h3.2 rfl⟩
theorem z_ws_in {y : Nat} (hy : y < 247) : GoodIn zTG (z_ws y) := by
  intro w hw
  rcases List.mem_cons.mp hw with h | h
  · subst h
    exact zTG_in _ (z_mf hy).1
  · exact zTG_in _ h
theorem z_row {α : Type} {L : List (List α)} {f : Nat → α → Bool} (hl : L.length = 17) (h : ((List.range 17).all fun o => (L.getD o []).all (f o)) = true) {o : Nat} {q : α} (hq : q ∈ L.getD o []) : f o q = true := by
  have ho : o < 17 := by
    rcases Nat.lt_or_ge o 17 with h1 | h1
    · exact h1
    · rw [List.getD_eq_getElem?_getD, List.getElem?_eq_none (by omega)] at hq
      simp at hq
  have h1 := List.all_eq_true.mp h o (List.mem_range.mpr ho)
  exact List.all_eq_true.mp h1 q hq
theorem z_find_mem {α : Type} {l : List α} {p : α → Bool} {q : α} (h : l.find? p = some q) : q ∈ l ∧ p q = true := ⟨List.mem_of_find?_eq_some h, List.find?_some h⟩
/-! ===== the constants go on ===== -/
theorem z_C.go {cx : zX} {U U' : State} (hC : z_C cx U) (hW : U.WarmedH U'.vm) (hk : ∀ a : Nat, a < U.heap.size → ¬ z_A cx a → U'.heap[a]? = U.heap[a]?) : z_C cx U' := by
  obtain ⟨h1, h2, h3, h4, h5, h6, h7, h8, h9⟩ := hC
  refine ⟨(h1.moved hW.alike).kept hk, (h2.moved hW.alike).kept hk, (h3.moved hW.alike).kept hk, (h4.moved hW.alike).kept hk, (h5.moved hW.alike).kept hk, fun i hi => ((h6 i hi).moved hW.alike).kept hk, fun o r hr hm => (h7 o r hr hm).warmM hW, h8.warmF hW, fun o r hr => (h9 o r hr).warm hW⟩
theorem z_W.go {cx : zX} {h : zH} {s U : State} {H : Heap} {locs : List Loc} (hP : z_P cx h H) (hK : va_K cx.1 zcl (z_tys cx) s) (hC : z_C cx s) (hD : z_D cx) (hS : va_S (z_A cx) s.heap H locs) (hU : U.heap = H) (hW : s.WarmedH U.vm) : z_W cx h U :=
  ⟨by rw [hU]; exact hP, va_K.moved hW.alike hK, hC.go hW (fun a h1 h2 => by rw [hU]; exact hS.2.1 a h1 h2), hD⟩
theorem z_W.blind {cx : zX} {h : zH} {as : List Value} : FrameBlind (va_Pc as (z_W cx h)) := by
  intro a U g mk hp
  obtain ⟨h1, h2, h3, h4, h5⟩ := hp
  refine ⟨h1, h2, va_K.moved (u := U) (U := U.calling g mk a) (Vm.Alike.refl U.vm) h3, h4.go (U' := U.calling g mk a) (State.WarmedH.refl U) (fun _ _ _ => rfl), h5⟩
/-! ===== locals ===== -/
def z_al (cx : zX) (L : zL) : List (Nat × Value) := (List.range L.length).filterMap (fun i => (L[i]?.join).map (fun v => (i, z_cv cx v)))
theorem z_al_mem {cx : zX} {L : zL} {q : Nat × Value} : q ∈ z_al cx L ↔ ∃ v, L[q.1]? = some (some v) ∧ q.2 = z_cv cx v := by
  unfold z_al
  rw [List.mem_filterMap]
  constructor
  · rintro ⟨i, hi, h⟩
    cases hL : L[i]? with
    | none => rw [hL] at h; simp at h
    | some o =>
      cases o with
      | none => rw [hL] at h; simp at h
      | some v =>
        rw [hL] at h
        simp at h
        subst h
        exact ⟨v, hL, rfl⟩
  · rintro ⟨v, hv, h2⟩
    have hl := (List.getElem?_eq_some_iff.mp hv).1
    refine ⟨q.1, List.mem_range.mpr hl, ?_⟩
    rw [hv]
    obtain ⟨a, b⟩ := q
    simp at h2
    simp [h2]
theorem z_LR.at {cx : zX} {L : zL} {ls : Array Slot} (h : z_LR cx L ls) {i : Nat} {v : zV} (hv : L[i]? = some (some v)) : ls[i]? = some (.val (z_cv cx v)) :=
  h.1.2.2 (i, z_cv cx v) (z_al_mem.mpr ⟨v, hv, rfl⟩)
theorem z_LR.mk {cx : zX} {L L' : zL} {ls' : Array Slot} {lv : List (Nat × Value)} (hl : lv_has ls' L.length lv) (hn : L'.length = L.length) (hin : ∀ q ∈ z_al cx L', q ∈ lv) (hv : ∀ (i : Nat) (v : zV), L'[i]? = some (some v) → z_vv v) : z_LR cx L' ls' := by
  refine ⟨⟨by rw [hn]; exact hl.1, hl.2.1, fun q hq => hl.2.2 q (hin q hq)⟩, hv⟩
theorem z_clr_some {o : Option zV} {w : zV} (h : z_clr o = some w) : o = some w ∧ ∀ x, w ≠ .inr (.inl x) := by
  cases o with
  | none => cases h
  | some v =>
    obtain a | b | c := v
    · cases h; exact ⟨rfl, fun x e => by cases e⟩
    · cases h
    · cases h; exact ⟨rfl, fun x e => by cases e⟩
theorem z_s1_len : ∀ (L : zL) (i : Nat) (v : zV), (z_s1 L i v).length = L.length
  | [], i, v => by simp [z_s1]
  | o :: t, 0, v => by simp [z_s1]
  | o :: t, 1, v => by simp [z_s1, z_s1_len t 0 v]
  | o :: t, n + 2, v => by simp [z_s1, z_s1_len t (n + 1) v]
theorem z_s2_len : ∀ (L : zL) (i : Nat) (v : zV), (z_s2 L i v).length = L.length
  | [], i, v => by simp [z_s2]
  | o :: t, 0, v => by cases t <;> simp [z_s2, z_h2]
  | o :: t, 1, v => by simp [z_s2, z_s2_len t 0 v]
  | o :: t, n + 2, v => by simp [z_s2, z_s2_len t (n + 1) v]
theorem z_s1_get : ∀ (L : zL) (i : Nat) (v : zV) (j : Nat) (w : zV), (z_s1 L i v)[j]? = some (some w) → (j = i ∧ w = v) ∨ (j ≠ i ∧ L[j]? = some (some w) ∧ ∀ x, j + 1 = i → w ≠ .inr (.inl x))
  | [], i, v, j, w, h => by simp [z_s1] at h
  | o :: t, 0, v, j, w, h => by
    cases j with
    | zero => simp [z_s1] at h; exact Or.inl ⟨rfl, h.symm⟩
    | succ j => simp [z_s1] at h; exact Or.inr ⟨by omega, by simpa using h, fun x e => by omega⟩
  | o :: t, 1, v, j, w, h => by
    cases j with
    | zero =>
      simp [z_s1] at h
      obtain ⟨h1, h2⟩ := z_clr_some h
      exact Or.inr ⟨by omega, by simp [h1], fun x _ => h2 x⟩
    | succ j =>
      simp only [z_s1, List.getElem?_cons_succ] at h
      rcases z_s1_get t 0 v j w h with ⟨h1, h2⟩ | ⟨h1, h2, h3⟩
      · exact Or.inl ⟨by omega, h2⟩
      · exact Or.inr ⟨by omega, by simpa using h2, fun x e => by omega⟩
  | o :: t, n + 2, v, j, w, h => by
    cases j with
    | zero => simp [z_s1] at h; exact Or.inr ⟨by omega, by simp [h], fun x e => by omega⟩
    | succ j =>
      simp only [z_s1, List.getElem?_cons_succ] at h
      rcases z_s1_get t (n + 1) v j w h with ⟨h1, h2⟩ | ⟨h1, h2, h3⟩
      · exact Or.inl ⟨by omega, h2⟩
      · exact Or.inr ⟨by omega, by simpa using h2, fun x e => h3 x (by omega)⟩
theorem z_s2_get : ∀ (L : zL) (i : Nat) (v : zV) (j : Nat) (w : zV), (z_s2 L i v)[j]? = some (some w) → (j = i ∧ w = v) ∨ (j ≠ i ∧ j ≠ i + 1 ∧ L[j]? = some (some w) ∧ ∀ x, j + 1 = i → w ≠ .inr (.inl x))
  | [], i, v, j, w, h => by simp [z_s2] at h
  | o :: t, 0, v, j, w, h => by
    cases j with
    | zero => simp [z_s2] at h; exact Or.inl ⟨rfl, h.symm⟩
    | succ j =>
      simp only [z_s2, List.getElem?_cons_succ] at h
      cases t with
      | nil => simp [z_h2] at h
      | cons a t =>
        cases j with
        | zero => simp [z_h2] at h
        | succ j => simp [z_h2] at h; exact Or.inr ⟨by omega, by omega, by simpa using h, fun x e => by omega⟩
  | o :: t, 1, v, j, w, h => by
    cases j with
    | zero =>
      simp [z_s2] at h
      obtain ⟨h1, h2⟩ := z_clr_some h
      exact Or.inr ⟨by omega, by omega, by simp [h1], fun x _ => h2 x⟩
    | succ j =>
      simp only [z_s2, List.getElem?_cons_succ] at h
      rcases z_s2_get t 0 v j w h with ⟨h1, h2⟩ | ⟨h1, h2, h3, h4⟩
      · exact Or.inl ⟨by omega, h2⟩
      · exact Or.inr ⟨by omega, by omega, by simpa using h3, fun x e => by omega⟩
  | o :: t, n + 2, v, j, w, h => by
    cases j with
    | zero => simp [z_s2] at h; exact Or.inr ⟨by omega, by omega, by simp [h], fun x e => by omega⟩
    | succ j =>
      simp only [z_s2, List.getElem?_cons_succ] at h
      rcases z_s2_get t (n + 1) v j w h with ⟨h1, h2⟩ | ⟨h1, h2, h3, h4⟩
      · exact Or.inl ⟨by omega, h2⟩
      · exact Or.inr ⟨by omega, by omega, by simpa using h3, fun x e => h4 x (by omega)⟩
theorem z_cat_cv (cx : zX) (w : zV) : (∀ x, w ≠ .inr (.inl x)) → (z_cv cx w).category = 1 := by
  intro h
  obtain a | b | c := w
  · rfl
  · exact absurd rfl (h b)
  · show (if c.1 = 3 then va_rf cx.2.2.2.1 else Value.ref (cx.2.1 c)).category = 1
    by_cases h3 : c.1 = 3
    · rw [if_pos h3]
      cases cx.2.2.2.1 <;> rfl
    · rw [if_neg h3]
      rfl
theorem z_LR.s1 {cx : zX} {L : zL} {ls ls' : Array Slot} {i : Nat} {v : zV} (h : z_LR cx L ls) (hv : z_vv v) (hl : lv_has ls' L.length ((i, z_cv cx v) :: (z_al cx L).filter (fun q => !(q.1 == i) && !(q.1 + 1 == i && q.2.category == 2)))) : z_LR cx (z_s1 L i v) ls' := by
  refine z_LR.mk hl (z_s1_len L i v) (fun q hq => ?_) (fun j w hw => ?_)
  · obtain ⟨w, h1, h2⟩ := z_al_mem.mp hq
    rcases z_s1_get L i v q.1 w h1 with ⟨e1, e2⟩ | ⟨e1, e2, e3⟩
    · refine List.mem_cons.mpr (Or.inl ?_)
      obtain ⟨a, b⟩ := q
      simp at e1 h2
      subst e1
      rw [h2, e2]
    · refine List.mem_cons.mpr (Or.inr (List.mem_filter.mpr ⟨z_al_mem.mpr ⟨w, e2, h2⟩, ?_⟩))
      have h3 : (q.1 == i) = false := by simpa using e1
      by_cases h4 : q.1 + 1 = i
      · have h5 := z_cat_cv cx w (fun x => e3 x h4)
        rw [← h2] at h5
        simp [h3, h5]
      · simp [h3, h4]
  · rcases z_s1_get L i v j w hw with ⟨_, e2⟩ | ⟨_, e2, _⟩
    · rw [e2]; exact hv
    · exact h.2 j w e2
theorem z_LR.s2 {cx : zX} {L : zL} {ls ls' : Array Slot} {i : Nat} {v : zV} (h : z_LR cx L ls) (hv : z_vv v) (hl : lv_has ls' L.length ((i, z_cv cx v) :: (z_al cx L).filter (fun q => !(q.1 == i) && (!(q.1 == i + 1) && !(q.1 + 1 == i && q.2.category == 2))))) : z_LR cx (z_s2 L i v) ls' := by
  refine z_LR.mk hl (z_s2_len L i v) (fun q hq => ?_) (fun j w hw => ?_)
  · obtain ⟨w, h1, h2⟩ := z_al_mem.mp hq
    rcases z_s2_get L i v q.1 w h1 with ⟨e1, e2⟩ | ⟨e1, e0, e2, e3⟩
    · refine List.mem_cons.mpr (Or.inl ?_)
      obtain ⟨a, b⟩ := q
      simp at e1 h2
      subst e1
      rw [h2, e2]
    · refine List.mem_cons.mpr (Or.inr (List.mem_filter.mpr ⟨z_al_mem.mpr ⟨w, e2, h2⟩, ?_⟩))
      have h3 : (q.1 == i) = false := by simpa using e1
      have h30 : (q.1 == i + 1) = false := by simpa using e0
      by_cases h4 : q.1 + 1 = i
      · have h5 := z_cat_cv cx w (fun x => e3 x h4)
        rw [← h2] at h5
        simp [h3, h30, h5]
      · simp [h3, h30, h4]
  · rcases z_s2_get L i v j w hw with ⟨_, e2⟩ | ⟨_, _, e2, _⟩
    · rw [e2]; exact hv
    · exact h.2 j w e2
theorem z_mask_len : ∀ (m : List Bool) (L : zL), m.length = L.length → (z_mask m L).length = L.length
  | [], [], _ => rfl
  | [], _ :: _, h => by simp at h
  | _ :: _, [], h => by simp at h
  | true :: m, o :: t, h => by simp [z_mask, z_mask_len m t (by simpa using h)]
  | false :: m, o :: t, h => by simp [z_mask, z_mask_len m t (by simpa using h)]
theorem z_mask_get : ∀ (m : List Bool) (L : zL) (j : Nat) (w : zV), (z_mask m L)[j]? = some (some w) → L[j]? = some (some w)
  | [], L, j, w, h => by simp [z_mask] at h
  | _ :: _, [], j, w, h => by simp [z_mask] at h
  | true :: m, o :: t, j, w, h => by
    cases j with
    | zero => simpa [z_mask] using h
    | succ j => simp only [z_mask, List.getElem?_cons_succ] at h; simpa using z_mask_get m t j w h
  | false :: m, o :: t, j, w, h => by
    cases j with
    | zero => simp [z_mask] at h
    | succ j => simp only [z_mask, List.getElem?_cons_succ] at h; simpa using z_mask_get m t j w h
theorem z_LR.mask {cx : zX} {L : zL} {ls : Array Slot} {m : List Bool} (h : z_LR cx L ls) (hm : m.length = L.length) : z_LR cx (z_mask m L) ls := by
  have h1 := z_mask_len m L hm
  refine ⟨⟨by rw [h1]; exact h.1.1, h.1.2.1, fun q hq => ?_⟩, fun i v hv => h.2 i v (z_mask_get m L i v hv)⟩
  obtain ⟨v, h2, h3⟩ := z_al_mem.mp hq
  rw [h3]
  exact h.at (z_mask_get m L q.1 v h2)
/-- entry: the arguments become locals -/
def z_ent : List zV → zL
  | [] => []
  | .inr (.inl x) :: t => some (.inr (.inl x)) :: none :: z_ent t
  | v :: t => some v :: z_ent t
def z_pad (L : zL) (n : Nat) : zL := L ++ List.replicate (n - L.length) none
theorem z_cv_cat2 (cx : zX) (x : Int64) : (z_cv cx (.inr (.inl x))).category = 2 := rfl
theorem z_ent_mem (cx : zX) : ∀ (as : List zV) (b j : Nat) (w : zV), (z_ent as)[j]? = some (some w) → (b + j, z_cv cx w) ∈ lv_args b (as.map (z_cv cx)) ∧ w ∈ as
  | [], b, j, w, h => by simp [z_ent] at h
  | .inr (.inl x) :: t, b, j, w, h => by
    simp only [z_ent] at h
    simp only [List.map_cons, lv_args, z_cv_cat2, if_true]
    match j, h with
    | 0, h => simp at h; subst h; exact ⟨List.mem_cons_self, List.mem_cons_self⟩
    | 1, h => simp at h
    | j + 2, h =>
      simp only [List.getElem?_cons_succ] at h
      have h1 := z_ent_mem cx t (b + 2) j w h
      rw [show b + 2 + j = b + (j + 2) by omega] at h1
      exact ⟨List.mem_cons_of_mem _ h1.1, List.mem_cons_of_mem _ h1.2⟩
  | .inl x :: t, b, j, w, h => by
    simp only [z_ent] at h
    have hc : (z_cv cx (.inl x)).category = 1 := rfl
    simp only [List.map_cons, lv_args, hc]
    match j, h with
    | 0, h => simp at h; subst h; exact ⟨List.mem_cons_self, List.mem_cons_self⟩
    | j + 1, h =>
      simp only [List.getElem?_cons_succ] at h
      have h1 := z_ent_mem cx t (b + 1) j w h
      rw [show b + 1 + j = b + (j + 1) by omega] at h1
      exact ⟨List.mem_cons_of_mem _ h1.1, List.mem_cons_of_mem _ h1.2⟩
  | .inr (.inr x) :: t, b, j, w, h => by
    simp only [z_ent] at h
    have hc : (z_cv cx (.inr (.inr x))).category = 1 := z_cat_cv cx _ (fun y e => by cases e)
    simp only [List.map_cons, lv_args, hc]
    match j, h with
    | 0, h => simp at h; subst h; exact ⟨List.mem_cons_self, List.mem_cons_self⟩
    | j + 1, h =>
      simp only [List.getElem?_cons_succ] at h
      have h1 := z_ent_mem cx t (b + 1) j w h
      rw [show b + 1 + j = b + (j + 1) by omega] at h1
      exact ⟨List.mem_cons_of_mem _ h1.1, List.mem_cons_of_mem _ h1.2⟩
theorem z_ent_len (cx : zX) : ∀ (as : List zV), (lg_sl (as.map (z_cv cx))).length = (z_ent as).length
  | [] => rfl
  | .inr (.inl x) :: t => by
    have h := z_ent_len cx t
    simp only [lg_sl, List.map_cons, List.flatMap_cons, z_cv_cat2, if_true, List.length_append, z_ent, List.length_cons] at h ⊢
    simp [h]; omega
  | .inl x :: t => by
    have h := z_ent_len cx t
    have hc : (z_cv cx (.inl x)).category = 1 := rfl
    simp only [lg_sl, List.map_cons, List.flatMap_cons, hc, List.length_append, z_ent, List.length_cons] at h ⊢
    simp [h]; omega
  | .inr (.inr x) :: t => by
    have h := z_ent_len cx t
    have hc : (z_cv cx (.inr (.inr x))).category = 1 := z_cat_cv cx _ (fun y e => by cases e)
    simp only [lg_sl, List.map_cons, List.flatMap_cons, hc, List.length_append, z_ent, List.length_cons] at h ⊢
    simp [h]; omega
theorem z_pad_get {L : zL} {n j : Nat} {w : zV} (h : (z_pad L n)[j]? = some (some w)) : L[j]? = some (some w) := by
  unfold z_pad at h
  rcases Nat.lt_or_ge j L.length with h1 | h1
  · rwa [List.getElem?_append_left h1] at h
  · rw [List.getElem?_append_right h1] at h
    simp [List.getElem?_replicate] at h
theorem z_pad_len {L : zL} {n : Nat} (h : L.length ≤ n) : (z_pad L n).length = n := by
  unfold z_pad
  simp
  omega
theorem z_LR.entry {cx : zX} {as : List zV} {n : Nat} (hn : (z_ent as).length ≤ n) (hv : ∀ v ∈ as, z_vv v) : z_LR cx (z_pad (z_ent as) n) ((lg_sl (as.map (z_cv cx)) ++ List.replicate (n - (lg_sl (as.map (z_cv cx))).length) Slot.unset).toArray) := by
  have h0 := z_ent_len cx as
  have h := lv_entry (as.map (z_cv cx)) (n := n) (by rw [h0]; exact hn)
  have h1 := z_pad_len hn
  refine ⟨⟨by rw [h1]; exact h.1, h.2.1, fun q hq => ?_⟩, fun i v hi => hv v (z_ent_mem cx as 0 i v (z_pad_get hi)).2⟩
  obtain ⟨v, h2, h3⟩ := z_al_mem.mp hq
  have h4 := (z_ent_mem cx as 0 q.1 v (z_pad_get h2)).1
  rw [Nat.zero_add, ← h3] at h4
  exact h.2.2 q h4
/-- a method's contract out of its body's -/
theorem zOk.of {y : Nat} {as : List zV} {h : zH} {Q : Option zV → zH → Prop} (hy : y < 247) (hn : (z_ent as).length ≤ (z_m y).2.2.1) (k : zAt y 0 (z_pad (z_ent as) (z_m y).2.2.1) [] h Q) : zOk y as h Q := by
  intro hv cx l
  refine Met.ofW (cc := (z_m y).2.1) (maxL := (z_m y).2.2.1) (ret := (z_m y).2.2.2.1) (z_mf hy).2.2.2.2.1 rfl ?_
  intro p e s m args below meth c s₁ B hml hp
  obtain ⟨rfl, hP, hK, hC, hD⟩ := hp
  have hts := atoms_spec (ws := z_ws y) B.pre
  rw [lg_entry_eq]
  exact k (z_pad_len hn) cx p l e s m _ below meth c s.heap [] _ ⟨B.exec, B.bytes, B.returns, hml, findClass_of_methodNamed B.named, fun w hw => hts w (List.mem_cons_of_mem _ hw), B.notSynchronized, hK, hC, hD, va_S.rf⟩ hP (z_LR.entry hn hv) (fun v h => by cases h)
end
section
/-! ===== cells of the world ===== -/
theorem z_P.one {cx : zX} {h : zH} {H : Heap} {q : zR} (hP : z_P cx h H) (hv : z_vl q) (h10 : 10 ≤ q.1) : va_P cx.1 zcl [(cx.2.1 q, z_cell cx h q)] H := by
  intro k x hk
  match k, hk with
  | 0, hk => cases hk; exact hP.1 q hv h10
  | k + 1, hk => simp at hk
theorem z_cell_o {cx : zX} {h : zH} {q : zR} (hq : q.1 < 23) : z_cell cx h q = .inr (q.1 - 10, (List.range (z_nf (q.1 - 10))).map (z_fv cx h q)) := if_pos hq
theorem z_cell_a {cx : zX} {h : zH} {q : zR} (hq : 23 ≤ q.1) : z_cell cx h q = .inl (cx.2.2.1 (z_t0 q.1), z_ac cx h q) := if_neg (by omega)
theorem z_cv_r {cx : zX} {q : zR} (h : q.1 ≠ 3) : z_cv cx (.inr (.inr q)) = .ref (cx.2.1 q) := if_neg h
theorem z_tynm {c : Nat} {r : vw_C} (h : zcl[c]? = some r) : ∃ ty0 : Nat → FieldType, (∀ k, k < r.2.2 → parseFieldDescriptor (r.2.1 k).2.2.1 = some (ty0 k)) ∧ ∀ a, a < r.2.2 → ∀ b, b < r.2.2 → a ≠ b → (r.2.1 a).2.1 ≠ (r.2.1 b).2.1 := by
  match c, h with
  | 0, h => cases h; exact ⟨tyX0, tyX0_ok, nmX0⟩
  | 1, h => cases h; exact ⟨tyX1, tyX1_ok, nmX1⟩
  | 2, h => cases h; exact ⟨tyX2, tyX2_ok, nmX2⟩
  | 3, h => cases h; exact ⟨tyX3, tyX3_ok, nmX3⟩
  | 4, h => cases h; exact ⟨tyX4, tyX4_ok, nmX4⟩
  | 5, h => cases h; exact ⟨tyX5, tyX5_ok, nmX5⟩
  | 6, h => cases h; exact ⟨tyX6, tyX6_ok, nmX6⟩
  | 7, h => cases h; exact ⟨tyX7, tyX7_ok, nmX7⟩
  | 8, h => cases h; exact ⟨tyX8, tyX8_ok, nmX8⟩
  | 9, h => cases h; exact ⟨tyX9, tyX9_ok, nmX9⟩
  | 10, h => cases h; exact ⟨tyX10, tyX10_ok, nmX10⟩
  | 11, h => cases h; exact ⟨tyX11, tyX11_ok, nmX11⟩
  | 12, h => cases h; exact ⟨tyX12, tyX12_ok, nmX12⟩
  | n + 13, h => simp [zcl] at h
theorem z_clen {c : Nat} (h : c < 13) : ∃ r, zcl[c]? = some r ∧ r.2.2 = z_nf c := by
  have h1 := List.all_eq_true.mp z_chkT_ok c (List.mem_range.mpr h)
  unfold z_chkT at h1
  cases hc : zcl[c]? with
  | none => rw [hc] at h1; cases h1
  | some r =>
    rw [hc] at h1
    obtain ⟨C, T, N⟩ := r
    simp only [Bool.and_eq_true] at h1
    exact ⟨_, rfl, Nat.eq_of_beq_eq_true h1.1⟩
/-- a field's row: its link, its place -/
def z_FR (o idx kd k : Nat) : Prop := ∃ (C : String) (T : u_T) (N : Nat), 10 ≤ kd ∧ kd < 23 ∧ zcl[kd - 10]? = some (C, T, N) ∧ N = z_nf (kd - 10) ∧ k < N ∧ Cond.fieldLink (z_cn o) idx (T k).1 (T k).2.1 (T k).2.2.1 ∈ zTG
theorem z_fr_of {o : Nat} {q : Nat × Nat × Nat} (hq : q ∈ z_fls.getD o []) (h0 : q.2.1 / 1024 ≠ 0) : z_FR o q.1 (q.2.1 / 1024) (q.2.1 / 8 % 128) ∧ q.2.1 % 8 = z_tc (q.2.1 / 1024) (q.2.1 / 8 % 128) := by
  have h := z_row z_lens.1 z_chkF_ok hq
  unfold z_chkF at h
  rw [if_neg h0] at h
  cases hc : zcl[q.2.1 / 1024 - 10]? with
  | none => rw [hc] at h; cases h
  | some r =>
    rw [hc] at h
    obtain ⟨C, T, N⟩ := r
    simp only [Bool.and_eq_true, decide_eq_true_eq] at h
    obtain ⟨⟨⟨h1, h2⟩, h3⟩, h4⟩ := h
    have hl := (List.getElem?_eq_some_iff.mp hc).1
    have hl2 : q.2.1 / 1024 - 10 < 13 := hl
    obtain ⟨r', hr', hn⟩ := z_clen hl2
    rw [hc] at hr'
    cases hr'
    exact ⟨⟨C, T, N, h1, by omega, hc, hn, h2, zTG_of h3 rfl⟩, h4⟩
theorem z_vl_fr {q : zR} {k : Nat} (hv : z_vl q) (h10 : 10 ≤ q.1) (h23 : q.1 < 23) (hk : k < z_nf (q.1 - 10)) (ht : z_tc q.1 k = 2) : z_vl (z_fr q k) ∧ 10 ≤ (z_fr q k).1 := by
  obtain ⟨kd, i, j⟩ := q
  have hv' : j < z_bd kd i := hv
  have hi : i < 10 := by
    rcases Nat.lt_or_ge i 10 with h | h
    · exact h
    · have h1 := List.all_eq_true.mp z_chkB_ok kd (List.mem_range.mpr (by simp at h23; omega))
      simp only [Bool.or_eq_true] at h1
      rcases h1 with h1 | h1
      · have := Nat.le_of_ble_eq_true h1
        simp at h10; omega
      · have h2 := Nat.le_of_ble_eq_true h1
        unfold z_bd at hv'
        rw [List.getD_eq_getElem?_getD (l := z_bds.getD kd []), List.getElem?_eq_none (by omega)] at hv'
        simp at hv'
  have h1 := List.all_eq_true.mp z_chkV_ok (kd - 10) (List.mem_range.mpr (by simp at h23; omega))
  have h2 := List.all_eq_true.mp h1 k (List.mem_range.mpr hk)
  have e : kd - 10 + 10 = kd := by simp at h10; omega
  rw [e] at h2
  have ht' : z_tc kd k = 2 := ht
  simp only [ht', beq_self_eq_true, Bool.not_true, Bool.false_or] at h2
  have h3 := List.all_eq_true.mp h2 i (List.mem_range.mpr hi)
  have h4 := List.all_eq_true.mp h3 j (List.mem_range.mpr hv')
  simp only [Bool.and_eq_true] at h4
  exact ⟨Nat.blt_eq.mp h4.1, Nat.le_of_ble_eq_true h4.2⟩
theorem z_at_lt {k : Nat} (h : z_at k ≠ 99) : k < 182 := by
  rcases Nat.lt_or_ge k 182 with h1 | h1
  · exact h1
  · refine absurd ?_ h
    unfold z_at
    rw [List.getD_eq_getElem?_getD, List.getElem?_eq_none (by rw [z_bds_len.2.1]; omega)]
    rfl
theorem z_vl_el {q : zR} {n : Nat} (hv : z_vl q) (ht : z_at q.1 = 4) (hn : n < z_ln q) : z_vl (z_el q n) ∧ 10 ≤ (z_el q n).1 := by
  obtain ⟨kd, i, j⟩ := q
  have hv' : j < z_bd kd i := hv
  have ht' : z_at kd = 4 := ht
  have hk : kd < 182 := z_at_lt (by rw [ht']; decide)
  have ha := List.all_eq_true.mp z_chkA_ok kd (List.mem_range.mpr hk)
  rw [ht'] at ha
  simp only [Bool.and_eq_true] at ha
  have h23 := Nat.le_of_ble_eq_true ha.2
  have hi : i < 10 := by
    rcases Nat.lt_or_ge i 10 with h | h
    · exact h
    · have h1 := List.all_eq_true.mp z_chkB_ok kd (List.mem_range.mpr hk)
      simp only [Bool.or_eq_true] at h1
      rcases h1 with h1 | h1
      · have := Nat.le_of_ble_eq_true h1
        omega
      · have h2 := Nat.le_of_ble_eq_true h1
        unfold z_bd at hv'
        rw [List.getD_eq_getElem?_getD (l := z_bds.getD kd []), List.getElem?_eq_none (by omega)] at hv'
        simp at hv'
  have h1 := List.all_eq_true.mp z_chkE_ok kd (List.mem_range.mpr hk)
  simp only [ht', beq_self_eq_true, Bool.not_true, Bool.false_or] at h1
  have h3 := List.all_eq_true.mp h1 i (List.mem_range.mpr hi)
  have h4 := List.all_eq_true.mp h3 j (List.mem_range.mpr hv')
  have h5 := List.all_eq_true.mp h4 n (List.mem_range.mpr hn)
  simp only [Bool.and_eq_true] at h5
  exact ⟨Nat.blt_eq.mp h5.1, Nat.le_of_ble_eq_true h5.2⟩
/-- a row of an array of a type -/
theorem z_at_fact {k a : Nat} (h : z_at k = a) (ha : a ≤ 5) : 23 ≤ k ∧ (a = 0 → z_t0 k = 0) ∧ (a = 1 → z_t0 k = 1) ∧ (a = 2 → z_t0 k = 2) ∧ (a = 3 → z_t0 k = 3) ∧ (a = 4 → 4 ≤ z_t0 k ∧ z_t0 k ≤ 9) ∧ (a = 5 → z_t0 k = 5) := by
  have hk : k < 182 := z_at_lt (by rw [h]; omega)
  have h1 := List.all_eq_true.mp z_chkA_ok k (List.mem_range.mpr hk)
  subst h
  match hz : z_at k, h1, ha with
  | 0, h1, _ =>
    simp only [Bool.and_eq_true] at h1
    exact ⟨Nat.le_of_ble_eq_true h1.2, fun _ => Nat.eq_of_beq_eq_true h1.1, fun e => by omega, fun e => by omega, fun e => by omega, fun e => by omega, fun e => by omega⟩
  | 1, h1, _ =>
    simp only [Bool.and_eq_true] at h1
    exact ⟨Nat.le_of_ble_eq_true h1.2, fun e => by omega, fun _ => Nat.eq_of_beq_eq_true h1.1, fun e => by omega, fun e => by omega, fun e => by omega, fun e => by omega⟩
  | 2, h1, _ =>
    simp only [Bool.and_eq_true] at h1
    exact ⟨Nat.le_of_ble_eq_true h1.2, fun e => by omega, fun e => by omega, fun _ => Nat.eq_of_beq_eq_true h1.1, fun e => by omega, fun e => by omega, fun e => by omega⟩
  | 3, h1, _ =>
    simp only [Bool.and_eq_true] at h1
    exact ⟨Nat.le_of_ble_eq_true h1.2, fun e => by omega, fun e => by omega, fun e => by omega, fun _ => Nat.eq_of_beq_eq_true h1.1, fun e => by omega, fun e => by omega⟩
  | 4, h1, _ =>
    simp only [Bool.and_eq_true] at h1
    exact ⟨Nat.le_of_ble_eq_true h1.2, fun e => by omega, fun e => by omega, fun e => by omega, fun e => by omega, fun _ => ⟨Nat.le_of_ble_eq_true h1.1.1, Nat.le_of_ble_eq_true h1.1.2⟩, fun e => by omega⟩
  | 5, h1, _ =>
    simp only [Bool.and_eq_true] at h1
    exact ⟨Nat.le_of_ble_eq_true h1.2, fun e => by omega, fun e => by omega, fun e => by omega, fun e => by omega, fun e => by omega, fun _ => Nat.eq_of_beq_eq_true h1.1⟩
/-! ===== a cell changes ===== -/
theorem z_P.upd {cx : zX} {h h1 : zH} {H H1 : Heap} {q : zR} (hP : z_P cx h H) (hD : z_D cx) (hv : z_vl q) (h10 : 10 ≤ q.1) (hq : va_at cx.1 zcl (cx.2.1 q, z_cell cx h1 q) H1) (oq : ∀ a : Nat, a ≠ cx.2.1 q → H1[a]? = H[a]?) (hc : ∀ q' : zR, q' ≠ q → z_cell cx h1 q' = z_cell cx h q') (hr : ∀ (q' : zR) (k : Nat) (q'' : zR), h1.2.2 q' k = some q'' → z_vl q'' ∧ q''.1 ≠ 3) : z_P cx h1 H1 := by
  refine ⟨fun q' hv' h10' => ?_, hr⟩
  by_cases e : q' = q
  · rw [e]; exact hq
  · rw [hc q' e]
    exact (hP.1 q' hv' h10').kept (oq _ (fun z => e (hD.1 q' q hv' h10' hv h10 z)))
theorem z_uI_ne {h : zH} {q q' : zR} {k : Nat} {x : Int32} (hq : q' ≠ q) : (z_uI h q k x).1 q' = h.1 q' := by
  funext j
  show (if q' = q ∧ j = k then x else h.1 q' j) = h.1 q' j
  rw [if_neg (fun e => hq e.1)]
theorem z_uL_ne {h : zH} {q q' : zR} {k : Nat} {x : Int64} (hq : q' ≠ q) : (z_uL h q k x).2.1 q' = h.2.1 q' := by
  funext j
  show (if q' = q ∧ j = k then x else h.2.1 q' j) = h.2.1 q' j
  rw [if_neg (fun e => hq e.1)]
theorem z_uR_ne {h : zH} {q q' : zR} {k : Nat} {x : zR} (hq : q' ≠ q) : (z_uR h q k x).2.2 q' = h.2.2 q' := by
  funext j
  show (if q' = q ∧ j = k then some x else h.2.2 q' j) = h.2.2 q' j
  rw [if_neg (fun e => hq e.1)]
theorem z_cell_eq {cx : zX} {h h1 : zH} {q : zR} (e1 : h1.1 q = h.1 q) (e2 : h1.2.1 q = h.2.1 q) (e3 : h1.2.2 q = h.2.2 q) : z_cell cx h1 q = z_cell cx h q := by
  have e4 : z_fv cx h1 q = z_fv cx h q := by
    funext k
    unfold z_fv
    rw [e1, e2, e3]
  unfold z_cell z_ac
  rw [e1, e2, e3, e4]
theorem z_cell_uI {cx : zX} {h : zH} {q q' : zR} {k : Nat} {x : Int32} (hq : q' ≠ q) : z_cell cx (z_uI h q k x) q' = z_cell cx h q' := z_cell_eq (z_uI_ne hq) rfl rfl
theorem z_cell_uL {cx : zX} {h : zH} {q q' : zR} {k : Nat} {x : Int64} (hq : q' ≠ q) : z_cell cx (z_uL h q k x) q' = z_cell cx h q' := z_cell_eq rfl (z_uL_ne hq) rfl
theorem z_cell_uR {cx : zX} {h : zH} {q q' : zR} {k : Nat} {x : zR} (hq : q' ≠ q) : z_cell cx (z_uR h q k x) q' = z_cell cx h q' := z_cell_eq rfl rfl (z_uR_ne hq)
theorem z_vpV {n k : Nat} {f : Nat → Value} (hk : k < n) : vp_V ((List.range n).map f) k = f k := by
  unfold vp_V
  rw [List.getD_eq_getElem?_getD, List.getElem?_map, List.getElem?_range hk]
  rfl
section ZST
variable {cx : zX} {y : Nat} {p : Program} {l : Launch} {e : Env} {s : State} {m : MethodId} {args : Array Value} {below : List Frame} {meth : Method} {c : Code} {H : Heap} {locs : List Loc} {ls : Array Slot} {pc : Nat} {R : Room} {cells slots : Nat} {Q : State → Prop} {rest : List Value} {h : zH}
/-- getfield -/
theorem z_Wget (hE : z_E cx y p s m args meth c H locs) (ho : z_cn (z_m y).2.2.2.2.1.1 = (z_m y).1.cls) (hP : z_P cx h H) {q : zR} (hv : z_vl q) {idx k : Nat} (hF : z_FR (z_m y).2.2.2.2.1.1 idx q.1 k) (hd : decode (z_m y).2.1 pc = .ok (.getfield idx, 3))
    (kk : W p l e R s m args below meth c H locs cells slots Q (F0 m (pc + 3) ls (z_fv cx h q k :: rest))) : W p l e R s m args below meth c H locs cells slots Q (F0 m pc ls (.ref (cx.2.1 q) :: rest)) := by
  obtain ⟨hx, hb, hr, hml, hown, hts, hlk, hK, hC, hD, hS⟩ := hE
  obtain ⟨C, T, N, h10, h23, hc, hN, hk, hin⟩ := hF
  have h1 := hP.one hv h10
  rw [z_cell_o h23] at h1
  refine va_get (C := C) (T := T) (N := N) (ref := (T k).1) (index := idx) hx hb hts (zcl_words hc) (by rw [ho]; exact hown) hK h1 0 rfl hc k hk (hts _ hin) (fun x hx => hx) (v := z_fv cx h q k) ?_ hd kk
  rw [List.getElem?_map, List.getElem?_range (by rw [← hN]; exact hk)]
  rfl
/-- putfield -/
theorem z_Wput (hE : z_E cx y p s m args meth c H locs) (ho : z_cn (z_m y).2.2.2.2.1.1 = (z_m y).1.cls) (hP : z_P cx h H) {q : zR} (hv : z_vl q) {idx k : Nat} (hF : z_FR (z_m y).2.2.2.2.1.1 idx q.1 k) (hd : decode (z_m y).2.1 pc = .ok (.putfield idx, 3))
    {v : Value} {ty : FieldType} {h1 : zH} (hty : ∀ (C : String) (T : u_T) (N : Nat), zcl[q.1 - 10]? = some (C, T, N) → parseFieldDescriptor (T k).2.2.1 = some ty ∧ (T k).2.2.2 = false) (hn : narrow ty v = v) (hfit : fits ty v = true)
    (hv1 : z_fv cx h1 q k = v) (hv2 : ∀ j, j ≠ k → z_fv cx h1 q j = z_fv cx h q j) (hc1 : ∀ q' : zR, q' ≠ q → z_cell cx h1 q' = z_cell cx h q') (hr1 : ∀ (q' : zR) (k : Nat) (q'' : zR), h1.2.2 q' k = some q'' → z_vl q'' ∧ q''.1 ≠ 3)
    (kk : ∀ (H1 : Heap) (locs1 : List Loc), z_P cx h1 H1 → va_S (z_A cx) s.heap H1 locs1 → W p l e R s m args below meth c H1 locs1 cells slots Q (F0 m (pc + 3) ls rest)) : W p l e R s m args below meth c H locs cells slots Q (F0 m pc ls (v :: .ref (cx.2.1 q) :: rest)) := by
  obtain ⟨hx, hb, hr, hml, hown, hts, hlk, hK, hC, hD, hS⟩ := hE
  obtain ⟨C, T, N, h10, h23, hc, hN, hk, hin⟩ := hF
  obtain ⟨hd1, hfin⟩ := hty C T N hc
  obtain ⟨ty0, hty0, hnm0⟩ := z_tynm hc
  have hap := va_apart (own := z_cn (z_m y).2.2.2.2.1.1) hts (zcl_words hc) ty0 hty0 hnm0 hK hc
  obtain ⟨r, g1, cell, q1, q2, q3, q4⟩ := hP.one hv h10 0 _ (by rw [z_cell_o h23]; rfl)
  have hr : r = (C, T, N) := Option.some.inj (g1.symm.trans hc)
  subst hr
  obtain ⟨hSl, hfc, kC, hkC, hkind⟩ := hK.1 _ _ hc
  obtain ⟨cf, kf, fi, f, hi, hsl⟩ := hSl k hk
  have hlay := hts _ (zcl_words hc _ (u_in_lay hk))
  unfold u_lay at hlay
  rw [if_neg (by rw [hfin]; decide)] at hlay
  have hst := (u_facts hfc hkC (u_lays hts (zcl_words hc) hk) hi).1
  have h6 := u_store hfc hkC hkind hlay hi hd1 hn hfit
  refine W.putK hx hb (f := f) ⟨by rw [ho]; exact hown, hts _ hin, ⟨_, _, _, hi⟩, hst⟩ (by rw [q2]; exact h6) q1 q3 (by rw [hsl]; exact k2_hasslot (q4 k hk)) rfl rfl hd fun H' e1 e2 e3 => ?_
  rw [hsl] at e1 ⊢
  refine kk H' _ (hP.upd hD hv h10 ?_ e3 hc1 hr1) (hS.put e2 e3 (hD.2 q hv h10))
  rw [z_cell_o h23]
  refine ⟨_, hc, t_OB.to (V := updV (vp_V ((List.range (z_nf (q.1 - 10))).map (z_fv cx h q))) k v) ⟨_, e1, q2, q3, t_set q4 hap hk v⟩ (fun j hj => ?_)⟩
  have hj' : j < z_nf (q.1 - 10) := by rw [← hN]; exact hj
  show updV _ k v j = vp_V ((List.range (z_nf (q.1 - 10))).map (z_fv cx h1 q)) j
  rw [z_vpV hj']
  by_cases hjk : j = k
  · subst hjk
    simp [updV, hv1]
  · rw [hv2 j hjk]
    simp [updV, hjk, z_vpV hj']
end ZST
end
section
section ZST2
variable {cx : zX} {y : Nat} {p : Program} {l : Launch} {e : Env} {s : State} {m : MethodId} {args : Array Value} {below : List Frame} {meth : Method} {c : Code} {H : Heap} {locs : List Loc} {ls : Array Slot} {pc : Nat} {R : Room} {cells slots : Nat} {Q : State → Prop} {rest : List Value} {h : zH}
/-! ===== arrays ===== -/
theorem z_ac0 {q : zR} {a : Nat} (ha : z_at q.1 = a) (h0 : a = 0 ∨ a = 2 ∨ a = 3) : z_ac cx h q = (z_ln q, .inl (h.1 q)) := by
  unfold z_ac
  rcases h0 with h0 | h0 | h0 <;> (subst h0; rw [ha]; rfl)
theorem z_ac1 {q : zR} (ha : z_at q.1 = 1) : z_ac cx h q = (z_ln q, .inr (.inl (h.2.1 q))) := by
  unfold z_ac
  rw [ha]
  rfl
theorem z_ac4 {q : zR} (ha : z_at q.1 = 4) : z_ac cx h q = (z_ln q, .inr (.inr (.inr (.inr (fun j => some (cx.2.1 (z_el q j))))))) := by
  unfold z_ac
  rw [ha]
  rfl
theorem z_ac5 {q : zR} (ha : z_at q.1 = 5) : z_ac cx h q = (z_ln q, .inr (.inr (.inr (.inr (fun j => (h.2.2 q j).map cx.2.1))))) := by
  unfold z_ac
  rw [ha]
  rfl
theorem z_Waldi (hE : z_E cx y p s m args meth c H locs) (hP : z_P cx h H) {q : zR} (hv : z_vl q) (ha : z_at q.1 = 0) {i : Int32} (hin : vp_in i (z_ln q)) (hd : decode (z_m y).2.1 pc = .ok (.iaload, 1))
    (kk : W p l e R s m args below meth c H locs cells slots Q (F0 m (pc + 1) ls (.int (h.1 q i.toNatClampNeg) :: rest))) : W p l e R s m args below meth c H locs cells slots Q (F0 m pc ls (.int i :: .ref (cx.2.1 q) :: rest)) := by
  obtain ⟨hx, hb, hr, hml, hown, hts, hlk, hK, hC, hD, hS⟩ := hE
  obtain ⟨f0, f1, -⟩ := z_at_fact ha (by omega)
  have h1 := hP.one hv (by omega)
  rw [z_cell_a f0, z_ac0 ha (Or.inl rfl), f1 rfl] at h1
  exact va_iald hx hb hK h1 0 0 rfl rfl hin hd kk
theorem z_Waldb (hE : z_E cx y p s m args meth c H locs) (hP : z_P cx h H) {q : zR} (hv : z_vl q) (ha : z_at q.1 = 2) {i : Int32} (hin : vp_in i (z_ln q)) (hd : decode (z_m y).2.1 pc = .ok (.baload, 1))
    (kk : W p l e R s m args below meth c H locs cells slots Q (F0 m (pc + 1) ls (.int (h.1 q i.toNatClampNeg) :: rest))) : W p l e R s m args below meth c H locs cells slots Q (F0 m pc ls (.int i :: .ref (cx.2.1 q) :: rest)) := by
  obtain ⟨hx, hb, hr, hml, hown, hts, hlk, hK, hC, hD, hS⟩ := hE
  obtain ⟨f0, -, -, f1, -⟩ := z_at_fact ha (by omega)
  have h1 := hP.one hv (by omega)
  rw [z_cell_a f0, z_ac0 ha (Or.inr (Or.inl rfl)), f1 rfl] at h1
  exact va_bald hx hb hK h1 0 2 rfl rfl hin hd kk
theorem z_Waldz (hE : z_E cx y p s m args meth c H locs) (hP : z_P cx h H) {q : zR} (hv : z_vl q) (ha : z_at q.1 = 3) {i : Int32} (hin : vp_in i (z_ln q)) (hd : decode (z_m y).2.1 pc = .ok (.baload, 1))
    (kk : W p l e R s m args below meth c H locs cells slots Q (F0 m (pc + 1) ls (.int (h.1 q i.toNatClampNeg) :: rest))) : W p l e R s m args below meth c H locs cells slots Q (F0 m pc ls (.int i :: .ref (cx.2.1 q) :: rest)) := by
  obtain ⟨hx, hb, hr, hml, hown, hts, hlk, hK, hC, hD, hS⟩ := hE
  obtain ⟨f0, -, -, -, f1, -⟩ := z_at_fact ha (by omega)
  have h1 := hP.one hv (by omega)
  rw [z_cell_a f0, z_ac0 ha (Or.inr (Or.inr rfl)), f1 rfl] at h1
  exact va_zald hx hb hK h1 0 3 rfl rfl hin hd kk
theorem z_Waldl (hE : z_E cx y p s m args meth c H locs) (hP : z_P cx h H) {q : zR} (hv : z_vl q) (ha : z_at q.1 = 1) {i : Int32} (hin : vp_in i (z_ln q)) (hd : decode (z_m y).2.1 pc = .ok (.laload, 1))
    (kk : W p l e R s m args below meth c H locs cells slots Q (F0 m (pc + 1) ls (.long (h.2.1 q i.toNatClampNeg) :: rest))) : W p l e R s m args below meth c H locs cells slots Q (F0 m pc ls (.int i :: .ref (cx.2.1 q) :: rest)) := by
  obtain ⟨hx, hb, hr, hml, hown, hts, hlk, hK, hC, hD, hS⟩ := hE
  obtain ⟨f0, -, f1, -⟩ := z_at_fact ha (by omega)
  have h1 := hP.one hv (by omega)
  rw [z_cell_a f0, z_ac1 ha, f1 rfl] at h1
  exact va_lald hx hb hK h1 0 1 rfl rfl hin hd kk
theorem z_tys_r {t : Nat} (h4 : 4 ≤ t) (h9 : t ≤ 9) : ∃ C : String, (z_tys cx)[t]? = some (cx.2.2.1 t, .object C) := by
  match t, h4, h9 with
  | 4, _, _ => exact ⟨_, rfl⟩
  | 5, _, _ => exact ⟨_, rfl⟩
  | 6, _, _ => exact ⟨_, rfl⟩
  | 7, _, _ => exact ⟨_, rfl⟩
  | 8, _, _ => exact ⟨_, rfl⟩
  | 9, _, _ => exact ⟨_, rfl⟩
theorem z_Walda (hE : z_E cx y p s m args meth c H locs) (hP : z_P cx h H) {q : zR} (hv : z_vl q) (ha : z_at q.1 = 4) {i : Int32} (hin : vp_in i (z_ln q)) (hd : decode (z_m y).2.1 pc = .ok (.aaload, 1))
    (kk : W p l e R s m args below meth c H locs cells slots Q (F0 m (pc + 1) ls (.ref (cx.2.1 (z_el q i.toNatClampNeg)) :: rest))) : W p l e R s m args below meth c H locs cells slots Q (F0 m pc ls (.int i :: .ref (cx.2.1 q) :: rest)) := by
  obtain ⟨hx, hb, hr, hml, hown, hts, hlk, hK, hC, hD, hS⟩ := hE
  obtain ⟨f0, -, -, -, -, f1, -⟩ := z_at_fact ha (by omega)
  have h1 := hP.one hv (by omega)
  rw [z_cell_a f0, z_ac4 ha] at h1
  obtain ⟨C, hC1⟩ := z_tys_r (cx := cx) (f1 rfl).1 (f1 rfl).2
  exact va_aldq hx hb hK h1 0 _ rfl hC1 hin hd kk
theorem z_Waldm (hE : z_E cx y p s m args meth c H locs) (hP : z_P cx h H) {q r : zR} (hv : z_vl q) (ha : z_at q.1 = 5) {i : Int32} (hin : vp_in i (z_ln q)) (hr : h.2.2 q i.toNatClampNeg = some r) (hd : decode (z_m y).2.1 pc = .ok (.aaload, 1))
    (kk : W p l e R s m args below meth c H locs cells slots Q (F0 m (pc + 1) ls (.ref (cx.2.1 r) :: rest))) : W p l e R s m args below meth c H locs cells slots Q (F0 m pc ls (.int i :: .ref (cx.2.1 q) :: rest)) := by
  obtain ⟨hx, hb, -, hml, hown, hts, hlk, hK, hC, hD, hS⟩ := hE
  obtain ⟨f0, -, -, -, -, -, f1⟩ := z_at_fact ha (by omega)
  have h1 := hP.one hv (by omega)
  rw [z_cell_a f0, z_ac5 ha, f1 rfl] at h1
  refine va_aldq (C := RX4) hx hb hK h1 0 5 rfl rfl hin hd ?_
  rw [hr]
  exact kk
theorem z_Walen (hE : z_E cx y p s m args meth c H locs) (hP : z_P cx h H) {q : zR} (hv : z_vl q) {a : Nat} (ha : z_at q.1 = a) (h5 : a ≤ 5) (hd : decode (z_m y).2.1 pc = .ok (.arraylength, 1))
    (kk : W p l e R s m args below meth c H locs cells slots Q (F0 m (pc + 1) ls (.int (Int32.ofNat (z_ln q)) :: rest))) : W p l e R s m args below meth c H locs cells slots Q (F0 m pc ls (.ref (cx.2.1 q) :: rest)) := by
  obtain ⟨hx, hb, hr, hml, hown, hts, hlk, hK, hC, hD, hS⟩ := hE
  obtain ⟨f0, g0, g1, g2, g3, g4, g5⟩ := z_at_fact ha h5
  have h1 := hP.one hv (by omega)
  rw [z_cell_a f0] at h1
  have ht : ∃ (t0 : Nat) (ty : FieldType), (z_tys cx)[t0]? = some (cx.2.2.1 (z_t0 q.1), ty) := by
    match a, h5, g0, g1, g2, g3, g4, g5 with
    | 0, _, g0, _, _, _, _, _ => exact ⟨0, .int, by rw [g0 rfl]; rfl⟩
    | 1, _, _, g1, _, _, _, _ => exact ⟨1, .long, by rw [g1 rfl]; rfl⟩
    | 2, _, _, _, g2, _, _, _ => exact ⟨2, .byte, by rw [g2 rfl]; rfl⟩
    | 3, _, _, _, _, g3, _, _ => exact ⟨3, .boolean, by rw [g3 rfl]; rfl⟩
    | 4, _, _, _, _, _, g4, _ =>
      obtain ⟨C, hC1⟩ := z_tys_r (cx := cx) (g4 rfl).1 (g4 rfl).2
      exact ⟨_, _, hC1⟩
    | 5, _, _, _, _, _, _, g5 => exact ⟨5, _, by rw [g5 rfl]; rfl⟩
  obtain ⟨t0, ty, ht⟩ := ht
  exact va_alen hx hb hK h1 0 t0 rfl ht rfl hd kk
theorem z_Wasti (hE : z_E cx y p s m args meth c H locs) (hP : z_P cx h H) {q : zR} (hv : z_vl q) (ha : z_at q.1 = 0) {i x : Int32} (hin : vp_in i (z_ln q)) (hd : decode (z_m y).2.1 pc = .ok (.iastore, 1))
    (kk : ∀ (H1 : Heap) (locs1 : List Loc), z_P cx (z_uI h q i.toNatClampNeg x) H1 → va_S (z_A cx) s.heap H1 locs1 → W p l e R s m args below meth c H1 locs1 cells slots Q (F0 m (pc + 1) ls rest)) : W p l e R s m args below meth c H locs cells slots Q (F0 m pc ls (.int x :: .int i :: .ref (cx.2.1 q) :: rest)) := by
  obtain ⟨hx, hb, hr, hml, hown, hts, hlk, hK, hC, hD, hS⟩ := hE
  obtain ⟨f0, f1, -⟩ := z_at_fact ha (by omega)
  have h10 : 10 ≤ q.1 := by omega
  have h1 := hP.one hv h10
  rw [z_cell_a f0, z_ac0 ha (Or.inl rfl), f1 rfl] at h1
  have h2 := h1 0 _ rfl
  refine W.iast hx hb h2 ((hK.2 0 _ rfl).1 (z_ln q) (fun j => .int (h.1 q j))) (fun q => by cases q) (by show ¬ (i < 0 ∨ (arrV _ _ _).slots.size ≤ _); rw [arrV_size]; exact hin) rfl rfl hd fun H1 e z oq => ?_
  refine kk H1 _ (hP.upd hD hv h10 ?_ oq (fun q' hq' => z_cell_uI hq') hP.2) (hS.put z oq (hD.2 q hv h10))
  rw [z_cell_a f0, z_ac0 ha (Or.inl rfl), f1 rfl]
  show H1[cx.2.1 q]? = some (vp_cell _ _)
  rw [e]
  rw [vp_cell_i, vp_cell_i, arrV_store]
  congr 2
  funext j
  show updV _ _ _ j = Value.int (if q = q ∧ j = i.toNatClampNeg then x else h.1 q j)
  by_cases hj : j = i.toNatClampNeg
  · subst hj
    simp [updV]
  · simp [updV, hj]
theorem z_Wastb (hE : z_E cx y p s m args meth c H locs) (hP : z_P cx h H) {q : zR} (hv : z_vl q) (ha : z_at q.1 = 2) {i x : Int32} (hin : vp_in i (z_ln q)) (hd : decode (z_m y).2.1 pc = .ok (.bastore, 1))
    (kk : ∀ (H1 : Heap) (locs1 : List Loc), z_P cx (z_uI h q i.toNatClampNeg (vp_nar .byte x)) H1 → va_S (z_A cx) s.heap H1 locs1 → W p l e R s m args below meth c H1 locs1 cells slots Q (F0 m (pc + 1) ls rest)) : W p l e R s m args below meth c H locs cells slots Q (F0 m pc ls (.int x :: .int i :: .ref (cx.2.1 q) :: rest)) := by
  obtain ⟨hx, hb, hr, hml, hown, hts, hlk, hK, hC, hD, hS⟩ := hE
  obtain ⟨f0, -, -, f1, -⟩ := z_at_fact ha (by omega)
  have h10 : 10 ≤ q.1 := by omega
  have h1 := hP.one hv h10
  rw [z_cell_a f0, z_ac0 ha (Or.inr (Or.inl rfl)), f1 rfl] at h1
  have h2 := h1 0 _ rfl
  refine W.bast hx hb h2 ((hK.2 2 _ rfl).1 (z_ln q) (fun j => .int (h.1 q j))) (fun q => by cases q) (by show ¬ (i < 0 ∨ (arrV _ _ _).slots.size ≤ _); rw [arrV_size]; exact hin) rfl rfl hd fun H1 e z oq => ?_
  refine kk H1 _ (hP.upd hD hv h10 ?_ oq (fun q' hq' => z_cell_uI hq') hP.2) (hS.put z oq (hD.2 q hv h10))
  rw [z_cell_a f0, z_ac0 ha (Or.inr (Or.inl rfl)), f1 rfl]
  show H1[cx.2.1 q]? = some (vp_cell _ _)
  rw [e]
  rw [vp_cell_i, vp_cell_i, arrV_store]
  congr 2
  funext j
  show updV _ _ _ j = Value.int (if q = q ∧ j = i.toNatClampNeg then vp_nar .byte x else h.1 q j)
  by_cases hj : j = i.toNatClampNeg
  · subst hj
    simp [updV, vp_nar]
    try rfl
  · simp [updV, hj]
theorem z_Wastz (hE : z_E cx y p s m args meth c H locs) (hP : z_P cx h H) {q : zR} (hv : z_vl q) (ha : z_at q.1 = 3) {i x : Int32} (hin : vp_in i (z_ln q)) (hd : decode (z_m y).2.1 pc = .ok (.bastore, 1))
    (kk : ∀ (H1 : Heap) (locs1 : List Loc), z_P cx (z_uI h q i.toNatClampNeg (vp_nar .boolean x)) H1 → va_S (z_A cx) s.heap H1 locs1 → W p l e R s m args below meth c H1 locs1 cells slots Q (F0 m (pc + 1) ls rest)) : W p l e R s m args below meth c H locs cells slots Q (F0 m pc ls (.int x :: .int i :: .ref (cx.2.1 q) :: rest)) := by
  obtain ⟨hx, hb, hr, hml, hown, hts, hlk, hK, hC, hD, hS⟩ := hE
  obtain ⟨f0, -, -, -, f1, -⟩ := z_at_fact ha (by omega)
  have h10 : 10 ≤ q.1 := by omega
  have h1 := hP.one hv h10
  rw [z_cell_a f0, z_ac0 ha (Or.inr (Or.inr rfl)), f1 rfl] at h1
  have h2 := h1 0 _ rfl
  refine W.zast hx hb h2 ((hK.2 3 _ rfl).1 (z_ln q) (fun j => .int (h.1 q j))) (fun q => by cases q) (by show ¬ (i < 0 ∨ (arrV _ _ _).slots.size ≤ _); rw [arrV_size]; exact hin) rfl rfl hd fun H1 e z oq => ?_
  refine kk H1 _ (hP.upd hD hv h10 ?_ oq (fun q' hq' => z_cell_uI hq') hP.2) (hS.put z oq (hD.2 q hv h10))
  rw [z_cell_a f0, z_ac0 ha (Or.inr (Or.inr rfl)), f1 rfl]
  show H1[cx.2.1 q]? = some (vp_cell _ _)
  rw [e]
  rw [vp_cell_i, vp_cell_i, arrV_store]
  congr 2
  funext j
  show updV _ _ _ j = Value.int (if q = q ∧ j = i.toNatClampNeg then vp_nar .boolean x else h.1 q j)
  by_cases hj : j = i.toNatClampNeg
  · subst hj
    simp [updV, vp_nar]
    try rfl
  · simp [updV, hj]
theorem z_Wastl (hE : z_E cx y p s m args meth c H locs) (hP : z_P cx h H) {q : zR} (hv : z_vl q) (ha : z_at q.1 = 1) {i : Int32} {x : Int64} (hin : vp_in i (z_ln q)) (hd : decode (z_m y).2.1 pc = .ok (.lastore, 1))
    (kk : ∀ (H1 : Heap) (locs1 : List Loc), z_P cx (z_uL h q i.toNatClampNeg x) H1 → va_S (z_A cx) s.heap H1 locs1 → W p l e R s m args below meth c H1 locs1 cells slots Q (F0 m (pc + 1) ls rest)) : W p l e R s m args below meth c H locs cells slots Q (F0 m pc ls (.long x :: .int i :: .ref (cx.2.1 q) :: rest)) := by
  obtain ⟨hx, hb, hr, hml, hown, hts, hlk, hK, hC, hD, hS⟩ := hE
  obtain ⟨f0, -, f1, -⟩ := z_at_fact ha (by omega)
  have h10 : 10 ≤ q.1 := by omega
  have h1 := hP.one hv h10
  rw [z_cell_a f0, z_ac1 ha, f1 rfl] at h1
  have h2 := h1 0 _ rfl
  refine W.last hx hb h2 ((hK.2 1 _ rfl).1 (z_ln q) (fun j => .long (h.2.1 q j))) (fun q => by cases q) (by show ¬ (i < 0 ∨ (arrV _ _ _).slots.size ≤ _); rw [arrV_size]; exact hin) rfl rfl hd fun H1 e z oq => ?_
  refine kk H1 _ (hP.upd hD hv h10 ?_ oq (fun q' hq' => z_cell_uL hq') hP.2) (hS.put z oq (hD.2 q hv h10))
  rw [z_cell_a f0, z_ac1 ha, f1 rfl]
  show H1[cx.2.1 q]? = some (vp_cell _ _)
  rw [e]
  rw [vp_cell_l, vp_cell_l, arrV_store]
  congr 2
  funext j
  show updV _ _ _ j = Value.long (if q = q ∧ j = i.toNatClampNeg then x else h.2.1 q j)
  by_cases hj : j = i.toNatClampNeg
  · subst hj
    simp [updV]
  · simp [updV, hj]
theorem z_uR_ok {h : zH} {q r : zR} {k : Nat} (hr : z_vl r ∧ r.1 ≠ 3) (hP : ∀ (q' : zR) (k : Nat) (q'' : zR), h.2.2 q' k = some q'' → z_vl q'' ∧ q''.1 ≠ 3) : ∀ (q' : zR) (k' : Nat) (q'' : zR), (z_uR h q k r).2.2 q' k' = some q'' → z_vl q'' ∧ q''.1 ≠ 3 := by
  intro q' k' q'' e
  have e' : (if q' = q ∧ k' = k then some r else h.2.2 q' k') = some q'' := e
  by_cases hh : q' = q ∧ k' = k
  · rw [if_pos hh] at e'
    cases e'
    exact hr
  · rw [if_neg hh] at e'
    exact hP q' k' q'' e'
theorem z_Wasta (hE : z_E cx y p s m args meth c H locs) (hP : z_P cx h H) {q r : zR} (hv : z_vl q) (hvr : z_vl r) (hr14 : r.1 = 14) (ha : z_at q.1 = 5) {i : Int32} (hin : vp_in i (z_ln q)) (hd : decode (z_m y).2.1 pc = .ok (.aastore, 1))
    (kk : ∀ (H1 : Heap) (locs1 : List Loc), z_P cx (z_uR h q i.toNatClampNeg r) H1 → va_S (z_A cx) s.heap H1 locs1 → W p l e R s m args below meth c H1 locs1 cells slots Q (F0 m (pc + 1) ls rest)) : W p l e R s m args below meth c H locs cells slots Q (F0 m pc ls (.ref (cx.2.1 r) :: .int i :: .ref (cx.2.1 q) :: rest)) := by
  obtain ⟨hx, hb, -, hml, hown, hts, hlk, hK, hC, hD, hS⟩ := hE
  obtain ⟨f0, -, -, -, -, -, f1⟩ := z_at_fact ha (by omega)
  have h10 : 10 ≤ q.1 := by omega
  have h1 := hP.one hv h10
  rw [z_cell_a f0, z_ac5 ha, f1 rfl] at h1
  have h2 := h1 0 _ rfl
  have hlt : i.toNatClampNeg < z_ln q := Nat.not_le.mp fun q => hin (Or.inr q)
  have h0 : ¬ i < 0 := fun q => hin (Or.inl q)
  obtain ⟨r', hr', cellV, g1, g2, g3, -⟩ := (hP.one hvr (by omega)) 0 _ (by rw [z_cell_o (by omega)]; rfl)
  have e14 : r.1 - 10 = 4 := by omega
  rw [e14] at hr' g2
  have hcls := (hK.1 4 _ rfl).2
  obtain ⟨kA, comp, k1, k2, k3, -⟩ := (hK.2 5 _ rfl).2
  have hcomp : comp = cx.1.1 4 := Option.some.inj (k3.symm.trans hcls.1)
  subst hcomp
  have hcls' := hcls
  obtain ⟨kC, hkC, -⟩ := hcls'.2
  refine W.aast hx hb h2 (fun q h => by cases h) (fun h => by cases h) k1 k2 rfl hkC ⟨h0, by show _ < (arrV _ _ _).slots.size; rw [arrV_size]; exact hlt⟩ g1 (fun q h => by rw [g3] at h; cases h) (by rw [g2]; exact hkC) (by rw [g2]; exact va_assign hcls) rfl rfl hd fun H1 e z oq => ?_
  refine kk H1 _ (hP.upd hD hv h10 ?_ oq (fun q' hq' => z_cell_uR hq') (z_uR_ok ⟨hvr, by omega⟩ hP.2)) (hS.put z oq (hD.2 q hv h10))
  rw [z_cell_a f0, z_ac5 ha, f1 rfl]
  show H1[cx.2.1 q]? = some (vp_cell _ _)
  rw [e]
  rw [vp_cell_q, vp_cell_q, arrV_store]
  congr 2
  funext j
  show updV _ _ _ j = va_rf ((if q = q ∧ j = i.toNatClampNeg then some r else h.2.2 q j).map cx.2.1)
  by_cases hj : j = i.toNatClampNeg
  · subst hj
    simp [updV, va_rf]
  · simp [updV, hj]
/-! ===== constants ===== -/
theorem z_WT (hE : z_E cx y p s m args meth c H locs) {t N : Nat} {f : Nat → Value} {ty : FieldType} (hT : va_T ty t N f (z_A cx) s s.heap) : ∃ cell : Cell, H[t]? = some cell ∧ s.isArrayOf cell ty ∧ cell.vm ≠ .unknown ∧ N ≤ cell.slots.size ∧ cell.slots.size.toInt32 = Int32.ofNat N ∧ ∀ j : Nat, j < N → cell.slots[j]? = some (f j) := by
  obtain ⟨hx, hb, hr, hml, hown, hts, hlk, hK, hC, hD, hS⟩ := hE
  obtain ⟨cell, h1, h2, h3, h4, h5, h6, -⟩ := hT.kept hS.2.1
  exact ⟨cell, h1, h2, h3, h4, h5, h6⟩
/-! ===== calls ===== -/
theorem z_callk {Qk : Option zV → zH → Prop} {a : Array Value} {st0 : List Value} (hr : va_Run p l e R s m args below meth c H locs 0 0 0 0 (F0 m pc ls st0) rest (z_Q cx Qk a) (z_A cx)) (hS : va_S (z_A cx) s.heap H locs)
    (kk : ∀ (r : Option zV) (hh : zH) (H1 : Heap) (locs1 : List Loc), z_P cx hh H1 → (∀ v, r = some v → z_vv v) → Qk r hh → va_S (z_A cx) s.heap H1 locs1 → W p l e R s m args below meth c H1 locs1 0 0 Q (F0 m (pc + 3) ls ((r.map (z_cv cx)).toList ++ rest))) : W p l e R s m args below meth c H locs 0 0 Q (F0 m pc ls st0) := by
  intro T hT X
  obtain ⟨v, st₀, t, T', L, h0, X', hL, e1, e2, ⟨⟨r, hh, hv, hw, hvv, hq⟩, hz, hk⟩, st⟩ := hr T hT X
  have hv' : v = r.map (z_cv cx) := by cases hv; rfl
  subst hv'
  rw [h0] at hz hk
  obtain ⟨t2, a1, b1⟩ := kk r hh T'.heap (locs ++ L) (by rw [e1]; exact hw.1) hvv hq
    ⟨Nat.le_trans hS.1 (by rw [e1]; exact hz), fun q h1 h2 => by rw [e1, hk q (Nat.lt_of_lt_of_le h1 hS.1) h2]; exact hS.2.1 q h1 h2, fun q hq => by
      rcases List.mem_append.mp hq with h | h
      · exact hS.2.2 q h
      · exact hL q h⟩ T' rfl X'
  exact ⟨t2, st t2 a1, b1⟩
end ZST2
theorem z_pop_spec : ∀ (n : Nat) (acc st as r : List zV), z_pop n acc st = some (as, r) → ∃ xs : List zV, xs.length = n ∧ st = xs ++ r ∧ as = xs.reverse ++ acc
  | 0, acc, st, as, r, h => by
    simp only [z_pop] at h
    cases h
    exact ⟨[], rfl, rfl, rfl⟩
  | n + 1, acc, [], as, r, h => by simp [z_pop] at h
  | n + 1, acc, v :: st, as, r, h => by
    simp only [z_pop] at h
    obtain ⟨xs, h1, h2, h3⟩ := z_pop_spec n (v :: acc) st as r h
    exact ⟨v :: xs, by simp [h1], by simp [h2], by simp [h3]⟩
theorem z_cat_spec (cx : zX) : ∀ r : List zV, ((r.map (z_cv cx)).map fun v => v.category).sum = z_cat r
  | [] => rfl
  | .inl x :: t => by
    have h := z_cat_spec cx t
    have hc : (z_cv cx (.inl x)).category = 1 := rfl
    simp only [List.map_cons, List.sum_cons, hc, z_cat, h]
  | .inr (.inl x) :: t => by
    have h := z_cat_spec cx t
    have hc : (z_cv cx (.inr (.inl x))).category = 2 := rfl
    simp only [List.map_cons, List.sum_cons, hc, z_cat, h]
  | .inr (.inr x) :: t => by
    have h := z_cat_spec cx t
    have hc : (z_cv cx (.inr (.inr x))).category = 1 := z_cat_cv cx _ (fun y e => by cases e)
    simp only [List.map_cons, List.sum_cons, hc, z_cat, h]
theorem z_np_ok : (z_ms.all fun r => Nat.ble r.2.2.2.2.2.1.2 8 && (r.2.2.2.2.2.1.1 || Nat.ble r.2.2.2.2.1.1 13)) = true := by decide +kernel
end
section
theorem z_invI {P : Int32 → List zV → Prop} : ∀ {st : List zV}, (match st with
    | .inl x :: r => P x r
    | _ => False) → ∃ (x : Int32) (r : List zV), st = .inl x :: r ∧ P x r
  | .inl x :: r, h => ⟨x, r, rfl, h⟩
  | [], h => False.elim h
  | .inr (.inl _) :: _, h => False.elim h
  | .inr (.inr _) :: _, h => False.elim h
theorem z_invII {P : Int32 → Int32 → List zV → Prop} : ∀ {st : List zV}, (match st with
    | .inl y :: .inl x :: r => P y x r
    | _ => False) → ∃ (y : Int32) (x : Int32) (r : List zV), st = .inl y :: .inl x :: r ∧ P y x r
  | .inl y :: .inl x :: r, h => ⟨y, x, r, rfl, h⟩
  | [], h => False.elim h
  | .inr (.inl _) :: _, h => False.elim h
  | .inr (.inr _) :: _, h => False.elim h
  | [.inl _], h => False.elim h
  | .inl _ :: .inr (.inl _) :: _, h => False.elim h
  | .inl _ :: .inr (.inr _) :: _, h => False.elim h
theorem z_invL {P : Int64 → List zV → Prop} : ∀ {st : List zV}, (match st with
    | .inr (.inl x) :: r => P x r
    | _ => False) → ∃ (x : Int64) (r : List zV), st = .inr (.inl x) :: r ∧ P x r
  | .inr (.inl x) :: r, h => ⟨x, r, rfl, h⟩
  | [], h => False.elim h
  | .inl _ :: _, h => False.elim h
  | .inr (.inr _) :: _, h => False.elim h
theorem z_invLL {P : Int64 → Int64 → List zV → Prop} : ∀ {st : List zV}, (match st with
    | .inr (.inl y) :: .inr (.inl x) :: r => P y x r
    | _ => False) → ∃ (y : Int64) (x : Int64) (r : List zV), st = .inr (.inl y) :: .inr (.inl x) :: r ∧ P y x r
  | .inr (.inl y) :: .inr (.inl x) :: r, h => ⟨y, x, r, rfl, h⟩
  | [], h => False.elim h
  | .inl _ :: _, h => False.elim h
  | .inr (.inr _) :: _, h => False.elim h
  | [.inr (.inl _)], h => False.elim h
  | .inr (.inl _) :: .inl _ :: _, h => False.elim h
  | .inr (.inl _) :: .inr (.inr _) :: _, h => False.elim h
theorem z_invIL {P : Int32 → Int64 → List zV → Prop} : ∀ {st : List zV}, (match st with
    | .inl y :: .inr (.inl x) :: r => P y x r
    | _ => False) → ∃ (y : Int32) (x : Int64) (r : List zV), st = .inl y :: .inr (.inl x) :: r ∧ P y x r
  | .inl y :: .inr (.inl x) :: r, h => ⟨y, x, r, rfl, h⟩
  | [], h => False.elim h
  | .inr (.inl _) :: _, h => False.elim h
  | .inr (.inr _) :: _, h => False.elim h
  | [.inl _], h => False.elim h
  | .inl _ :: .inl _ :: _, h => False.elim h
  | .inl _ :: .inr (.inr _) :: _, h => False.elim h
theorem z_invR {P : zR → List zV → Prop} : ∀ {st : List zV}, (match st with
    | .inr (.inr q) :: r => P q r
    | _ => False) → ∃ (q : zR) (r : List zV), st = .inr (.inr q) :: r ∧ P q r
  | .inr (.inr q) :: r, h => ⟨q, r, rfl, h⟩
  | [], h => False.elim h
  | .inl _ :: _, h => False.elim h
  | .inr (.inl _) :: _, h => False.elim h
theorem z_invIR {P : Int32 → zR → List zV → Prop} : ∀ {st : List zV}, (match st with
    | .inl x :: .inr (.inr q) :: r => P x q r
    | _ => False) → ∃ (x : Int32) (q : zR) (r : List zV), st = .inl x :: .inr (.inr q) :: r ∧ P x q r
  | .inl x :: .inr (.inr q) :: r, h => ⟨x, q, r, rfl, h⟩
  | [], h => False.elim h
  | .inr (.inl _) :: _, h => False.elim h
  | .inr (.inr _) :: _, h => False.elim h
  | [.inl _], h => False.elim h
  | .inl _ :: .inl _ :: _, h => False.elim h
  | .inl _ :: .inr (.inl _) :: _, h => False.elim h
theorem z_invIIR {P : Int32 → Int32 → zR → List zV → Prop} : ∀ {st : List zV}, (match st with
    | .inl v :: .inl x :: .inr (.inr q) :: r => P v x q r
    | _ => False) → ∃ (v : Int32) (x : Int32) (q : zR) (r : List zV), st = .inl v :: .inl x :: .inr (.inr q) :: r ∧ P v x q r
  | .inl v :: .inl x :: .inr (.inr q) :: r, h => ⟨v, x, q, r, rfl, h⟩
  | [], h => False.elim h
  | .inr (.inl _) :: _, h => False.elim h
  | .inr (.inr _) :: _, h => False.elim h
  | [.inl _], h => False.elim h
  | .inl _ :: .inr (.inl _) :: _, h => False.elim h
  | .inl _ :: .inr (.inr _) :: _, h => False.elim h
  | [.inl _, .inl _], h => False.elim h
  | .inl _ :: .inl _ :: .inl _ :: _, h => False.elim h
  | .inl _ :: .inl _ :: .inr (.inl _) :: _, h => False.elim h
theorem z_invLIR {P : Int64 → Int32 → zR → List zV → Prop} : ∀ {st : List zV}, (match st with
    | .inr (.inl v) :: .inl x :: .inr (.inr q) :: r => P v x q r
    | _ => False) → ∃ (v : Int64) (x : Int32) (q : zR) (r : List zV), st = .inr (.inl v) :: .inl x :: .inr (.inr q) :: r ∧ P v x q r
  | .inr (.inl v) :: .inl x :: .inr (.inr q) :: r, h => ⟨v, x, q, r, rfl, h⟩
  | [], h => False.elim h
  | .inl _ :: _, h => False.elim h
  | .inr (.inr _) :: _, h => False.elim h
  | [.inr (.inl _)], h => False.elim h
  | .inr (.inl _) :: .inr (.inl _) :: _, h => False.elim h
  | .inr (.inl _) :: .inr (.inr _) :: _, h => False.elim h
  | [.inr (.inl _), .inl _], h => False.elim h
  | .inr (.inl _) :: .inl _ :: .inl _ :: _, h => False.elim h
  | .inr (.inl _) :: .inl _ :: .inr (.inl _) :: _, h => False.elim h
theorem z_invRIR {P : zR → Int32 → zR → List zV → Prop} : ∀ {st : List zV}, (match st with
    | .inr (.inr v) :: .inl x :: .inr (.inr q) :: r => P v x q r
    | _ => False) → ∃ (v : zR) (x : Int32) (q : zR) (r : List zV), st = .inr (.inr v) :: .inl x :: .inr (.inr q) :: r ∧ P v x q r
  | .inr (.inr v) :: .inl x :: .inr (.inr q) :: r, h => ⟨v, x, q, r, rfl, h⟩
  | [], h => False.elim h
  | .inl _ :: _, h => False.elim h
  | .inr (.inl _) :: _, h => False.elim h
  | [.inr (.inr _)], h => False.elim h
  | .inr (.inr _) :: .inr (.inl _) :: _, h => False.elim h
  | .inr (.inr _) :: .inr (.inr _) :: _, h => False.elim h
  | [.inr (.inr _), .inl _], h => False.elim h
  | .inr (.inr _) :: .inl _ :: .inl _ :: _, h => False.elim h
  | .inr (.inr _) :: .inl _ :: .inr (.inl _) :: _, h => False.elim h
theorem z_invVR {P : zV → zR → List zV → Prop} : ∀ {st : List zV}, (match st with
    | v :: .inr (.inr q) :: r => P v q r
    | _ => False) → ∃ (v : zV) (q : zR) (r : List zV), st = v :: .inr (.inr q) :: r ∧ P v q r
  | v :: .inr (.inr q) :: r, h => ⟨v, q, r, rfl, h⟩
  | [], h => False.elim h
  | [_], h => False.elim h
  | _ :: .inl _ :: _, h => False.elim h
  | _ :: .inr (.inl _) :: _, h => False.elim h
theorem z_invSi {P : Int32 → Prop} : ∀ {st : List zV}, (match st with
    | [.inl x] => P x
    | _ => False) → ∃ x, st = [.inl x] ∧ P x
  | [.inl x], h => ⟨x, rfl, h⟩
  | [], h => False.elim h
  | [.inr (.inl _)], h => False.elim h
  | [.inr (.inr _)], h => False.elim h
  | .inl _ :: _ :: _, h => False.elim h
  | .inr (.inl _) :: _ :: _, h => False.elim h
  | .inr (.inr _) :: _ :: _, h => False.elim h
theorem z_invGi {P : Int32 → Prop} : ∀ {o : Option (Option zV)}, (match o with
    | some (some (.inl x)) => P x
    | _ => False) → ∃ x, o = some (some (.inl x)) ∧ P x
  | some (some (.inl x)), h => ⟨x, rfl, h⟩
  | none, h => False.elim h
  | some none, h => False.elim h
  | some (some (.inr (.inl _))), h => False.elim h
  | some (some (.inr (.inr _))), h => False.elim h
theorem z_invSl {P : Int64 → Prop} : ∀ {st : List zV}, (match st with
    | [.inr (.inl x)] => P x
    | _ => False) → ∃ x, st = [.inr (.inl x)] ∧ P x
  | [.inr (.inl x)], h => ⟨x, rfl, h⟩
  | [], h => False.elim h
  | [.inl _], h => False.elim h
  | [.inr (.inr _)], h => False.elim h
  | .inl _ :: _ :: _, h => False.elim h
  | .inr (.inl _) :: _ :: _, h => False.elim h
  | .inr (.inr _) :: _ :: _, h => False.elim h
theorem z_invGl {P : Int64 → Prop} : ∀ {o : Option (Option zV)}, (match o with
    | some (some (.inr (.inl x))) => P x
    | _ => False) → ∃ x, o = some (some (.inr (.inl x))) ∧ P x
  | some (some (.inr (.inl x))), h => ⟨x, rfl, h⟩
  | none, h => False.elim h
  | some none, h => False.elim h
  | some (some (.inl _)), h => False.elim h
  | some (some (.inr (.inr _))), h => False.elim h
theorem z_invSa {P : zR → Prop} : ∀ {st : List zV}, (match st with
    | [.inr (.inr x)] => P x
    | _ => False) → ∃ x, st = [.inr (.inr x)] ∧ P x
  | [.inr (.inr x)], h => ⟨x, rfl, h⟩
  | [], h => False.elim h
  | [.inl _], h => False.elim h
  | [.inr (.inl _)], h => False.elim h
  | .inl _ :: _ :: _, h => False.elim h
  | .inr (.inl _) :: _ :: _, h => False.elim h
  | .inr (.inr _) :: _ :: _, h => False.elim h
theorem z_invGa {P : zR → Prop} : ∀ {o : Option (Option zV)}, (match o with
    | some (some (.inr (.inr x))) => P x
    | _ => False) → ∃ x, o = some (some (.inr (.inr x))) ∧ P x
  | some (some (.inr (.inr x))), h => ⟨x, rfl, h⟩
  | none, h => False.elim h
  | some none, h => False.elim h
  | some (some (.inl _)), h => False.elim h
  | some (some (.inr (.inl _))), h => False.elim h
theorem z_invB {P : Prop} : ∀ {b : Bool}, (match b with
    | true => P
    | false => False) → b = true ∧ P
  | true, h => ⟨rfl, h⟩
  | false, h => False.elim h
theorem z_vc {st : List zV} {v : zV} (hv : z_vv v) (h : ∀ w ∈ st, z_vv w) : ∀ w ∈ v :: st, z_vv w := by
  intro w hw
  rcases List.mem_cons.mp hw with e | e
  · rw [e]; exact hv
  · exact h w e
theorem z_vt {st : List zV} {v : zV} (h : ∀ w ∈ v :: st, z_vv w) : ∀ w ∈ st, z_vv w := fun w hw => h w (List.mem_cons_of_mem _ hw)
theorem z_vh {st : List zV} {v : zV} (h : ∀ w ∈ v :: st, z_vv w) : z_vv v := h v List.mem_cons_self
end
section
theorem z_tsw_at {J : Int → Prop} {x : Int32} : ∀ {l : List Int} {lo : Int} {k : Nat} {t : Int}, l[k]? = some t → z_tsw J x lo l → x = z_lit (lo + (k : Int)) → J t
  | [], lo, k, t, h, _, _ => by simp at h
  | a :: l, lo, 0, t, h, hw, hx => by
    simp at h
    subst h
    exact hw.1 (by simpa using hx)
  | a :: l, lo, k + 1, t, h, hw, hx => by
    refine z_tsw_at (l := l) (lo := lo + 1) (k := k) (by simpa using h) hw.2 ?_
    rw [hx]
    congr 1
    omega
theorem z_i32 {x : Int32} {k : Int} (h1 : -2147483648 ≤ k) (h2 : k < 2147483648) : x = z_lit k ↔ x.toInt = k := by
  rw [z_lit_eq]
  constructor
  · intro h
    rw [h, Int32.toInt_ofInt_of_le (by simpa using h1) (by simpa using h2)]
  · intro h
    rw [← h, Int32.ofInt_toInt]
theorem z_lsw_at {J : Int → Prop} {x : Int32} {pc : Nat} {d : Int} : ∀ (l : List (Int × Int)), 0 ≤ (pc : Int) + d → (l.map (fun t => (t.1, (pc : Int) + t.2))).all (fun q => decide (0 ≤ q.2) && decide (-2147483648 ≤ q.1) && decide (q.1 < 2147483648)) = true →
    z_lsw J x (l.map (fun t => (t.1, (pc : Int) + t.2))) → (z_lno x (l.map (fun t => (t.1, (pc : Int) + t.2))) → J ((pc : Int) + d)) → 0 ≤ (pc : Int) + Op.lookupswitch.offset l d x.toInt ∧ J ((pc : Int) + Op.lookupswitch.offset l d x.toInt)
  | [], h0, _, _, hw2 => ⟨h0, hw2 trivial⟩
  | (a, o) :: l, h0, ha, hw, hw2 => by
    simp only [List.map_cons, List.all_cons, Bool.and_eq_true, decide_eq_true_eq] at ha
    obtain ⟨⟨⟨h1, h2⟩, h3⟩, h4⟩ := ha
    by_cases hx : x.toInt = a
    · have e : Op.lookupswitch.offset ((a, o) :: l) d x.toInt = o := by simp [Op.lookupswitch.offset, hx]
      rw [e]
      exact ⟨h1, hw.1 ((z_i32 h2 h3).mpr hx)⟩
    · have hxa : ¬ x = z_lit a := fun z => hx ((z_i32 h2 h3).mp z)
      have e : Op.lookupswitch.offset ((a, o) :: l) d x.toInt = Op.lookupswitch.offset l d x.toInt := by
        simp only [Op.lookupswitch.offset]
        simp [hx, Ne.symm hx, eq_comm]
      rw [e]
      exact z_lsw_at l h0 h4 hw.2 (fun hn => hw2 ⟨hxa, hn⟩)
theorem z_srt {pc : Nat} (l : List (Int × Int)) (h : ((l.map (fun t => (t.1, (pc : Int) + t.2))).zip ((l.map (fun t => (t.1, (pc : Int) + t.2))).drop 1)).all (fun (a, next) => a.1 < next.1) = true) : (l.zip (l.drop 1)).all (fun (a, next) => a.1 < next.1) = true := by
  rw [← List.map_drop, List.zip_map, List.all_map] at h
  exact h
theorem z_vl_str' : ∀ i, i < 26 → 0 < z_bd 0 i ∧ 0 < z_bd 1 i := by decide +kernel
theorem z_vl_str {i : Nat} (h : i < 26) : z_vl (0, i, 0) := (z_vl_str' i h).1
theorem z_vl_strb {i : Nat} (h : i < 26) : z_vl (1, i, 0) := (z_vl_str' i h).2
theorem z_bd_row {k n : Nat} (hl : (z_bds.getD k []).length = n) {i j : Nat} (h : j < z_bd k i) : i < n := by
  rcases Nat.lt_or_ge i n with h1 | h1
  · exact h1
  · unfold z_bd at h
    rw [List.getD_eq_getElem?_getD (l := z_bds.getD k []), List.getElem?_eq_none (by omega)] at h
    simp at h
theorem z_bd_small : (∀ i, i < 26 → z_bd 0 i = 1) ∧ (∀ i, i < 26 → z_bd 1 i = 1) ∧ ∀ i, i < 2 → z_bd 2 i = 1 := by decide +kernel
theorem z_vl_0 {q : zR} (hv : z_vl q) (h : q.1 = 0) : ∃ i, i < 26 ∧ q = (0, i, 0) := by
  obtain ⟨k, i, j⟩ := q
  simp at h
  subst h
  have hv' : j < z_bd 0 i := hv
  have hi := z_bd_row (k := 0) (n := 26) (by decide +kernel) hv'
  rw [z_bd_small.1 i hi] at hv'
  exact ⟨i, hi, by rw [show j = 0 by omega]⟩
theorem z_vl_1 {q : zR} (hv : z_vl q) (h : q.1 = 1) : ∃ i, i < 26 ∧ q = (1, i, 0) := by
  obtain ⟨k, i, j⟩ := q
  simp at h
  subst h
  have hv' : j < z_bd 1 i := hv
  have hi := z_bd_row (k := 1) (n := 26) (by decide +kernel) hv'
  rw [z_bd_small.2.1 i hi] at hv'
  exact ⟨i, hi, by rw [show j = 0 by omega]⟩
theorem z_vl_2 {q : zR} (hv : z_vl q) (h : q.1 = 2) : ∃ i, i < 2 ∧ q = (2, i, 0) := by
  obtain ⟨k, i, j⟩ := q
  simp at h
  subst h
  have hv' : j < z_bd 2 i := hv
  have hi := z_bd_row (k := 2) (n := 2) (by decide +kernel) hv'
  rw [z_bd_small.2.2 i hi] at hv'
  exact ⟨i, hi, by rw [show j = 0 by omega]⟩
theorem z_fv_i {cx : zX} {h : zH} {q : zR} {k : Nat} (ht : z_tc q.1 k = 0 ∨ z_tc q.1 k = 5) : z_fv cx h q k = .int (h.1 q k) := by
  unfold z_fv
  rcases ht with ht | ht <;> (rw [ht]; rfl)
theorem z_fv_l {cx : zX} {h : zH} {q : zR} {k : Nat} (ht : z_tc q.1 k = 1) : z_fv cx h q k = .long (h.2.1 q k) := by
  unfold z_fv
  rw [ht]
  rfl
theorem z_fv_f {cx : zX} {h : zH} {q : zR} {k : Nat} (ht : z_tc q.1 k = 2) : z_fv cx h q k = .ref (cx.2.1 (z_fr q k)) := by
  unfold z_fv
  rw [ht]
  rfl
theorem z_fv_m {cx : zX} {h : zH} {q : zR} {k : Nat} (ht : z_tc q.1 k = 3) : z_fv cx h q k = va_rf ((h.2.2 q k).map cx.2.1) := by
  unfold z_fv
  rw [ht]
  rfl
theorem z_fv_uI {cx : zX} {h : zH} {q : zR} {k j : Nat} {x : Int32} (hj : j ≠ k) : z_fv cx (z_uI h q k x) q j = z_fv cx h q j := by
  have e : (z_uI h q k x).1 q j = h.1 q j := by
    show (if q = q ∧ j = k then x else h.1 q j) = h.1 q j
    rw [if_neg (fun z => hj z.2)]
  unfold z_fv
  rw [e]
  rfl
theorem z_fv_uL {cx : zX} {h : zH} {q : zR} {k j : Nat} {x : Int64} (hj : j ≠ k) : z_fv cx (z_uL h q k x) q j = z_fv cx h q j := by
  have e : (z_uL h q k x).2.1 q j = h.2.1 q j := by
    show (if q = q ∧ j = k then x else h.2.1 q j) = h.2.1 q j
    rw [if_neg (fun z => hj z.2)]
  unfold z_fv
  rw [e]
  rfl
theorem z_fv_uR {cx : zX} {h : zH} {q : zR} {k j : Nat} {x : zR} (hj : j ≠ k) : z_fv cx (z_uR h q k x) q j = z_fv cx h q j := by
  have e : (z_uR h q k x).2.2 q j = h.2.2 q j := by
    show (if q = q ∧ j = k then some x else h.2.2 q j) = h.2.2 q j
    rw [if_neg (fun z => hj z.2)]
  unfold z_fv
  rw [e]
  rfl
theorem z_mk_ne {kd k : Nat} : z_mk kd k ≠ 3 := by
  unfold z_mk
  split
  · split <;> decide
  · decide
/-- of a field by its code -/
theorem z_tcx {c k : Nat} (hc : c < 13) (hk : k < z_nf c) : ∃ (C : String) (T : u_T) (N : Nat), zcl[c]? = some (C, T, N) ∧
    (z_tc (c + 10) k = 2 ∨ (z_tc (c + 10) k = 3 ∧ (T k).2.2.2 = false ∧ ∃ n, parseFieldDescriptor (T k).2.2.1 = some (.object n)) ∨ ((z_tc (c + 10) k = 0 ∨ z_tc (c + 10) k = 5 ∨ z_tc (c + 10) k = 1) ∧ (T k).2.2.2 = false ∧ parseFieldDescriptor (T k).2.2.1 = some (z_ft (z_tc (c + 10) k)))) := by
  have h1 := List.all_eq_true.mp z_chkT_ok c (List.mem_range.mpr hc)
  unfold z_chkT at h1
  cases hz : zcl[c]? with
  | none => rw [hz] at h1; cases h1
  | some r =>
    rw [hz] at h1
    obtain ⟨C, T, N⟩ := r
    simp only [Bool.and_eq_true] at h1
    have hN := Nat.eq_of_beq_eq_true h1.1
    have h2 := List.all_eq_true.mp h1.2 k (List.mem_range.mpr (by omega))
    refine ⟨C, T, N, rfl, ?_⟩
    split at h2
    · rename_i e; exact Or.inl e
    · rename_i e
      simp only [Bool.and_eq_true, Bool.not_eq_true'] at h2
      refine Or.inr (Or.inl ⟨e, h2.1, ?_⟩)
      have h3 := h2.2
      split at h3
      · rename_i n e2; exact ⟨n, e2⟩
      · cases h3
    · cases h2
    · simp only [Bool.and_eq_true, Bool.not_eq_true', decide_eq_true_eq, Bool.or_eq_true, beq_iff_eq] at h2
      refine Or.inr (Or.inr ⟨?_, h2.1.1, h2.1.2⟩)
      rcases h2.2 with (h3 | h3) | h3
      · exact Or.inl h3
      · exact Or.inr (Or.inl h3)
      · exact Or.inr (Or.inr h3)
theorem z_tc_ne {q : zR} {k : Nat} (h10 : 10 ≤ q.1) (h23 : q.1 < 23) (hk : k < z_nf (q.1 - 10)) : z_tc q.1 k ≠ 4 ∧ z_tc q.1 k ≠ 6 := by
  obtain ⟨C, T, N, _, h⟩ := z_tcx (c := q.1 - 10) (by omega) hk
  rw [show q.1 - 10 + 10 = q.1 by omega] at h
  rcases h with h | ⟨h, _⟩ | ⟨h | h | h, _⟩ <;> (rw [h]; decide)
theorem z_ty_of {c k t : Nat} {C : String} {T : u_T} {N : Nat} (hc : zcl[c]? = some (C, T, N)) (ht : z_tc (c + 10) k = t) (hk : k < z_nf c) (h0 : t = 0 ∨ t = 5 ∨ t = 1) : parseFieldDescriptor (T k).2.2.1 = some (z_ft t) ∧ (T k).2.2.2 = false := by
  have hl : c < 13 := (List.getElem?_eq_some_iff.mp hc).1
  obtain ⟨C', T', N', hc', h⟩ := z_tcx hl hk
  rw [hc] at hc'
  cases hc'
  rw [ht] at h
  rcases h with h | ⟨h, _⟩ | ⟨_, h1, h2⟩
  · omega
  · omega
  · exact ⟨h2, h1⟩
theorem z_ty_m {q : zR} {k : Nat} (h10 : 10 ≤ q.1) (h23 : q.1 < 23) (hk : k < z_nf (q.1 - 10)) (ht : z_tc q.1 k = 3) : ∃ n, ∀ (C : String) (T : u_T) (N : Nat), zcl[q.1 - 10]? = some (C, T, N) → parseFieldDescriptor (T k).2.2.1 = some (.object n) ∧ (T k).2.2.2 = false := by
  obtain ⟨C, T, N, hc, h⟩ := z_tcx (c := q.1 - 10) (by omega) hk
  rw [show q.1 - 10 + 10 = q.1 by omega, ht] at h
  rcases h with h | ⟨_, h1, n, h2⟩ | ⟨h | h | h, _⟩
  · cases h
  · refine ⟨n, fun C' T' N' hc' => ?_⟩
    rw [hc] at hc'
    cases hc'
    exact ⟨h2, h1⟩
  · cases h
  · cases h
  · cases h
theorem z_en_np {y : Nat} (hy : y < 247) : (z_m y).2.2.2.2.2.1.2 ≤ 8 ∧ ((z_m y).2.2.2.2.2.1.1 = false → (z_m y).2.2.2.2.1.1 ≤ 13) := by
  have h := List.all_eq_true.mp z_np_ok (z_m y) (z_m_mem hy)
  simp only [Bool.and_eq_true, Bool.or_eq_true] at h
  refine ⟨Nat.le_of_ble_eq_true h.1, fun hs => ?_⟩
  rcases h.2 with h2 | h2
  · rw [hs] at h2; cases h2
  · exact Nat.le_of_ble_eq_true h2
/-- the shape of a call, in numbers -/
theorem z_en_s {y : Nat} (hy : y < 247) (hs : (z_m y).2.2.2.2.2.1.1 = true) : z_en y / 4 % 16 = (z_m y).2.2.2.2.2.1.2 ∧ z_en y / 64 = 0 := by
  have h := (z_en_np hy).1
  unfold z_en
  rw [hs]
  simp only [if_true]
  constructor <;> (split <;> omega)
theorem z_en_v {y : Nat} (hy : y < 247) (hs : (z_m y).2.2.2.2.2.1.1 = false) : z_en y / 4 % 16 = (z_m y).2.2.2.2.2.1.2 + 1 ∧ z_en y / 64 = z_kc (z_m y).2.2.2.2.1.1 + 1 := by
  have h := (z_en_np hy).1
  unfold z_en
  rw [hs]
  simp only [Bool.false_eq_true, if_false]
  generalize z_kc (z_m y).2.2.2.2.1.1 = k
  constructor <;> (split <;> omega)
theorem z_vl_c3 : z_vl (3, 0, 0) := by
  show 0 < z_bd 3 0
  decide +kernel
theorem z_vl_c2 {i : Nat} (h : i < 2) : z_vl (2, i, 0) := by
  show 0 < z_bd 2 i
  rw [z_bd_small.2.2 i h]
  decide
theorem z_at_8 {k : Nat} (h : z_at k = 8) : k = 1 := by
  have hk : k < 182 := z_at_lt (by rw [h]; decide)
  have h1 := List.all_eq_true.mp z_chkA_ok k (List.mem_range.mpr hk)
  rw [h] at h1
  exact Nat.eq_of_beq_eq_true h1
theorem z_at_9 {k : Nat} (h : z_at k = 9) : k = 2 := by
  have hk : k < 182 := z_at_lt (by rw [h]; decide)
  have h1 := List.all_eq_true.mp z_chkA_ok k (List.mem_range.mpr hk)
  rw [h] at h1
  exact Nat.eq_of_beq_eq_true h1
theorem z_at_89 {k : Nat} (h9 : z_at k ≤ 9) (h5 : 5 < z_at k) : z_at k = 8 ∨ z_at k = 9 := by
  have hk : k < 182 := z_at_lt (by omega)
  have h1 := List.all_eq_true.mp z_chkA_ok k (List.mem_range.mpr hk)
  rcases (show z_at k = 6 ∨ z_at k = 7 ∨ z_at k = 8 ∨ z_at k = 9 by omega) with h | h | h | h
  · rw [h] at h1; cases h1
  · rw [h] at h1; cases h1
  · exact Or.inl h
  · exact Or.inr h
theorem z_sbl : ∀ {i : Nat}, i < 26 → (z_sb.map List.length).getD i 0 = z_ln (1, i, 0) := by
  have h : ∀ i, i < 26 → (z_sb.map List.length).getD i 0 = z_ln (1, i, 0) := by decide +kernel
  exact fun {i} hi => h i hi
theorem z_ret_l {y pc : Nat} (h : z_okr y [(pc, .lreturn)] = true) : (z_m y).2.2.2.1 = some .long := by
  simpa [z_okr] using h
theorem z_ret_v {y pc : Nat} (h : z_okr y [(pc, .return_)] = true) : (z_m y).2.2.2.1 = none := by
  simpa [z_okr] using h
theorem z_ret_a {y pc : Nat} (h : z_okr y [(pc, .areturn)] = true) : ∃ n, (z_m y).2.2.2.1 = some (.object n) := by
  simp only [z_okr, Bool.and_true] at h
  split at h
  · rename_i n e; exact ⟨n, e⟩
  · cases h
theorem z_kc_ne {o : Nat} : z_kc o ≠ 3 := by
  unfold z_kc
  split <;> omega
theorem z_vo {r : Option zV} {l : List zV} (h1 : ∀ v, r = some v → z_vv v) (h2 : ∀ v ∈ l, z_vv v) : ∀ v ∈ r.toList ++ l, z_vv v := by
  intro v hv
  rcases List.mem_append.mp hv with h | h
  · cases r with
    | none => cases h
    | some w =>
      simp at h
      subst h
      exact h1 _ rfl
  · exact h2 v h
theorem zOk.mono {y : Nat} {as : List zV} {h : zH} {Q Q' : Option zV → zH → Prop} (hk : zOk y as h Q) (hq : ∀ r hh, Q r hh → Q' r hh) : zOk y as h Q' := by
  intro hv cx l p e ha hc hkk s m args below hf hfit happ hpre
  obtain ⟨t, o, h1, h2, h3, h4⟩ := hk hv cx l p e ha hc hkk s m args below hf hfit happ hpre
  obtain ⟨⟨⟨r, hh, g1, g2, g3, g4⟩, g5⟩, g6⟩ := h4
  exact ⟨t, o, h1, h2, h3, ⟨⟨⟨r, hh, g1, g2, g3, hq r hh g4⟩, g5⟩, g6⟩⟩
theorem zOk.ofV {y : Nat} {as : List zV} {h : zH} {K : Option zV → zH → Prop} (hk : zOkV y as h (fun h1 => K none h1)) : zOk y as h K := zOk.mono hk (fun r hh hq => by rw [hq.1]; exact hq.2)
theorem zOk.ofI {y : Nat} {as : List zV} {h : zH} {K : Option zV → zH → Prop} (hk : zOkI y as h (fun x h1 => K (some (.inl x)) h1)) : zOk y as h K := zOk.mono hk (fun r hh hq => by obtain ⟨x, e, hq⟩ := hq; rw [e]; exact hq)
theorem zOk.ofL {y : Nat} {as : List zV} {h : zH} {K : Option zV → zH → Prop} (hk : zOkL y as h (fun x h1 => K (some (.inr (.inl x))) h1)) : zOk y as h K := zOk.mono hk (fun r hh hq => by obtain ⟨x, e, hq⟩ := hq; rw [e]; exact hq)
theorem zOk.ofR {y : Nat} {as : List zV} {h : zH} {K : Option zV → zH → Prop} (hk : zOkR y as h (fun x h1 => K (some (.inr (.inr x))) h1)) : zOk y as h K := zOk.mono hk (fun r hh hq => by obtain ⟨x, e, _, hq⟩ := hq; rw [e]; exact hq)
theorem z_invC {k en : Nat} {nx nc : zL → List zV → zH → Prop} {to : Nat → zL → List zV → zH → Prop} {Q : Option zV → zH → Prop} {L : zL} {st : List zV} {h : zH} (hw : z_ins (.invokeinterface k en) nx nc to Q L st h) : ∃ as r, z_pop (en / 4 % 16) [] st = some (as, r) ∧ z_cat r ≤ 8 ∧ (match en / 64, as with
        | 0, _ => true
        | k + 1, .inr (.inr q) :: _ => Nat.beq q.1 k
        | _, _ => false) = true ∧ zOk k as h (fun rr hh => nc L (rr.toList ++ r) hh) := by
  dsimp only [z_ins] at hw
  cases hp : z_pop (en / 4 % 16) [] st with
  | none => rw [hp] at hw; exact False.elim hw
  | some q =>
    obtain ⟨as, r⟩ := q
    rw [hp] at hw
    dsimp only at hw
    split at hw
    · rename_i hb
      simp only [Bool.and_eq_true] at hb
      refine ⟨as, r, rfl, Nat.le_of_ble_eq_true hb.1, hb.2, ?_⟩
      split at hw
      · exact zOk.ofV hw
      · exact zOk.ofI hw
      · exact zOk.ofL hw
      · exact zOk.ofR hw
    · exact False.elim hw
theorem z_recv {e : Nat} {as : List zV} (h : (match e, as with
        | 0, _ => true
        | k + 1, .inr (.inr q) :: _ => Nat.beq q.1 k
        | _, _ => false) = true) {k : Nat} (he : e = k + 1) : ∃ (q : zR) (as' : List zV), as = .inr (.inr q) :: as' ∧ q.1 = k := by
  subst he
  match as, h with
  | [], h => cases h
  | .inl _ :: _, h => cases h
  | .inr (.inl _) :: _, h => cases h
  | .inr (.inr q) :: as', h => exact ⟨q, as', rfl, Nat.eq_of_beq_eq_true h⟩
theorem z_cn_cl : ∀ o, o < 13 → zcl[o]?.map (fun r => r.1) = some (z_cn o) := by decide +kernel
theorem z_recvc {cx : zX} {y : Nat} {p : Program} {s : State} {m : MethodId} {args : Array Value} {meth : Method} {c : Code} {H : Heap} {locs : List Loc} {h : zH} (hE : z_E cx y p s m args meth c H locs) (hP : z_P cx h H) {q : zR} (hv : z_vl q) {o : Nat} (ho : o ≤ 13) (hq : q.1 = z_kc o) : ∃ cellB : Cell, H[cx.2.1 q]? = some cellB ∧ cellB.vm.isStatics = false ∧ s.vm.findClass (z_cn o) = some cellB.cls := by
  obtain ⟨hx, hb, hr, hml, hown, hts, hlk, hK, hC, hD, hS⟩ := hE
  unfold z_kc at hq
  by_cases h13 : o < 13
  · rw [if_pos h13] at hq
    have h1 := hP.one hv (by omega)
    rw [z_cell_o (by omega), show q.1 - 10 = o by omega] at h1
    have h2 := z_cn_cl o h13
    cases hc : zcl[o]? with
    | none => rw [hc] at h2; cases h2
    | some r =>
      rw [hc] at h2
      have h3 : r.1 = z_cn o := Option.some.inj h2
      rw [← h3]
      exact va_recv hK h1 hc (q0 := 0) rfl
  · rw [if_neg h13] at hq
    have e13 : o = 13 := by omega
    subst e13
    obtain ⟨i0, hi0, rfl⟩ := z_vl_0 hv hq
    exact vk_recv hC.1 hi0 hS
set_option maxRecDepth 100000 in
theorem z_rowK {o : Nat} {q : Nat × Int × Nat} (hq : q ∈ z_kls.getD o []) : lw_tbl[q.2.2]? = some (Cond.constant (z_cn o) q.1 (Int32.ofInt q.2.1)) := of_decide_eq_true (z_row z_lens.2.2.1 z_chkK_ok hq)
set_option maxRecDepth 100000 in
theorem z_rowLL {o : Nat} {q : Nat × Int × Nat} (hq : q ∈ z_lls.getD o []) : lw_tbl[q.2.2]? = some (Cond.constantLong (z_cn o) q.1 (Int64.ofInt q.2.1)) := of_decide_eq_true (z_row z_lens.2.2.2.1 z_chkLL_ok hq)
end
section
set_option maxHeartbeats 4000000 in
/-- one instruction of a method -/
theorem z_step {y : Nat} (hy : y < 247) {pc len : Nat} {r : Instr} {Q : Option zV → zH → Prop} {nx nc : zL → List zV → zH → Prop} {to : Nat → zL → List zV → zH → Prop} (hd : decode (z_m y).2.1 pc = .ok (r, len)) (hl : z_lenok r len = true) (hr : z_okr y [(pc, z_lk (z_m y).2.2.2.2.1.1 (z_m y).2.2.2.1 pc r)] = true)
    (hnx : ∀ L st h, nx L st h → zAt y (pc + len) L st h Q) (hnc : ∀ L st h, nc L st h → zAt y (pc + len) L st h Q) (hto : ∀ p L st h, to p L st h → zAt y p L st h Q) {L : zL} {st : List zV} {h : zH} (hw : z_ins (z_lk (z_m y).2.2.2.2.1.1 (z_m y).2.2.2.1 pc r) nx nc to Q L st h) : zAt y pc L st h Q := by
  intro hlen cx p l e s m args below meth c H locs ls hE hP hL hS
  have hE' := hE
  obtain ⟨hx, hb, hrt, hml, hown, hts, hlk, hK, hC, hD, hSs⟩ := hE
  have ho := (z_mf hy).2.2.2.2.2.2.2.2
  rw [← ho] at hown
  have go : ∀ {L' : zL} {st' : List zV} {h' : zH}, nx L' st' h' → L'.length = (z_m y).2.2.1 → ∀ {H1 : Heap} {locs1 : List Loc} {ls1 : Array Slot}, va_S (z_A cx) s.heap H1 locs1 → z_P cx h' H1 → z_LR cx L' ls1 → (∀ v ∈ st', z_vv v) → W p l e (z_rm y) s m args below meth c H1 locs1 0 0 (MQ below (z_Q cx Q) args s 0 0 (z_A cx)) (F0 m (pc + len) ls1 (st'.map (z_cv cx))) :=
    by intro L' st' h' hn hl' H1 locs1 ls1 hS1 hP1 hL1 hv1; exact hnx _ _ _ hn hl' cx p l e s m args below meth c H1 locs1 ls1 ⟨hE'.1, hE'.2.1, hE'.2.2.1, hE'.2.2.2.1, hE'.2.2.2.2.1, hE'.2.2.2.2.2.1, hE'.2.2.2.2.2.2.1, hE'.2.2.2.2.2.2.2.1, hE'.2.2.2.2.2.2.2.2.1, hE'.2.2.2.2.2.2.2.2.2.1, hS1⟩ hP1 hL1 hv1
  have gc : ∀ {L' : zL} {st' : List zV} {h' : zH}, nc L' st' h' → L'.length = (z_m y).2.2.1 → ∀ {H1 : Heap} {locs1 : List Loc} {ls1 : Array Slot}, va_S (z_A cx) s.heap H1 locs1 → z_P cx h' H1 → z_LR cx L' ls1 → (∀ v ∈ st', z_vv v) → W p l e (z_rm y) s m args below meth c H1 locs1 0 0 (MQ below (z_Q cx Q) args s 0 0 (z_A cx)) (F0 m (pc + len) ls1 (st'.map (z_cv cx))) :=
    by intro L' st' h' hn hl' H1 locs1 ls1 hS1 hP1 hL1 hv1; exact hnc _ _ _ hn hl' cx p l e s m args below meth c H1 locs1 ls1 ⟨hE'.1, hE'.2.1, hE'.2.2.1, hE'.2.2.2.1, hE'.2.2.2.2.1, hE'.2.2.2.2.2.1, hE'.2.2.2.2.2.2.1, hE'.2.2.2.2.2.2.2.1, hE'.2.2.2.2.2.2.2.2.1, hE'.2.2.2.2.2.2.2.2.2.1, hS1⟩ hP1 hL1 hv1
  have gt : ∀ {t : Nat} {L' : zL} {st' : List zV} {h' : zH}, to t L' st' h' → L'.length = (z_m y).2.2.1 → z_P cx h' H → z_LR cx L' ls → (∀ v ∈ st', z_vv v) → W p l e (z_rm y) s m args below meth c H locs 0 0 (MQ below (z_Q cx Q) args s 0 0 (z_A cx)) (F0 m t ls (st'.map (z_cv cx))) :=
    fun hn hl' hP1 hL1 hv1 => hto _ _ _ _ hn hl' cx p l e s m args below meth c H locs ls hE' hP1 hL1 hv1
  cases r
  all_goals try exact False.elim hw
  case iconst v =>
    cases Nat.eq_of_beq_eq_true hl
    exact lv_iconst hx hb hd (z_lit_eq v).symm (go hw hlen hSs hP hL (z_vc trivial hS))
  case bipush v =>
    cases Nat.eq_of_beq_eq_true hl
    dsimp only [z_lk] at hw
    split at hw
    · rename_i hv
      exact lv_bipush hx hb hd (hv.trans (z_lit_eq v).symm) (go hw hlen hSs hP hL (z_vc trivial hS))
    · exact False.elim hw
  case sipush v =>
    cases Nat.eq_of_beq_eq_true hl
    dsimp only [z_lk] at hw
    split at hw
    · rename_i hv
      exact lv_sipush hx hb hd (hv.trans (z_lit_eq v).symm) (go hw hlen hSs hP hL (z_vc trivial hS))
    · exact False.elim hw
  case lconst n =>
    cases Nat.eq_of_beq_eq_true hl
    refine lv_lconst (v := z_litL (n : Nat)) hx hb hd rfl ?_
    exact go hw hlen hSs hP hL (z_vc trivial hS)
  case iload_n n =>
    cases Nat.eq_of_beq_eq_true hl
    obtain ⟨x, hx1, hw⟩ := z_invGi (P := fun x => nx L (.inl x :: st) h) hw
    exact lv_iload_n hx hb hd rfl (hL.at hx1) (go hw hlen hSs hP hL (z_vc (hL.2 _ _ hx1) hS))
  case lload_n n =>
    cases Nat.eq_of_beq_eq_true hl
    obtain ⟨x, hx1, hw⟩ := z_invGl (P := fun x => nx L (.inr (.inl x) :: st) h) hw
    exact lv_lload_n hx hb hd rfl (hL.at hx1) (go hw hlen hSs hP hL (z_vc (hL.2 _ _ hx1) hS))
  case aload_n n =>
    cases Nat.eq_of_beq_eq_true hl
    obtain ⟨x, hx1, hw⟩ := z_invGa (P := fun x => nx L (.inr (.inr x) :: st) h) hw
    by_cases h3 : x.1 = 3
    · have h1 := hL.at hx1
      have h2 := go hw hlen hSs hP hL (z_vc (hL.2 _ _ hx1) hS)
      rw [List.map_cons] at h2
      cases hf : z_cv cx (.inr (.inr x)) with
      | ref a => rw [hf] at h1 h2; exact lv_aload_n hx hb hd rfl h1 h2
      | null => rw [hf] at h1 h2; exact lv_aload_nN hx hb hd rfl h1 h2
      | _ => exact absurd hf (by unfold z_cv; simp only [h3, if_true]; cases cx.2.2.2.1 <;> simp [va_rf])
    · have h1 := hL.at hx1
      have h2 := go hw hlen hSs hP hL (z_vc (hL.2 _ _ hx1) hS)
      rw [List.map_cons] at h2
      rw [z_cv_r h3] at h1 h2
      exact lv_aload_n hx hb hd rfl h1 h2
  case iload n =>
    cases Nat.eq_of_beq_eq_true hl
    obtain ⟨x, hx1, hw⟩ := z_invGi (P := fun x => nx L (.inl x :: st) h) hw
    exact lv_iload hx hb hd (hL.at hx1) (go hw hlen hSs hP hL (z_vc (hL.2 _ _ hx1) hS))
  case lload n =>
    cases Nat.eq_of_beq_eq_true hl
    obtain ⟨x, hx1, hw⟩ := z_invGl (P := fun x => nx L (.inr (.inl x) :: st) h) hw
    exact lv_lload hx hb hd (hL.at hx1) (go hw hlen hSs hP hL (z_vc (hL.2 _ _ hx1) hS))
  case aload n =>
    cases Nat.eq_of_beq_eq_true hl
    obtain ⟨x, hx1, hw⟩ := z_invGa (P := fun x => nx L (.inr (.inr x) :: st) h) hw
    by_cases h3 : x.1 = 3
    · have h1 := hL.at hx1
      have h2 := go hw hlen hSs hP hL (z_vc (hL.2 _ _ hx1) hS)
      rw [List.map_cons] at h2
      cases hf : z_cv cx (.inr (.inr x)) with
      | ref a => rw [hf] at h1 h2; exact lv_aload hx hb hd h1 h2
      | null => rw [hf] at h1 h2; exact lv_aloadN hx hb hd h1 h2
      | _ => exact absurd hf (by unfold z_cv; simp only [h3, if_true]; cases cx.2.2.2.1 <;> simp [va_rf])
    · have h1 := hL.at hx1
      have h2 := go hw hlen hSs hP hL (z_vc (hL.2 _ _ hx1) hS)
      rw [List.map_cons] at h2
      rw [z_cv_r h3] at h1 h2
      exact lv_aload hx hb hd h1 h2
  case istore_n n =>
    cases Nat.eq_of_beq_eq_true hl
    have hw0 := hw
    clear hw
    obtain ⟨x, r, rfl, hw⟩ := z_invI (P := fun x r => nx (z_s1 L n (.inl x)) r h) hw0
    clear hw0
    have hn := Nat.blt_eq.mp (by simpa [z_okr, z_lk] using hr)
    refine lv_istore_n hx hb hd rfl hL.1 (by rw [hlen]; exact hn) rfl (fun ls' hls => ?_)
    exact go hw (by rw [z_s1_len]; exact hlen) hSs hP (hL.s1 (v := .inl x) trivial hls) (z_vt hS)
  case istore n =>
    cases Nat.eq_of_beq_eq_true hl
    have hw0 := hw
    clear hw
    obtain ⟨x, r, rfl, hw⟩ := z_invI (P := fun x r => nx (z_s1 L n (.inl x)) r h) hw0
    clear hw0
    have hn := Nat.blt_eq.mp (by simpa [z_okr, z_lk] using hr)
    refine lv_istore hx hb hd hL.1 (by rw [hlen]; exact hn) rfl (fun ls' hls => ?_)
    exact go hw (by rw [z_s1_len]; exact hlen) hSs hP (hL.s1 (v := .inl x) trivial hls) (z_vt hS)
  case lstore_n n =>
    cases Nat.eq_of_beq_eq_true hl
    have hw0 := hw
    clear hw
    obtain ⟨x, r, rfl, hw⟩ := z_invL (P := fun x r => nx (z_s2 L n (.inr (.inl x))) r h) hw0
    clear hw0
    have hn := Nat.blt_eq.mp (by simpa [z_okr, z_lk] using hr)
    refine lv_lstore_n hx hb hd rfl hL.1 (by rw [hlen]; exact hn) rfl (fun ls' hls => ?_)
    exact go hw (by rw [z_s2_len]; exact hlen) hSs hP (hL.s2 (v := .inr (.inl x)) trivial hls) (z_vt hS)
  case lstore n =>
    cases Nat.eq_of_beq_eq_true hl
    have hw0 := hw
    clear hw
    obtain ⟨x, r, rfl, hw⟩ := z_invL (P := fun x r => nx (z_s2 L n (.inr (.inl x))) r h) hw0
    clear hw0
    have hn := Nat.blt_eq.mp (by simpa [z_okr, z_lk] using hr)
    refine lv_lstore hx hb hd hL.1 (by rw [hlen]; exact hn) rfl (fun ls' hls => ?_)
    exact go hw (by rw [z_s2_len]; exact hlen) hSs hP (hL.s2 (v := .inr (.inl x)) trivial hls) (z_vt hS)
  case astore_n n =>
    cases Nat.eq_of_beq_eq_true hl
    have hw0 := hw
    clear hw
    obtain ⟨x, r, rfl, hw⟩ := z_invR (P := fun x r => nx (z_s1 L n (.inr (.inr x))) r h) hw0
    clear hw0
    have hn := Nat.blt_eq.mp (by simpa [z_okr, z_lk] using hr)
    have key : ∀ ls' : Array Slot, lv_has ls' L.length (((n : Nat), z_cv cx (.inr (.inr x))) :: (z_al cx L).filter (fun q => !(q.1 == (n : Nat)) && !(q.1 + 1 == (n : Nat) && q.2.category == 2))) → W p l e (z_rm y) s m args below meth c H locs 0 0 (MQ below (z_Q cx Q) args s 0 0 (z_A cx)) (F0 m (pc + 1) ls' (r.map (z_cv cx))) := fun ls' hls => go hw (by rw [z_s1_len]; exact hlen) hSs hP (hL.s1 (v := .inr (.inr x)) (z_vh hS) hls) (z_vt hS)
    rw [List.map_cons]
    cases hf : z_cv cx (.inr (.inr x)) with
    | ref a => rw [hf] at key; exact lv_astore_n hx hb hd rfl hL.1 (by rw [hlen]; exact hn) rfl key
    | null => rw [hf] at key; exact lv_astore_nN hx hb hd rfl hL.1 (by rw [hlen]; exact hn) rfl key
    | _ => exact absurd hf (by unfold z_cv; by_cases h3 : x.1 = 3 <;> simp only [h3, if_true, if_false] <;> (try (cases cx.2.2.2.1 <;> simp [va_rf])) <;> simp)
  case astore n =>
    cases Nat.eq_of_beq_eq_true hl
    have hw0 := hw
    clear hw
    obtain ⟨x, r, rfl, hw⟩ := z_invR (P := fun x r => nx (z_s1 L n (.inr (.inr x))) r h) hw0
    clear hw0
    have hn := Nat.blt_eq.mp (by simpa [z_okr, z_lk] using hr)
    have key : ∀ ls' : Array Slot, lv_has ls' L.length (((n : Nat), z_cv cx (.inr (.inr x))) :: (z_al cx L).filter (fun q => !(q.1 == (n : Nat)) && !(q.1 + 1 == (n : Nat) && q.2.category == 2))) → W p l e (z_rm y) s m args below meth c H locs 0 0 (MQ below (z_Q cx Q) args s 0 0 (z_A cx)) (F0 m (pc + 2) ls' (r.map (z_cv cx))) := fun ls' hls => go hw (by rw [z_s1_len]; exact hlen) hSs hP (hL.s1 (v := .inr (.inr x)) (z_vh hS) hls) (z_vt hS)
    rw [List.map_cons]
    cases hf : z_cv cx (.inr (.inr x)) with
    | ref a => rw [hf] at key; exact lv_astore hx hb hd hL.1 (by rw [hlen]; exact hn) rfl key
    | null => rw [hf] at key; exact lv_astoreN hx hb hd hL.1 (by rw [hlen]; exact hn) rfl key
    | _ => exact absurd hf (by unfold z_cv; by_cases h3 : x.1 = 3 <;> simp only [h3, if_true, if_false] <;> (try (cases cx.2.2.2.1 <;> simp [va_rf])) <;> simp)
  case iinc n v =>
    cases Nat.eq_of_beq_eq_true hl
    obtain ⟨x, hx1, hw⟩ := z_invGi (P := fun x => nx (z_s1 L n (.inl (x + z_lit v))) st h) hw
    have hn := Nat.blt_eq.mp (by simpa [z_okr, z_lk] using hr)
    obtain ⟨k, hk⟩ := List.getElem?_of_mem (z_al_mem (cx := cx) (q := (n, z_cv cx (.inl x))).mpr ⟨.inl x, hx1, rfl⟩)
    refine lv_iinc hx hb hd hL.1 (k := k) hk (congrArg (x + ·) (z_lit_eq v).symm) (by rw [hlen]; exact hn) rfl (fun ls' hls => ?_)
    exact go hw (by rw [z_s1_len]; exact hlen) hSs hP (hL.s1 (v := .inl (x + z_lit v)) trivial hls) hS
  case iadd =>
    cases Nat.eq_of_beq_eq_true hl
    have hw0 := hw
    clear hw
    obtain ⟨b, a, r, rfl, hw⟩ := z_invII (P := fun y x r => nx L (.inl (x + y) :: r) h) hw0
    clear hw0
    exact lv_iadd hx hb hd (go hw hlen hSs hP hL (z_vc trivial (z_vt (z_vt hS))))
  case isub =>
    cases Nat.eq_of_beq_eq_true hl
    have hw0 := hw
    clear hw
    obtain ⟨b, a, r, rfl, hw⟩ := z_invII (P := fun y x r => nx L (.inl (x - y) :: r) h) hw0
    clear hw0
    exact lv_isub hx hb hd (go hw hlen hSs hP hL (z_vc trivial (z_vt (z_vt hS))))
  case imul =>
    cases Nat.eq_of_beq_eq_true hl
    have hw0 := hw
    clear hw
    obtain ⟨b, a, r, rfl, hw⟩ := z_invII (P := fun y x r => nx L (.inl (x * y) :: r) h) hw0
    clear hw0
    exact lv_imul hx hb hd (go hw hlen hSs hP hL (z_vc trivial (z_vt (z_vt hS))))
  case iand =>
    cases Nat.eq_of_beq_eq_true hl
    have hw0 := hw
    clear hw
    obtain ⟨b, a, r, rfl, hw⟩ := z_invII (P := fun y x r => nx L (.inl (x &&& y) :: r) h) hw0
    clear hw0
    exact lv_iand hx hb hd (go hw hlen hSs hP hL (z_vc trivial (z_vt (z_vt hS))))
  case ior =>
    cases Nat.eq_of_beq_eq_true hl
    have hw0 := hw
    clear hw
    obtain ⟨b, a, r, rfl, hw⟩ := z_invII (P := fun y x r => nx L (.inl (x ||| y) :: r) h) hw0
    clear hw0
    exact lv_ior hx hb hd (go hw hlen hSs hP hL (z_vc trivial (z_vt (z_vt hS))))
  case ixor =>
    cases Nat.eq_of_beq_eq_true hl
    have hw0 := hw
    clear hw
    obtain ⟨b, a, r, rfl, hw⟩ := z_invII (P := fun y x r => nx L (.inl (x ^^^ y) :: r) h) hw0
    clear hw0
    exact lv_ixor hx hb hd (go hw hlen hSs hP hL (z_vc trivial (z_vt (z_vt hS))))
  case ishl =>
    cases Nat.eq_of_beq_eq_true hl
    have hw0 := hw
    clear hw
    obtain ⟨b, a, r, rfl, hw⟩ := z_invII (P := fun y x r => nx L (.inl (x <<< (y &&& 31)) :: r) h) hw0
    clear hw0
    exact lv_ishl hx hb hd (go hw hlen hSs hP hL (z_vc trivial (z_vt (z_vt hS))))
  case ishr =>
    cases Nat.eq_of_beq_eq_true hl
    have hw0 := hw
    clear hw
    obtain ⟨b, a, r, rfl, hw⟩ := z_invII (P := fun y x r => nx L (.inl (x >>> (y &&& 31)) :: r) h) hw0
    clear hw0
    exact lv_ishr hx hb hd (go hw hlen hSs hP hL (z_vc trivial (z_vt (z_vt hS))))
  case idiv =>
    cases Nat.eq_of_beq_eq_true hl
    have hw0 := hw
    clear hw
    obtain ⟨b, a, r, rfl, hne, hw⟩ := z_invII (P := fun y x r => (¬ y = 0) ∧ nx L (.inl (x / y) :: r) h) hw0
    clear hw0
    exact lv_idiv hx hb hd hne (go hw hlen hSs hP hL (z_vc trivial (z_vt (z_vt hS))))
  case irem =>
    cases Nat.eq_of_beq_eq_true hl
    have hw0 := hw
    clear hw
    obtain ⟨b, a, r, rfl, hne, hw⟩ := z_invII (P := fun y x r => (¬ y = 0) ∧ nx L (.inl (x - x / y * y) :: r) h) hw0
    clear hw0
    exact lv_irem hx hb hd hne (go hw hlen hSs hP hL (z_vc trivial (z_vt (z_vt hS))))
  case ladd =>
    cases Nat.eq_of_beq_eq_true hl
    have hw0 := hw
    clear hw
    obtain ⟨b, a, r, rfl, hw⟩ := z_invLL (P := fun y x r => nx L (.inr (.inl (x + y)) :: r) h) hw0
    clear hw0
    exact lv_ladd hx hb hd (go hw hlen hSs hP hL (z_vc trivial (z_vt (z_vt hS))))
  case lsub =>
    cases Nat.eq_of_beq_eq_true hl
    have hw0 := hw
    clear hw
    obtain ⟨b, a, r, rfl, hw⟩ := z_invLL (P := fun y x r => nx L (.inr (.inl (x - y)) :: r) h) hw0
    clear hw0
    exact lv_lsub hx hb hd (go hw hlen hSs hP hL (z_vc trivial (z_vt (z_vt hS))))
  case lmul =>
    cases Nat.eq_of_beq_eq_true hl
    have hw0 := hw
    clear hw
    obtain ⟨b, a, r, rfl, hw⟩ := z_invLL (P := fun y x r => nx L (.inr (.inl (x * y)) :: r) h) hw0
    clear hw0
    exact lv_lmul hx hb hd (go hw hlen hSs hP hL (z_vc trivial (z_vt (z_vt hS))))
  case land =>
    cases Nat.eq_of_beq_eq_true hl
    have hw0 := hw
    clear hw
    obtain ⟨b, a, r, rfl, hw⟩ := z_invLL (P := fun y x r => nx L (.inr (.inl (x &&& y)) :: r) h) hw0
    clear hw0
    exact lv_land hx hb hd (go hw hlen hSs hP hL (z_vc trivial (z_vt (z_vt hS))))
  case lor =>
    cases Nat.eq_of_beq_eq_true hl
    have hw0 := hw
    clear hw
    obtain ⟨b, a, r, rfl, hw⟩ := z_invLL (P := fun y x r => nx L (.inr (.inl (x ||| y)) :: r) h) hw0
    clear hw0
    exact lv_lor hx hb hd (go hw hlen hSs hP hL (z_vc trivial (z_vt (z_vt hS))))
  case ldiv =>
    cases Nat.eq_of_beq_eq_true hl
    have hw0 := hw
    clear hw
    obtain ⟨b, a, r, rfl, hne, hw⟩ := z_invLL (P := fun y x r => (¬ y = 0) ∧ nx L (.inr (.inl (x / y)) :: r) h) hw0
    clear hw0
    exact lv_ldiv hx hb hd hne (go hw hlen hSs hP hL (z_vc trivial (z_vt (z_vt hS))))
  case lrem =>
    cases Nat.eq_of_beq_eq_true hl
    have hw0 := hw
    clear hw
    obtain ⟨b, a, r, rfl, hne, hw⟩ := z_invLL (P := fun y x r => (¬ y = 0) ∧ nx L (.inr (.inl (x - x / y * y)) :: r) h) hw0
    clear hw0
    exact lv_lrem hx hb hd hne (go hw hlen hSs hP hL (z_vc trivial (z_vt (z_vt hS))))
  case lshl =>
    cases Nat.eq_of_beq_eq_true hl
    have hw0 := hw
    clear hw
    obtain ⟨b, a, r, rfl, hw⟩ := z_invIL (P := fun y x r => nx L (.inr (.inl (x <<< (y.toInt64 &&& 63))) :: r) h) hw0
    clear hw0
    exact lv_lshl hx hb hd rfl (go hw hlen hSs hP hL (z_vc trivial (z_vt (z_vt hS))))
  case lshr =>
    cases Nat.eq_of_beq_eq_true hl
    have hw0 := hw
    clear hw
    obtain ⟨b, a, r, rfl, hw⟩ := z_invIL (P := fun y x r => nx L (.inr (.inl (x >>> (y.toInt64 &&& 63))) :: r) h) hw0
    clear hw0
    exact lv_lshr hx hb hd rfl (go hw hlen hSs hP hL (z_vc trivial (z_vt (z_vt hS))))
  case lushr =>
    cases Nat.eq_of_beq_eq_true hl
    have hw0 := hw
    clear hw
    obtain ⟨b, a, r, rfl, hw⟩ := z_invIL (P := fun y x r => nx L (.inr (.inl ((x.toUInt64 >>> (y.toInt64.toUInt64 &&& Int64.toUInt64 63)).toInt64)) :: r) h) hw0
    clear hw0
    exact lv_lushr hx hb hd rfl (go hw hlen hSs hP hL (z_vc trivial (z_vt (z_vt hS))))
  case lcmp =>
    cases Nat.eq_of_beq_eq_true hl
    have hw0 := hw
    clear hw
    obtain ⟨b, a, r, rfl, hw⟩ := z_invLL (P := fun y x r => nx L (.inl (lg_cmp x y) :: r) h) hw0
    clear hw0
    exact W.lcmp hx hb hd (go hw hlen hSs hP hL (z_vc trivial (z_vt (z_vt hS))))
  case i2l =>
    cases Nat.eq_of_beq_eq_true hl
    have hw0 := hw
    clear hw
    obtain ⟨a, r, rfl, hw⟩ := z_invI (P := fun x r => nx L (.inr (.inl x.toInt64) :: r) h) hw0
    clear hw0
    exact lv_i2l hx hb hd rfl (go hw hlen hSs hP hL (z_vc trivial (z_vt hS)))
  case l2i =>
    cases Nat.eq_of_beq_eq_true hl
    have hw0 := hw
    clear hw
    obtain ⟨a, r, rfl, hw⟩ := z_invL (P := fun x r => nx L (.inl x.toInt32 :: r) h) hw0
    clear hw0
    exact lv_l2i hx hb hd rfl (go hw hlen hSs hP hL (z_vc trivial (z_vt hS)))
  case i2b =>
    cases Nat.eq_of_beq_eq_true hl
    have hw0 := hw
    clear hw
    obtain ⟨a, r, rfl, hw⟩ := z_invI (P := fun x r => nx L (.inl x.toInt8.toInt32 :: r) h) hw0
    clear hw0
    exact lv_i2b hx hb hd rfl (go hw hlen hSs hP hL (z_vc trivial (z_vt hS)))
  case i2c =>
    cases Nat.eq_of_beq_eq_true hl
    have hw0 := hw
    clear hw
    obtain ⟨a, r, rfl, hw⟩ := z_invI (P := fun x r => nx L (.inl (x.toUInt32 % 65536).toInt32 :: r) h) hw0
    clear hw0
    exact lv_i2c hx hb hd rfl (go hw hlen hSs hP hL (z_vc trivial (z_vt hS)))
  case dup =>
    cases Nat.eq_of_beq_eq_true hl
    match st, hw, hS with
    | .inl x :: r, hw, hS => exact lv_dup hx hb hd rfl (go hw hlen hSs hP hL (z_vc trivial hS))
    | .inr (.inr x) :: r, hw, hS => exact lv_dup hx hb hd (z_cat_cv cx _ (fun y e => by cases e)) (go hw hlen hSs hP hL (z_vc (z_vh hS) hS))
    | [], hw, _ => exact False.elim hw
    | .inr (.inl x) :: r, hw, _ => exact False.elim hw
  case pop =>
    cases Nat.eq_of_beq_eq_true hl
    match st, hw, hS with
    | .inl x :: r, hw, hS => exact lv_pop hx hb hd rfl (go hw hlen hSs hP hL (z_vt hS))
    | .inr (.inr x) :: r, hw, hS => exact lv_pop hx hb hd (z_cat_cv cx _ (fun y e => by cases e)) (go hw hlen hSs hP hL (z_vt hS))
    | [], hw, _ => exact False.elim hw
    | .inr (.inl x) :: r, hw, _ => exact False.elim hw
  case dup2 =>
    cases Nat.eq_of_beq_eq_true hl
    have hw0 := hw
    clear hw
    obtain ⟨x, q, r, rfl, hw⟩ := z_invIR (P := fun x q r => nx L (.inl x :: .inr (.inr q) :: .inl x :: .inr (.inr q) :: r) h) hw0
    clear hw0
    exact lv_dup2_11 hx hb hd rfl (z_cat_cv cx _ (fun y e => by cases e)) (go hw hlen hSs hP hL (z_vc trivial (z_vc (z_vh (z_vt hS)) hS)))
  case ifCond cnd off =>
    cases Nat.eq_of_beq_eq_true hl
    have hw0 := hw
    clear hw
    obtain ⟨a, r, rfl, hw⟩ := z_invI (P := fun x r => z_if cnd x 0 (to ((pc : Int) + off).toNat L r h) (nx L r h)) hw0
    clear hw0
    have htn : 0 ≤ (pc : Int) + off := by simpa [z_okr, z_lk] using hr
    have ht : (pc : Int) + off = (((pc : Int) + off).toNat : Int) := (Int.toNat_of_nonneg htn).symm
    · cases cnd
      case eq => exact lv_if_eq hx hb hd ht (fun z => gt (hw.1 z) hlen hP hL (z_vt hS)) (fun z => go (hw.2 z) hlen hSs hP hL (z_vt hS))
      case ne => exact lv_if_ne hx hb hd ht (fun z => gt (hw.2 z) hlen hP hL (z_vt hS)) (fun z => go (hw.1 z) hlen hSs hP hL (z_vt hS))
      case lt => exact lv_if_lt hx hb hd ht (fun z => gt (hw.1 z) hlen hP hL (z_vt hS)) (fun z => go (hw.2 z) hlen hSs hP hL (z_vt hS))
      case ge => exact lv_if_ge hx hb hd ht (fun z => gt (hw.2 (Int32.not_lt.mpr z)) hlen hP hL (z_vt hS)) (fun z => go (hw.1 (Int32.not_le.mp z)) hlen hSs hP hL (z_vt hS))
      case gt => exact lv_if_gt hx hb hd ht (fun z => gt (hw.1 z) hlen hP hL (z_vt hS)) (fun z => go (hw.2 z) hlen hSs hP hL (z_vt hS))
      case le => exact lv_if_le hx hb hd ht (fun z => gt (hw.2 (Int32.not_lt.mpr z)) hlen hP hL (z_vt hS)) (fun z => go (hw.1 (Int32.not_le.mp z)) hlen hSs hP hL (z_vt hS))
  case if_icmp cnd off =>
    cases Nat.eq_of_beq_eq_true hl
    have hw0 := hw
    clear hw
    obtain ⟨b, a, r, rfl, hw⟩ := z_invII (P := fun y x r => z_if cnd x y (to ((pc : Int) + off).toNat L r h) (nx L r h)) hw0
    clear hw0
    have htn : 0 ≤ (pc : Int) + off := by simpa [z_okr, z_lk] using hr
    have ht : (pc : Int) + off = (((pc : Int) + off).toNat : Int) := (Int.toNat_of_nonneg htn).symm
    · cases cnd
      case eq => exact lv_icmp_eq hx hb hd ht (fun z => gt (hw.1 z) hlen hP hL (z_vt (z_vt hS))) (fun z => go (hw.2 z) hlen hSs hP hL (z_vt (z_vt hS)))
      case ne => exact lv_icmp_ne hx hb hd ht (fun z => gt (hw.2 z) hlen hP hL (z_vt (z_vt hS))) (fun z => go (hw.1 z) hlen hSs hP hL (z_vt (z_vt hS)))
      case lt => exact lv_icmp_lt hx hb hd ht (fun z => gt (hw.1 z) hlen hP hL (z_vt (z_vt hS))) (fun z => go (hw.2 z) hlen hSs hP hL (z_vt (z_vt hS)))
      case ge => exact lv_icmp_ge hx hb hd ht (fun z => gt (hw.2 (Int32.not_lt.mpr z)) hlen hP hL (z_vt (z_vt hS))) (fun z => go (hw.1 (Int32.not_le.mp z)) hlen hSs hP hL (z_vt (z_vt hS)))
      case gt => exact lv_icmp_gt hx hb hd ht (fun z => gt (hw.1 z) hlen hP hL (z_vt (z_vt hS))) (fun z => go (hw.2 z) hlen hSs hP hL (z_vt (z_vt hS)))
      case le => exact lv_icmp_le hx hb hd ht (fun z => gt (hw.2 (Int32.not_lt.mpr z)) hlen hP hL (z_vt (z_vt hS))) (fun z => go (hw.1 (Int32.not_le.mp z)) hlen hSs hP hL (z_vt (z_vt hS)))
  case goto off =>
    cases Nat.eq_of_beq_eq_true hl
    have htn : 0 ≤ (pc : Int) + off := by simpa [z_okr, z_lk] using hr
    exact lv_goto hx hb hd (Int.toNat_of_nonneg htn).symm (gt hw hlen hP hL hS)
  case tableswitch d lo hi ts =>
    have hw0 := hw
    clear hw
    obtain ⟨x, r, rfl, hw, hw2⟩ := z_invI (P := fun x r => z_tsw (fun t => to t.toNat L r h) x lo (ts.map (fun t => (pc : Int) + t)).toList ∧ ((x.toInt < lo ∨ hi < x.toInt) → to ((pc : Int) + d).toNat L r h)) hw0
    clear hw0
    simp only [z_okr, z_lk, Bool.and_true, Bool.and_eq_true, decide_eq_true_eq, List.all_eq_true] at hr
    obtain ⟨⟨hr1, hr2⟩, hr3⟩ := hr
    by_cases hout : x.toInt < lo ∨ hi < x.toInt
    · exact lv_tableOut hx hb hd hout (Int.toNat_of_nonneg hr1).symm (gt (hw2 hout) hlen hP hL (z_vt hS))
    · have h1 : ¬ x.toInt < lo := fun z => hout (Or.inl z)
      have h2 : ¬ hi < x.toInt := fun z => hout (Or.inr z)
      have hsz : (ts.map (fun t => (pc : Int) + t)).size = ts.size := by simp
      have hk : (x.toInt - lo).toNat < ts.size := by rw [hsz] at hr2; omega
      have ho1 : ts[(x.toInt - lo).toNat]? = some ts[(x.toInt - lo).toNat] := Array.getElem?_eq_getElem hk
      have ho2 : (ts.map (fun t => (pc : Int) + t)).toList[(x.toInt - lo).toNat]? = some ((pc : Int) + ts[(x.toInt - lo).toNat]) := by simp [ho1]
      have hJ := z_tsw_at ho2 hw (by rw [show lo + ((x.toInt - lo).toNat : Int) = x.toInt by omega]; rw [z_lit_eq]; exact (Int32.ofInt_toInt x).symm)
      have h0 := hr3 _ (List.mem_of_getElem? ho2)
      exact lv_tableIn hx hb hd h1 h2 ho1 (Int.toNat_of_nonneg h0).symm (gt hJ hlen hP hL (z_vt hS))
  case lookupswitch d ps =>
    have hw0 := hw
    clear hw
    obtain ⟨x, r, rfl, hw, hw2⟩ := z_invI (P := fun x r => z_lsw (fun t => to t.toNat L r h) x (ps.map (fun t => (t.1, (pc : Int) + t.2))).toList ∧ (z_lno x (ps.map (fun t => (t.1, (pc : Int) + t.2))).toList → to ((pc : Int) + d).toNat L r h)) hw0
    clear hw0
    simp only [z_okr, z_lk, Bool.and_true, Bool.and_eq_true, decide_eq_true_eq] at hr
    obtain ⟨⟨hr1, hr2⟩, hr3⟩ := hr
    rw [Array.toList_map] at hw hw2 hr3 hr1
    obtain ⟨h0, hJ⟩ := z_lsw_at (J := fun t => to t.toNat L r h) ps.toList hr2 hr3 hw hw2
    exact lv_lookup hx hb hd (z_srt ps.toList hr1) rfl (Int.toNat_of_nonneg h0).symm (gt hJ hlen hP hL (z_vt hS))
  case ldc k =>
    cases Nat.eq_of_beq_eq_true hl
    dsimp only [z_lk] at hw
    cases hf : (z_kls.getD (z_m y).2.2.2.2.1.1 []).find? (fun q => q.1 == k) with
    | some q =>
      rw [hf] at hw
      obtain ⟨hq, hk⟩ := z_find_mem hf
      have h2 := z_rowK hq
      rw [← z_lit_eq] at h2
      rw [eq_of_beq hk] at h2
      exact lv_ldc hx hb hown (hts _ (zTG_of h2 rfl)) hd (go hw hlen hSs hP hL (z_vc trivial hS))
    | none =>
      rw [hf] at hw
      dsimp only at hw
      cases hf2 : (z_sls.getD (z_m y).2.2.2.2.1.1 []).find? (fun q => q.1 == k) with
      | none => rw [hf2] at hw; exact False.elim hw
      | some q =>
        rw [hf2] at hw
        obtain ⟨hq, hk⟩ := z_find_mem hf2
        have h1 := hC.2.2.2.2.2.2.2.2 _ q hq
        rw [eq_of_beq hk] at h1
        have h26 := z_row z_lens.2.2.2.2.1 (f := fun _ q => Nat.blt q.2.1 26) z_chkS_ok hq
        exact va_ldcS hx hb hown h1 hd (go hw hlen hSs hP hL (z_vc (z_vl_str (Nat.blt_eq.mp h26)) hS))
  case ldc_w k =>
    cases Nat.eq_of_beq_eq_true hl
    dsimp only [z_lk] at hw
    cases hf : (z_kls.getD (z_m y).2.2.2.2.1.1 []).find? (fun q => q.1 == k) with
    | some q =>
      rw [hf] at hw
      obtain ⟨hq, hk⟩ := z_find_mem hf
      have h2 := z_rowK hq
      rw [← z_lit_eq] at h2
      rw [eq_of_beq hk] at h2
      exact lv_ldcw hx hb hown (hts _ (zTG_of h2 rfl)) hd (go hw hlen hSs hP hL (z_vc trivial hS))
    | none => rw [hf] at hw; exact False.elim hw
  case ldc2_w k =>
    cases Nat.eq_of_beq_eq_true hl
    dsimp only [z_lk] at hw
    cases hf : (z_lls.getD (z_m y).2.2.2.2.1.1 []).find? (fun q => q.1 == k) with
    | some q =>
      rw [hf] at hw
      obtain ⟨hq, hk⟩ := z_find_mem hf
      have h2 := z_rowLL hq
      rw [← z_litL_eq] at h2
      rw [eq_of_beq hk] at h2
      exact lv_ldc2 hx hb hown (hts _ (zTG_of h2 rfl)) hd (go hw hlen hSs hP hL (z_vc trivial hS))
    | none => rw [hf] at hw; exact False.elim hw
  case getfield k =>
    cases Nat.eq_of_beq_eq_true hl
    dsimp only [z_lk] at hw
    cases hf : (z_fls.getD (z_m y).2.2.2.2.1.1 []).find? (fun q => q.1 == k) with
    | none => rw [hf] at hw; exact False.elim hw
    | some w =>
      rw [hf] at hw
      obtain ⟨hq, hk⟩ := z_find_mem hf
      have hk := eq_of_beq hk
      have hw0 := hw
      clear hw
      obtain ⟨q, r, rfl, hw⟩ := z_invR (P := fun q r => match Nat.beq q.1 (w.2.1 / 1024) with
        | true => z_get h q (w.2.1 / 8 % 128) (w.2.1 % 8) (fun v => nx L (v :: r) h)
        | false => False) hw0
      clear hw0
      have hw0 := hw
      clear hw
      obtain ⟨hb1, hw⟩ := z_invB hw0
      clear hw0
      have hkd := Nat.eq_of_beq_eq_true hb1
      have hvq : z_vl q := z_vh hS
      by_cases h0 : w.2.1 / 1024 = 0
      · have h3 : q.1 ≠ 3 := by omega
        have hck := z_row z_lens.1 z_chkF_ok hq
        unfold z_chkF at hck
        rw [if_pos h0] at hck
        simp only [Bool.and_eq_true, decide_eq_true_eq, Bool.or_eq_true, beq_iff_eq] at hck
        rw [hk] at hck
        obtain ⟨i0, hi0, rfl⟩ := z_vl_0 hvq (by omega)
        rw [List.map_cons, z_cv_r h3]
        rcases hck.2 with h8 | h8
        · rw [h8] at hw
          have h9 := hck.1
          rw [h8] at h9
          refine vk_getf hx hb (hC.1.1 i0 hi0).2.2.1 hSs hown (hts _ (zTG_of h9 rfl)) (fun x hx => hx) hd ?_
          exact go (st' := .inr (.inr (1, i0, 0)) :: r) hw hlen hSs hP hL (z_vc (z_vl_strb hi0) (z_vt hS))
        · rw [h8] at hw
          have h9 := hck.1
          rw [h8] at h9
          refine vk_getf hx hb (hC.1.1 i0 hi0).2.1 hSs hown (hts _ (zTG_of h9 rfl)) (fun x hx => hx) hd ?_
          exact go (st' := .inl 0 :: r) hw hlen hSs hP hL (z_vc trivial (z_vt hS))
      · obtain ⟨hF, htc⟩ := z_fr_of hq h0
        rw [hk, ← hkd] at hF
        rw [← hkd] at htc
        have h10 : 10 ≤ q.1 := hF.choose_spec.choose_spec.choose_spec.1
        have h23 : q.1 < 23 := hF.choose_spec.choose_spec.choose_spec.2.1
        have hkn : w.2.1 / 8 % 128 < z_nf (q.1 - 10) := by
          obtain ⟨C, T, N, _, _, _, e1, e2, _⟩ := hF
          omega
        have h3 : q.1 ≠ 3 := by omega
        rw [List.map_cons, z_cv_r h3]
        refine z_Wget hE' ho hP hvq hF hd ?_
        unfold z_get at hw
        split at hw
        · rename_i e1
          rw [z_fv_i (Or.inl (htc.symm.trans e1))]
          exact go (st' := .inl _ :: r) hw hlen hSs hP hL (z_vc trivial (z_vt hS))
        · rename_i e1
          rw [z_fv_i (Or.inr (htc.symm.trans e1))]
          exact go (st' := .inl _ :: r) hw hlen hSs hP hL (z_vc trivial (z_vt hS))
        · rename_i e1
          rw [z_fv_l (htc.symm.trans e1)]
          exact go (st' := .inr (.inl _) :: r) hw hlen hSs hP hL (z_vc trivial (z_vt hS))
        · rename_i e1
          have hvf := z_vl_fr hvq h10 h23 hkn (htc.symm.trans e1)
          rw [z_fv_f (htc.symm.trans e1), ← z_cv_r (cx := cx) (q := z_fr q (w.2.1 / 8 % 128)) (by omega)]
          exact go (st' := .inr (.inr _) :: r) hw hlen hSs hP hL (z_vc hvf.1 (z_vt hS))
        · rename_i e1
          obtain ⟨i, j, hm, hw⟩ := hw
          have hvm := hP.2 _ _ _ hm
          rw [z_fv_m (htc.symm.trans e1), hm]
          show W p l e (z_rm y) s m args below meth c H locs 0 0 _ (F0 m (pc + 3) ls (.ref (cx.2.1 (z_mk q.1 (w.2.1 / 8 % 128), i, j)) :: r.map (z_cv cx)))
          rw [← z_cv_r (cx := cx) hvm.2]
          exact go (st' := .inr (.inr _) :: r) hw hlen hSs hP hL (z_vc hvm.1 (z_vt hS))
        · rename_i e1
          exact absurd (htc.symm.trans e1) (z_tc_ne h10 h23 hkn).1
        · rename_i e1
          exact absurd (htc.symm.trans e1) (z_tc_ne h10 h23 hkn).2
        · exact False.elim hw
  case putfield k =>
    cases Nat.eq_of_beq_eq_true hl
    dsimp only [z_lk] at hw
    cases hf : (z_fls.getD (z_m y).2.2.2.2.1.1 []).find? (fun q => q.1 == k) with
    | none => rw [hf] at hw; exact False.elim hw
    | some w =>
      rw [hf] at hw
      obtain ⟨hq, hk⟩ := z_find_mem hf
      have hk := eq_of_beq hk
      have hw0 := hw
      clear hw
      obtain ⟨v, q, r, rfl, hw⟩ := z_invVR (P := fun v q r => match Nat.beq q.1 (w.2.1 / 1024) with
        | true => z_put h q (w.2.1 / 8 % 128) (w.2.1 % 8) v (fun h1 => nx L r h1)
        | false => False) hw0
      clear hw0
      have hw0 := hw
      clear hw
      obtain ⟨hb1, hw⟩ := z_invB hw0
      clear hw0
      have hkd := Nat.eq_of_beq_eq_true hb1
      have hvq : z_vl q := z_vh (z_vt hS)
      by_cases h0 : w.2.1 / 1024 = 0
      · have hck := z_row z_lens.1 z_chkF_ok hq
        unfold z_chkF at hck
        rw [if_pos h0] at hck
        simp only [Bool.and_eq_true, decide_eq_true_eq, Bool.or_eq_true, beq_iff_eq] at hck
        unfold z_put at hw
        rcases hck.2 with h8 | h8 <;> (rw [h8] at hw; exact False.elim hw)
      · obtain ⟨hF, htc⟩ := z_fr_of hq h0
        rw [hk, ← hkd] at hF
        rw [← hkd] at htc
        have h10 : 10 ≤ q.1 := hF.choose_spec.choose_spec.choose_spec.1
        have h23 : q.1 < 23 := hF.choose_spec.choose_spec.choose_spec.2.1
        have hkn : w.2.1 / 8 % 128 < z_nf (q.1 - 10) := by
          obtain ⟨C, T, N, _, _, _, e1, e2, _⟩ := hF
          omega
        have h3 : q.1 ≠ 3 := by omega
        have e10 : q.1 - 10 + 10 = q.1 := by omega
        unfold z_put at hw
        split at hw
        · rename_i e1
          have hz := htc.symm.trans e1
          rw [List.map_cons, List.map_cons, z_cv_r h3]
          refine z_Wput (ty := .int) (h1 := z_uI h q (w.2.1 / 8 % 128) _) hE' ho hP hvq hF hd (fun C T N hc => z_ty_of hc (by rw [e10]; exact hz) hkn (Or.inl rfl)) rfl rfl (by rw [z_fv_i (Or.inl hz)]; show Value.int (if q = q ∧ _ = _ then _ else _) = _; rw [if_pos ⟨rfl, rfl⟩]; rfl) (fun j hj => z_fv_uI hj) (fun q' hq' => z_cell_uI hq') hP.2 (fun H1 locs1 hP1 hS1 => go (hw _ rfl) hlen hS1 hP1 hL (z_vt (z_vt hS)))
        · rename_i e1
          obtain ⟨h01, hw⟩ := hw
          have hz := htc.symm.trans e1
          rw [List.map_cons, List.map_cons, z_cv_r h3]
          refine z_Wput (ty := .boolean) (h1 := z_uI h q (w.2.1 / 8 % 128) _) hE' ho hP hvq hF hd (fun C T N hc => z_ty_of hc (by rw [e10]; exact hz) hkn (Or.inr (Or.inl rfl))) (by rcases h01 with h | h <;> (subst h; rfl)) (by rcases h01 with h | h <;> (subst h; rfl)) (by rw [z_fv_i (Or.inr hz)]; show Value.int (if q = q ∧ _ = _ then _ else _) = _; rw [if_pos ⟨rfl, rfl⟩]; rfl) (fun j hj => z_fv_uI hj) (fun q' hq' => z_cell_uI hq') hP.2 (fun H1 locs1 hP1 hS1 => go (hw _ rfl) hlen hS1 hP1 hL (z_vt (z_vt hS)))
        · rename_i e1
          have hz := htc.symm.trans e1
          rw [List.map_cons, List.map_cons, z_cv_r h3]
          refine z_Wput (ty := .long) (h1 := z_uL h q (w.2.1 / 8 % 128) _) hE' ho hP hvq hF hd (fun C T N hc => z_ty_of hc (by rw [e10]; exact hz) hkn (Or.inr (Or.inr rfl))) rfl rfl (by rw [z_fv_l hz]; show Value.long (if q = q ∧ _ = _ then _ else _) = _; rw [if_pos ⟨rfl, rfl⟩]; rfl) (fun j hj => z_fv_uL hj) (fun q' hq' => z_cell_uL hq') hP.2 (fun H1 locs1 hP1 hS1 => go (hw _ rfl) hlen hS1 hP1 hL (z_vt (z_vt hS)))
        · rename_i rr e1
          obtain ⟨hb2, hw⟩ := z_invB hw
          have hz := htc.symm.trans e1
          have hvr : z_vl rr := z_vh hS
          have hr3 : rr.1 ≠ 3 := by
            rw [Nat.eq_of_beq_eq_true hb2]
            exact z_mk_ne
          obtain ⟨nm, hnm⟩ := z_ty_m (q := q) (k := w.2.1 / 8 % 128) h10 h23 hkn hz
          rw [List.map_cons, List.map_cons, z_cv_r h3, z_cv_r hr3]
          refine z_Wput (ty := .object nm) (h1 := z_uR h q (w.2.1 / 8 % 128) rr) hE' ho hP hvq hF hd hnm rfl rfl (by rw [z_fv_m hz]; show va_rf ((if q = q ∧ _ = _ then some rr else _).map cx.2.1) = _; rw [if_pos ⟨rfl, rfl⟩]; rfl) (fun j hj => z_fv_uR hj) (fun q' hq' => z_cell_uR hq') (z_uR_ok ⟨hvr, hr3⟩ hP.2) (fun H1 locs1 hP1 hS1 => go (hw _ rfl) hlen hS1 hP1 hL (z_vt (z_vt hS)))
        · exact False.elim hw
  case getstatic k =>
    cases Nat.eq_of_beq_eq_true hl
    dsimp only [z_lk] at hw
    cases hf : (z_gls.getD (z_m y).2.2.2.2.1.1 []).find? (fun q => q.1 == k) with
    | none => rw [hf] at hw; exact False.elim hw
    | some w =>
      rw [hf] at hw
      obtain ⟨hq, hk⟩ := z_find_mem hf
      have hk := eq_of_beq hk
      have hck := z_row z_lens.2.2.2.2.2 z_chkG_ok hq
      unfold z_chkG at hck
      dsimp only [z_ins] at hw
      split at hw
      · rename_i e1
        rw [e1] at hck
        have h1 := of_decide_eq_true hck
        rw [hk] at h1
        exact va_gets hx hb hC.2.1 hSs hown (hts _ (zTG_of h1 rfl)) (fun x hx => hx) hd (go (st' := .inl 1 :: st) hw hlen hSs hP hL (z_vc trivial hS))
      · rename_i e1
        rw [e1] at hck
        have h1 := of_decide_eq_true hck
        rw [hk] at h1
        exact va_gets hx hb hC.2.2.1 hSs hown (hts _ (zTG_of h1 rfl)) (fun x hx => hx) hd (go (st' := .inr (.inr (3, 0, 0)) :: st) hw hlen hSs hP hL (z_vc z_vl_c3 hS))
      · rename_i e1
        rw [e1] at hck
        have h1 := of_decide_eq_true hck
        rw [hk] at h1
        exact va_gets hx hb hC.2.2.2.1 hSs hown (hts _ (zTG_of h1 rfl)) (fun x hx => hx) hd (go (st' := .inr (.inr (2, 0, 0)) :: st) hw hlen hSs hP hL (z_vc (z_vl_c2 (by decide)) hS))
      · rename_i e1
        rw [e1] at hck
        have h1 := of_decide_eq_true hck
        rw [hk] at h1
        have h9 := hown
        rw [h1.1] at h9
        have h216 := h1.2
        subst h216
        exact va_getsN hx hb hC.2.2.2.2.1 hSs h9 (va_Nw.use rfl hC.2.2.2.2.2.2.2.1) (fun x hx => hx) hd (go (st' := .inr (.inr (2, 1, 0)) :: st) hw hlen hSs hP hL (z_vc (z_vl_c2 (by decide)) hS))
      · exact False.elim hw
  case iaload =>
    cases Nat.eq_of_beq_eq_true hl
    have hw0 := hw
    clear hw
    obtain ⟨x, q, r, rfl, hw⟩ := z_invIR (P := fun x q r => match z_at q.1 with
      | 0 => vp_in x (z_ln q) ∧ nx L (.inl (h.1 q x.toNatClampNeg) :: r) h
      | 9 => vp_in x (z_ln q) ∧ nx L (.inl ((z_ci.getD q.2.1 []).getD x.toNatClampNeg 0) :: r) h
      | _ => False) hw0
    clear hw0
    have hvq : z_vl q := z_vh (z_vt hS)
    split at hw
    · rename_i ha
      obtain ⟨hin, hw⟩ := hw
      have h23 := (z_at_fact ha (by omega)).1
      rw [List.map_cons, List.map_cons, z_cv_r (by omega)]
      exact z_Waldi hE' hP hvq ha hin hd (go (st' := .inl _ :: r) hw hlen hSs hP hL (z_vc trivial (z_vt (z_vt hS))))
    · rename_i ha
      obtain ⟨hin, hw⟩ := hw
      have h2 := z_at_9 ha
      obtain ⟨i0, hi0, rfl⟩ := z_vl_2 hvq h2
      rw [List.map_cons, List.map_cons, z_cv_r (show (_ : Nat) ≠ 3 by intro z; cases z)]
      obtain ⟨cell, g1, g2, g3, g4, g5, g6⟩ := z_WT hE' (hC.2.2.2.2.2.1 i0 hi0)
      have hlt : x.toNatClampNeg < z_ln (2, i0, 0) := Nat.not_le.mp fun z => hin (Or.inr z)
      exact W.iald (v := .int ((z_ci.getD i0 []).getD x.toNatClampNeg 0)) hx hb g1 g2 g3 (fun z => hin (z.imp id (fun z => Nat.le_trans g4 z))) (g6 _ hlt) rfl rfl hd (go (st' := .inl _ :: r) hw hlen hSs hP hL (z_vc trivial (z_vt (z_vt hS))))
    · exact False.elim hw
  case baload =>
    cases Nat.eq_of_beq_eq_true hl
    have hw0 := hw
    clear hw
    obtain ⟨x, q, r, rfl, hw⟩ := z_invIR (P := fun x q r => match z_at q.1 with
      | 2 => vp_in x (z_ln q) ∧ nx L (.inl (h.1 q x.toNatClampNeg) :: r) h
      | 3 => vp_in x (z_ln q) ∧ nx L (.inl (h.1 q x.toNatClampNeg) :: r) h
      | 8 => vp_in x (z_ln q) ∧ nx L (.inl ((z_sb.getD q.2.1 []).getD x.toNatClampNeg 0) :: r) h
      | _ => False) hw0
    clear hw0
    have hvq : z_vl q := z_vh (z_vt hS)
    split at hw
    · rename_i ha
      obtain ⟨hin, hw⟩ := hw
      have h23 := (z_at_fact ha (by omega)).1
      rw [List.map_cons, List.map_cons, z_cv_r (by omega)]
      exact z_Waldb hE' hP hvq ha hin hd (go (st' := .inl _ :: r) hw hlen hSs hP hL (z_vc trivial (z_vt (z_vt hS))))
    · rename_i ha
      obtain ⟨hin, hw⟩ := hw
      have h23 := (z_at_fact ha (by omega)).1
      rw [List.map_cons, List.map_cons, z_cv_r (by omega)]
      exact z_Waldz hE' hP hvq ha hin hd (go (st' := .inl _ :: r) hw hlen hSs hP hL (z_vc trivial (z_vt (z_vt hS))))
    · rename_i ha
      obtain ⟨hin, hw⟩ := hw
      have h2 := z_at_8 ha
      obtain ⟨i0, hi0, rfl⟩ := z_vl_1 hvq h2
      rw [List.map_cons, List.map_cons, z_cv_r (show (_ : Nat) ≠ 3 by intro z; cases z)]
      obtain ⟨cell, g1, g2, g3, g4, g5, g6⟩ := z_WT hE' (hC.1.1 i0 hi0).2.2.2
      rw [z_sbl hi0] at g4 g6
      have hlt : x.toNatClampNeg < z_ln (1, i0, 0) := Nat.not_le.mp fun z => hin (Or.inr z)
      exact W.bald (v := .int ((z_sb.getD i0 []).getD x.toNatClampNeg 0)) hx hb g1 g2 g3 (fun z => hin (z.imp id (fun z => Nat.le_trans g4 z))) (g6 _ hlt) rfl rfl hd (go (st' := .inl _ :: r) hw hlen hSs hP hL (z_vc trivial (z_vt (z_vt hS))))
    · exact False.elim hw
  case laload =>
    cases Nat.eq_of_beq_eq_true hl
    have hw0 := hw
    clear hw
    obtain ⟨x, q, r, rfl, hw⟩ := z_invIR (P := fun x q r => match z_at q.1 with
      | 1 => vp_in x (z_ln q) ∧ nx L (.inr (.inl (h.2.1 q x.toNatClampNeg)) :: r) h
      | _ => False) hw0
    clear hw0
    have hvq : z_vl q := z_vh (z_vt hS)
    split at hw
    · rename_i ha
      obtain ⟨hin, hw⟩ := hw
      have h23 := (z_at_fact ha (by omega)).1
      rw [List.map_cons, List.map_cons, z_cv_r (by omega)]
      exact z_Waldl hE' hP hvq ha hin hd (go (st' := .inr (.inl _) :: r) hw hlen hSs hP hL (z_vc trivial (z_vt (z_vt hS))))
    · exact False.elim hw
  case aaload =>
    cases Nat.eq_of_beq_eq_true hl
    have hw0 := hw
    clear hw
    obtain ⟨x, q, r, rfl, hw⟩ := z_invIR (P := fun x q r => match z_at q.1 with
      | 4 => vp_in x (z_ln q) ∧ nx L (.inr (.inr (z_el q x.toNatClampNeg)) :: r) h
      | 5 => vp_in x (z_ln q) ∧ ∃ i j : Nat, h.2.2 q x.toNatClampNeg = some (14, i, j) ∧ nx L (.inr (.inr (14, i, j)) :: r) h
      | _ => False) hw0
    clear hw0
    have hvq : z_vl q := z_vh (z_vt hS)
    split at hw
    · rename_i ha
      obtain ⟨hin, hw⟩ := hw
      have h23 := (z_at_fact ha (by omega)).1
      have hlt : x.toNatClampNeg < z_ln q := Nat.not_le.mp fun z => hin (Or.inr z)
      have hve := z_vl_el hvq ha hlt
      rw [List.map_cons, List.map_cons, z_cv_r (by omega)]
      refine z_Walda hE' hP hvq ha hin hd ?_
      rw [← z_cv_r (cx := cx) (q := z_el q x.toNatClampNeg) (by omega)]
      exact go (st' := .inr (.inr _) :: r) hw hlen hSs hP hL (z_vc hve.1 (z_vt (z_vt hS)))
    · rename_i ha
      obtain ⟨hin, i, j, hm, hw⟩ := hw
      have h23 := (z_at_fact ha (by omega)).1
      have hvm := hP.2 _ _ _ hm
      rw [List.map_cons, List.map_cons, z_cv_r (by omega)]
      refine z_Waldm hE' hP hvq ha hin hm hd ?_
      rw [← z_cv_r (cx := cx) hvm.2]
      exact go (st' := .inr (.inr _) :: r) hw hlen hSs hP hL (z_vc hvm.1 (z_vt (z_vt hS)))
    · exact False.elim hw
  case iastore =>
    cases Nat.eq_of_beq_eq_true hl
    have hw0 := hw
    clear hw
    obtain ⟨v, x, q, r, rfl, hw⟩ := z_invIIR (P := fun v x q r => match z_at q.1 with
      | 0 => vp_in x (z_ln q) ∧ ∀ h1, h1 = z_uI h q x.toNatClampNeg v → nx L r h1
      | _ => False) hw0
    clear hw0
    have hvq : z_vl q := z_vh (z_vt (z_vt hS))
    split at hw
    · rename_i ha
      obtain ⟨hin, hw⟩ := hw
      have h23 := (z_at_fact ha (by omega)).1
      rw [List.map_cons, List.map_cons, List.map_cons, z_cv_r (by omega)]
      exact z_Wasti hE' hP hvq ha hin hd (fun H1 locs1 hP1 hS1 => go (hw _ rfl) hlen hS1 hP1 hL (z_vt (z_vt (z_vt hS))))
    · exact False.elim hw
  case bastore =>
    cases Nat.eq_of_beq_eq_true hl
    have hw0 := hw
    clear hw
    obtain ⟨v, x, q, r, rfl, hw⟩ := z_invIIR (P := fun v x q r => match z_at q.1 with
      | 2 => vp_in x (z_ln q) ∧ ∀ h1, h1 = z_uI h q x.toNatClampNeg (vp_nar .byte v) → nx L r h1
      | 3 => vp_in x (z_ln q) ∧ ∀ h1, h1 = z_uI h q x.toNatClampNeg (vp_nar .boolean v) → nx L r h1
      | _ => False) hw0
    clear hw0
    have hvq : z_vl q := z_vh (z_vt (z_vt hS))
    split at hw
    · rename_i ha
      obtain ⟨hin, hw⟩ := hw
      have h23 := (z_at_fact ha (by omega)).1
      rw [List.map_cons, List.map_cons, List.map_cons, z_cv_r (by omega)]
      exact z_Wastb hE' hP hvq ha hin hd (fun H1 locs1 hP1 hS1 => go (hw _ rfl) hlen hS1 hP1 hL (z_vt (z_vt (z_vt hS))))
    · rename_i ha
      obtain ⟨hin, hw⟩ := hw
      have h23 := (z_at_fact ha (by omega)).1
      rw [List.map_cons, List.map_cons, List.map_cons, z_cv_r (by omega)]
      exact z_Wastz hE' hP hvq ha hin hd (fun H1 locs1 hP1 hS1 => go (hw _ rfl) hlen hS1 hP1 hL (z_vt (z_vt (z_vt hS))))
    · exact False.elim hw
  case lastore =>
    cases Nat.eq_of_beq_eq_true hl
    have hw0 := hw
    clear hw
    obtain ⟨v, x, q, r, rfl, hw⟩ := z_invLIR (P := fun v x q r => match z_at q.1 with
      | 1 => vp_in x (z_ln q) ∧ ∀ h1, h1 = z_uL h q x.toNatClampNeg v → nx L r h1
      | _ => False) hw0
    clear hw0
    have hvq : z_vl q := z_vh (z_vt (z_vt hS))
    split at hw
    · rename_i ha
      obtain ⟨hin, hw⟩ := hw
      have h23 := (z_at_fact ha (by omega)).1
      rw [List.map_cons, List.map_cons, List.map_cons, z_cv_r (by omega)]
      exact z_Wastl hE' hP hvq ha hin hd (fun H1 locs1 hP1 hS1 => go (hw _ rfl) hlen hS1 hP1 hL (z_vt (z_vt (z_vt hS))))
    · exact False.elim hw
  case aastore =>
    cases Nat.eq_of_beq_eq_true hl
    have hw0 := hw
    clear hw
    obtain ⟨v, x, q, r, rfl, hw⟩ := z_invRIR (P := fun v x q r => match z_at q.1 with
      | 5 => (match Nat.beq v.1 14 with
        | true => vp_in x (z_ln q) ∧ ∀ h1, h1 = z_uR h q x.toNatClampNeg v → nx L r h1
        | false => False)
      | _ => False) hw0
    clear hw0
    have hvq : z_vl q := z_vh (z_vt (z_vt hS))
    have hvv : z_vl v := z_vh hS
    split at hw
    · rename_i ha
      obtain ⟨hb2, hin, hw⟩ := z_invB hw
      have h14 := Nat.eq_of_beq_eq_true hb2
      have h23 := (z_at_fact ha (by omega)).1
      rw [List.map_cons, List.map_cons, List.map_cons, z_cv_r (by omega), z_cv_r (by omega)]
      exact z_Wasta hE' hP hvq hvv h14 ha hin hd (fun H1 locs1 hP1 hS1 => go (hw _ rfl) hlen hS1 hP1 hL (z_vt (z_vt (z_vt hS))))
    · exact False.elim hw
  case arraylength =>
    cases Nat.eq_of_beq_eq_true hl
    have hw0 := hw
    clear hw
    obtain ⟨q, r, rfl, hw⟩ := z_invR (P := fun q r => match Nat.ble (z_at q.1) 9 with
      | true => nx L (.inl (Int32.ofNat (z_ln q)) :: r) h
      | false => False) hw0
    clear hw0
    obtain ⟨hb2, hw⟩ := z_invB hw
    have h9 := Nat.le_of_ble_eq_true hb2
    have hvq : z_vl q := z_vh hS
    rcases Nat.lt_or_ge 5 (z_at q.1) with h5 | h5
    · rcases z_at_89 h9 h5 with ha | ha
      · obtain ⟨i0, hi0, rfl⟩ := z_vl_1 hvq (z_at_8 ha)
        rw [List.map_cons, z_cv_r (show (_ : Nat) ≠ 3 by intro z; cases z)]
        obtain ⟨cell, g1, g2, g3, g4, g5, g6⟩ := z_WT hE' (hC.1.1 i0 hi0).2.2.2
        rw [z_sbl hi0] at g5
        exact W.alen (n := Int32.ofNat (z_ln (1, i0, 0))) hx hb g1 g2 g5 rfl rfl hd (go (st' := .inl _ :: r) hw hlen hSs hP hL (z_vc trivial (z_vt hS)))
      · obtain ⟨i0, hi0, rfl⟩ := z_vl_2 hvq (z_at_9 ha)
        rw [List.map_cons, z_cv_r (show (_ : Nat) ≠ 3 by intro z; cases z)]
        obtain ⟨cell, g1, g2, g3, g4, g5, g6⟩ := z_WT hE' (hC.2.2.2.2.2.1 i0 hi0)
        exact W.alen (n := Int32.ofNat (z_ln (2, i0, 0))) hx hb g1 g2 g5 rfl rfl hd (go (st' := .inl _ :: r) hw hlen hSs hP hL (z_vc trivial (z_vt hS)))
    · have h23 := (z_at_fact rfl h5).1
      rw [List.map_cons, z_cv_r (by omega)]
      exact z_Walen hE' hP hvq rfl h5 hd (go (st' := .inl _ :: r) hw hlen hSs hP hL (z_vc trivial (z_vt hS)))
  case ireturn =>
    cases Nat.eq_of_beq_eq_true hl
    dsimp only [z_lk] at hw
    split at hw
    · rename_i e1
      have hw0 := hw
      clear hw
      obtain ⟨x, rfl, hw⟩ := z_invSi (P := fun x => Q (some (.inl x)) h) hw0
      clear hw0
      exact W.iret hx hb (hrt.trans e1) (fun t ht hW => ⟨⟨some (.inl x), h, rfl, z_W.go hP hK hC hD hSs ht hW, fun v e => by cases e; trivial, hw⟩, hSs.F ht⟩) (fun q hq => hSs.2.2 q hq) hd
    · rename_i e1
      have hw0 := hw
      clear hw
      obtain ⟨x, rfl, h01, hw⟩ := z_invSi (P := fun x => (x = 0 ∨ x = 1) ∧ Q (some (.inl x)) h) hw0
      clear hw0
      exact W.zret hx hb (hrt.trans e1) (by rcases h01 with h | h <;> (subst h; rfl)) (fun t ht hW => ⟨⟨some (.inl x), h, rfl, z_W.go hP hK hC hD hSs ht hW, fun v e => by cases e; trivial, hw⟩, hSs.F ht⟩) (fun q hq => hSs.2.2 q hq) hd
    · rename_i e1
      have hw0 := hw
      clear hw
      obtain ⟨x, rfl, hn, hw⟩ := z_invSi (P := fun x => narrow .byte (.int x) = .int x ∧ Q (some (.inl x)) h) hw0
      clear hw0
      exact W.zret hx hb (hrt.trans e1) hn (fun t ht hW => ⟨⟨some (.inl x), h, rfl, z_W.go hP hK hC hD hSs ht hW, fun v e => by cases e; trivial, hw⟩, hSs.F ht⟩) (fun q hq => hSs.2.2 q hq) hd
    · rename_i e1
      have hw0 := hw
      clear hw
      obtain ⟨x, rfl, hn, hw⟩ := z_invSi (P := fun x => narrow .char (.int x) = .int x ∧ Q (some (.inl x)) h) hw0
      clear hw0
      exact W.zret hx hb (hrt.trans e1) hn (fun t ht hW => ⟨⟨some (.inl x), h, rfl, z_W.go hP hK hC hD hSs ht hW, fun v e => by cases e; trivial, hw⟩, hSs.F ht⟩) (fun q hq => hSs.2.2 q hq) hd
    · exact False.elim hw
  case lreturn =>
    cases Nat.eq_of_beq_eq_true hl
    have hw0 := hw
    clear hw
    obtain ⟨x, rfl, hw⟩ := z_invSl (P := fun x => Q (some (.inr (.inl x))) h) hw0
    clear hw0
    exact W.lret hx hb (hrt.trans (z_ret_l hr)) (fun t ht hW => ⟨⟨some (.inr (.inl x)), h, rfl, z_W.go hP hK hC hD hSs ht hW, fun v e => by cases e; trivial, hw⟩, hSs.F ht⟩) (fun q hq => hSs.2.2 q hq) hd
  case areturn =>
    cases Nat.eq_of_beq_eq_true hl
    have hw0 := hw
    clear hw
    obtain ⟨q, rfl, hw⟩ := z_invSa (P := fun q => match Nat.beq q.1 3 with
      | false => Q (some (.inr (.inr q))) h
      | true => False) hw0
    clear hw0
    have hvq : z_vl q := z_vh hS
    split at hw
    · rename_i hb3
      have h3 : q.1 ≠ 3 := fun z => by rw [z] at hb3; cases hb3
      obtain ⟨nm, hnm⟩ := z_ret_a hr
      rw [List.map_cons, z_cv_r h3]
      exact W.aret hx hb (hrt.trans hnm) (Or.inl ⟨nm, rfl⟩) (Or.inr ⟨_, rfl⟩) (fun t ht hW => ⟨⟨some (.inr (.inr q)), h, by rw [Option.map_some, z_cv_r h3], z_W.go hP hK hC hD hSs ht hW, fun v e => by cases e; exact hvq, hw⟩, hSs.F ht⟩) (fun q hq => hSs.2.2 q hq) hd
    · exact False.elim hw
  case return_ =>
    cases Nat.eq_of_beq_eq_true hl
    match st, hw with
    | [], hw => exact W.vret hx hb (hrt.trans (z_ret_v hr)) (fun t ht hW => ⟨⟨none, h, rfl, z_W.go hP hK hC hD hSs ht hW, fun v e => (by cases e), hw⟩, hSs.F ht⟩) (fun q hq => hSs.2.2 q hq) hd
    | _ :: _, hw => exact False.elim hw
  case invokevirtual k =>
    cases Nat.eq_of_beq_eq_true hl
    dsimp only [z_lk] at hw hr
    cases hf : (z_mls.getD (z_m y).2.2.2.2.1.1 []).find? (fun q => q.1 == k) with
    | none => rw [hf] at hw; exact False.elim hw
    | some w =>
      rw [hf] at hw hr
      obtain ⟨hq, hk⟩ := z_find_mem hf
      have hk := eq_of_beq hk
      have hck := z_row z_lens.2.1 z_chkL_ok hq
      unfold z_chkL at hck
      simp only [Bool.and_eq_true] at hck
      by_cases hm : w.2.2.1 = 0
      · dsimp only at hw hr
        rw [if_pos hm] at hw hr
        obtain ⟨hy2, hck⟩ := hck
        have hy2 := Nat.blt_eq.mp hy2
        rw [hm] at hck
        simp only [Bool.and_eq_true, Bool.not_eq_true', decide_eq_true_eq] at hck
        obtain ⟨hns, hlink⟩ := hck
        rw [hk] at hlink
        simp only [z_okr, Bool.and_true, Bool.and_eq_true] at hr
        have hfr := Nat.le_of_ble_eq_true hr.1.2
        have hlo := Nat.le_of_ble_eq_true hr.2
        obtain ⟨hF1, hF2, -, hF4, -, hF6, hF7, hF8, hF9⟩ := z_mf hy2
        have hen := z_en_v hy2 hns
        obtain ⟨as, r, hpop, hcat, hrc, hcall⟩ := z_invC hw
        obtain ⟨xs, hxl, hst, has⟩ := z_pop_spec _ _ _ _ _ hpop
        rw [List.append_nil] at has
        have hxs : xs = as.reverse := by rw [has, List.reverse_reverse]
        subst hxs
        have hva : ∀ v ∈ as, z_vv v := fun v hv => hS v (by rw [hst]; exact List.mem_append_left _ (List.mem_reverse.mpr hv))
        have hvr : ∀ v ∈ r, z_vv v := fun v hv => hS v (by rw [hst]; exact List.mem_append_right _ hv)
        have hsz : ls.size = (z_m y).2.2.1 := by rw [hL.1.1]; exact hlen
        have hlr : as.length = (z_m w.2.1).2.2.2.2.2.1.2 + 1 := by rw [List.length_reverse] at hxl; rw [hxl]; exact hen.1
        obtain ⟨q, as', rfl, hqk⟩ := z_recv hrc hen.2
        have h3 : q.1 ≠ 3 := by rw [hqk]; exact z_kc_ne
        have hvq : z_vl q := hva _ List.mem_cons_self
        have hrec : ∃ cellB : Cell, H[cx.2.1 q]? = some cellB ∧ cellB.vm.isStatics = false ∧ s.vm.findClass (z_m w.2.1).1.cls = some cellB.cls := by
          rw [← hF9]
          exact z_recvc hE' hP hvq ((z_en_np hy2).2 hns) hqk
        rw [hst, List.map_append, List.map_reverse, List.map_cons, z_cv_r h3, List.reverse_cons, List.append_assoc]
        refine z_callk (Qk := _) (va_runV (C := (z_m w.2.1).1.cls) (As := as'.map (z_cv cx)) (rest := r.map (z_cv cx)) (b := cx.2.1 q) (Ts := zTG) (own := z_cn (z_m y).2.2.2.2.1.1) (n := (z_m w.2.1).2.2.2.2.2.1.2) ⟨hx, hb, hml, hown, hts⟩ (hcall hva cx l) ⟨callB_of _ hts (z_ws_in hy2) rfl rfl rfl (hts _ hF2) (hts _ (zTG_of hlink rfl)) ⟨hF6, hF7, hF8⟩ ⟨hfr, hlo⟩, hts _ (hF4 hns).1, hts _ (hF4 hns).2⟩ ⟨z_W.blind, hrec, fun U hU hW => ⟨by rw [List.map_cons, z_cv_r h3], z_W.go hP hK hC hD hSs hU hW⟩⟩ rfl (by rw [List.length_map]; simp at hlr; omega) hsz rfl (lv_room (by rw [z_cat_spec]; exact hcat)) hd ⟨Nat.le_refl _, Nat.le_refl _⟩) hSs (fun rr hh H1 locs1 hP1 hv1 hq1 hS1 => ?_)
        have e1 : (rr.map (z_cv cx)).toList ++ r.map (z_cv cx) = (rr.toList ++ r).map (z_cv cx) := by cases rr <;> rfl
        rw [e1]
        exact gc hq1 hlen hS1 hP1 hL (z_vo hv1 hvr)
      · dsimp only at hw
        rw [if_neg hm] at hw
        exact False.elim hw
  case invokestatic k =>
    cases Nat.eq_of_beq_eq_true hl
    dsimp only [z_lk] at hw hr
    cases hf : (z_mls.getD (z_m y).2.2.2.2.1.1 []).find? (fun q => q.1 == k) with
    | none => rw [hf] at hw; exact False.elim hw
    | some w =>
      rw [hf] at hw hr
      obtain ⟨hq, hk⟩ := z_find_mem hf
      have hk := eq_of_beq hk
      have hck := z_row z_lens.2.1 z_chkL_ok hq
      unfold z_chkL at hck
      simp only [Bool.and_eq_true] at hck
      obtain ⟨hy2, hck⟩ := hck
      have hy2 := Nat.blt_eq.mp hy2
      dsimp only at hw hr
      split at hw
      · rename_i hm
        rw [hm] at hck hr
        simp only [Bool.and_eq_true, decide_eq_true_eq] at hck
        obtain ⟨hns, hlink⟩ := hck
        rw [hk] at hlink
        simp only [z_okr, Bool.and_true, Bool.and_eq_true] at hr
        have hfr := Nat.le_of_ble_eq_true hr.1.2
        have hlo := Nat.le_of_ble_eq_true hr.2
        obtain ⟨hF1, hF2, hF3, -, -, hF6, hF7, hF8, hF9⟩ := z_mf hy2
        have hen := z_en_s hy2 hns
        obtain ⟨as, r, hpop, hcat, hrc, hcall⟩ := z_invC hw
        obtain ⟨xs, hxl, hst, has⟩ := z_pop_spec _ _ _ _ _ hpop
        rw [List.append_nil] at has
        have hxs : xs = as.reverse := by rw [has, List.reverse_reverse]
        subst hxs
        have hva : ∀ v ∈ as, z_vv v := fun v hv => hS v (by rw [hst]; exact List.mem_append_left _ (List.mem_reverse.mpr hv))
        have hvr : ∀ v ∈ r, z_vv v := fun v hv => hS v (by rw [hst]; exact List.mem_append_right _ hv)
        have hsz : ls.size = (z_m y).2.2.1 := by rw [hL.1.1]; exact hlen
        have hlr : as.length = (z_m w.2.1).2.2.2.2.2.1.2 := by rw [List.length_reverse] at hxl; rw [hxl]; exact hen.1
        rw [hst, List.map_append, List.map_reverse]
        refine z_callk (Qk := _) (va_runS (As := as.map (z_cv cx)) (rest := r.map (z_cv cx)) (Ts := zTG) (own := z_cn (z_m y).2.2.2.2.1.1) (n := (z_m w.2.1).2.2.2.2.2.1.2) ⟨hx, hb, hml, hown, hts⟩ (hcall hva cx l) ⟨callB_of _ hts (z_ws_in hy2) rfl rfl rfl (hts _ hF2) (hts _ (zTG_of hlink rfl)) ⟨hF6, hF7, hF8⟩ ⟨hfr, hlo⟩, hts _ (hF3 hns)⟩ ⟨z_W.blind, fun U hU hW => ⟨rfl, z_W.go hP hK hC hD hSs hU hW⟩⟩ rfl (by rw [List.length_map]; exact hlr) hsz rfl (lv_room (by rw [z_cat_spec]; exact hcat)) hd ⟨Nat.le_refl _, Nat.le_refl _⟩) hSs (fun rr hh H1 locs1 hP1 hv1 hq1 hS1 => ?_)
        have e1 : (rr.map (z_cv cx)).toList ++ r.map (z_cv cx) = (rr.toList ++ r).map (z_cv cx) := by cases rr <;> rfl
        rw [e1]
        exact gc hq1 hlen hS1 hP1 hL (z_vo hv1 hvr)
      · rename_i hm
        rw [hm] at hck hr
        have hns : (z_m w.2.1).2.2.2.2.2.1.1 = true := hck
        have hnest := hC.2.2.2.2.2.2.1 _ w hq hm
        rw [hk] at hnest
        simp only [z_okr, Bool.and_true, Bool.and_eq_true] at hr
        have hfr := Nat.le_of_ble_eq_true hr.1.2
        have hlo := Nat.le_of_ble_eq_true hr.2
        obtain ⟨hF1, hF2, hF3, -, -, hF6, hF7, hF8, hF9⟩ := z_mf hy2
        have hen := z_en_s hy2 hns
        obtain ⟨as, r, hpop, hcat, hrc, hcall⟩ := z_invC hw
        obtain ⟨xs, hxl, hst, has⟩ := z_pop_spec _ _ _ _ _ hpop
        rw [List.append_nil] at has
        have hxs : xs = as.reverse := by rw [has, List.reverse_reverse]
        subst hxs
        have hva : ∀ v ∈ as, z_vv v := fun v hv => hS v (by rw [hst]; exact List.mem_append_left _ (List.mem_reverse.mpr hv))
        have hvr : ∀ v ∈ r, z_vv v := fun v hv => hS v (by rw [hst]; exact List.mem_append_right _ hv)
        have hsz : ls.size = (z_m y).2.2.1 := by rw [hL.1.1]; exact hlen
        have hlr : as.length = (z_m w.2.1).2.2.2.2.2.1.2 := by rw [List.length_reverse] at hxl; rw [hxl]; exact hen.1
        rw [hst, List.map_append, List.map_reverse]
        refine z_callk (Qk := _) (va_runSN (As := as.map (z_cv cx)) (rest := r.map (z_cv cx)) (Ts := zTG) (own := z_cn (z_m y).2.2.2.2.1.1) (n := (z_m w.2.1).2.2.2.2.2.1.2) ⟨hx, hb, hml, hown, hts⟩ (hcall hva cx l) ⟨va_cnB _ hts (z_ws_in hy2) rfl rfl rfl hnest (hts _ hF2) ⟨hF6, hF7, hF8⟩ ⟨hfr, hlo⟩, hts _ (hF3 hns), trivial⟩ ⟨z_W.blind, fun U hU hW => ⟨rfl, z_W.go hP hK hC hD hSs hU hW⟩⟩ rfl (by rw [List.length_map]; exact hlr) hsz rfl (lv_room (by rw [z_cat_spec]; exact hcat)) hd ⟨Nat.le_refl _, Nat.le_refl _⟩) hSs (fun rr hh H1 locs1 hP1 hv1 hq1 hS1 => ?_)
        have e1 : (rr.map (z_cv cx)).toList ++ r.map (z_cv cx) = (rr.toList ++ r).map (z_cv cx) := by cases rr <;> rfl
        rw [e1]
        exact gc hq1 hlen hS1 hP1 hL (z_vo hv1 hvr)
      · rename_i hm
        rw [hm] at hck hr
        have hlink := of_decide_eq_true hck
        rw [hk] at hlink
        simp only [z_okr, Bool.and_true, Bool.and_eq_true] at hr
        have hlo := Nat.le_of_ble_eq_true hr.1
        have hfr := Nat.le_of_ble_eq_true hr.2
        have hw0 := hw
        clear hw
        obtain ⟨b, a, r, rfl, hw⟩ := z_invII (P := fun y x r => match Nat.ble (z_cat r) 8 with
          | true => nx L (.inl (if x < y then y else x) :: r) h
          | false => False) hw0
        clear hw0
        obtain ⟨hc8, hw⟩ := z_invB hw
        have hc8 := Nat.le_of_ble_eq_true hc8
        exact va_mmax hx hb (by rw [hml, hL.1.1]; exact hlen.symm) hown (hts _ (zTG_of hlink rfl)) (hts _ (zTG_of z_math_ok.2.1 rfl)) (hts _ (zTG_of z_math_ok.1 rfl)) (hts _ (zTG_of z_math_ok.2.2.1 rfl)) hfr (by rw [z_cat_spec]; show _ ≤ (z_m y).2.2.2.2.1.2.2; omega) (Nat.zero_le _) (Nat.zero_le _) hd (go (st' := .inl _ :: r) hw hlen hSs hP hL (z_vc trivial (z_vt (z_vt hS))))
      · rename_i hm
        rw [hm] at hck hr
        have hlink := of_decide_eq_true hck
        rw [hk] at hlink
        simp only [z_okr, Bool.and_true, Bool.and_eq_true] at hr
        have hlo := Nat.le_of_ble_eq_true hr.1
        have hfr := Nat.le_of_ble_eq_true hr.2
        have hw0 := hw
        clear hw
        obtain ⟨b, a, r, rfl, hw⟩ := z_invII (P := fun y x r => match Nat.ble (z_cat r) 8 with
          | true => nx L (.inl (if y < x then y else x) :: r) h
          | false => False) hw0
        clear hw0
        obtain ⟨hc8, hw⟩ := z_invB hw
        have hc8 := Nat.le_of_ble_eq_true hc8
        exact va_mmin hx hb (by rw [hml, hL.1.1]; exact hlen.symm) hown (hts _ (zTG_of hlink rfl)) (hts _ (zTG_of z_math_ok.2.2.2.1 rfl)) (hts _ (zTG_of z_math_ok.1 rfl)) (hts _ (zTG_of z_math_ok.2.2.2.2 rfl)) hfr (by rw [z_cat_spec]; show _ ≤ (z_m y).2.2.2.2.1.2.2; omega) (Nat.zero_le _) (Nat.zero_le _) hd (go (st' := .inl _ :: r) hw hlen hSs hP hL (z_vc trivial (z_vt (z_vt hS))))
      · exact False.elim hw
end
section
theorem zAt.mask {y pc : Nat} {L : zL} {st : List zV} {h : zH} {Q : Option zV → zH → Prop} {m : List Bool} (hm : m.length = (z_m y).2.2.1) (k : zAt y pc (z_mask m L) st h Q) : zAt y pc L st h Q := by
  intro hlen cx p l e s mm args below meth c H locs ls hE hP hL hS
  have e1 : m.length = L.length := hm.trans hlen.symm
  exact k ((z_mask_len m L e1).trans hlen) cx p l e s mm args below meth c H locs ls hE hP (hL.mask e1) hS
theorem z_find_spec {o y : Nat} {ret : Option FieldType} {b : ByteArray} : ∀ (C : List (Nat × Instr)) (p : Nat), z_okc o ret b C = true → z_okr y C = true → z_okc o ret b (z_find C p) = true ∧ z_okr y (z_find C p) = true ∧ (z_find C p = [] ∨ ∃ i t, z_find C p = (p, i) :: t)
  | [], p, h1, h2 => ⟨h1, h2, Or.inl rfl⟩
  | (q, i) :: t, p, h1, h2 => by
    cases hb : Nat.beq q p with
    | true =>
      have e : z_find ((q, i) :: t) p = (q, i) :: t := by simp [z_find, hb]
      rw [e]
      have := Nat.eq_of_beq_eq_true hb
      subst this
      exact ⟨h1, h2, Or.inr ⟨i, t, rfl⟩⟩
    | false =>
      have e : z_find ((q, i) :: t) p = z_find t p := by simp [z_find, hb]
      rw [e]
      simp only [z_okc, Bool.and_eq_true] at h1
      simp only [z_okr, Bool.and_eq_true] at h2
      exact z_find_spec t p h1.2 h2.2
theorem z_cutAt_mem {m : List Bool} : ∀ {ct : List (Nat × List Bool)} {p : Nat}, z_cutAt ct p = some m → ∃ q ∈ ct, q.2 = m
  | [], p, h => by simp [z_cutAt] at h
  | (q, m') :: t, p, h => by
    cases hb : Nat.beq q p with
    | true =>
      simp [z_cutAt, hb] at h
      exact ⟨_, List.mem_cons_self, h⟩
    | false =>
      simp [z_cutAt, hb] at h
      obtain ⟨x, hx, e⟩ := z_cutAt_mem h
      exact ⟨x, List.mem_cons_of_mem _ hx, e⟩
theorem z_wp_succ {y : Nat} {C : List (Nat × Instr)} {ct : List (Nat × List Bool)} {Q : Option zV → zH → Prop} {n pc : Nat} {i : Instr} {rest : List (Nat × Instr)} {L : zL} {st : List zV} {h : zH} : z_wp y C ct Q (n + 1) ((pc, i) :: rest) L st h = z_ins i
      (fun L st h => match rest with
        | [] => False
        | (p, _) :: _ => (match z_cutAt ct p with
          | some m => zAt y p (z_mask m L) st h Q
          | none => z_wp y C ct Q n rest L st h))
      (fun L st h => match rest with
        | [] => False
        | (p, _) :: _ => (match z_cutAt ct p with
          | some m => zAt y p (z_mask m L) st h Q
          | none => zAt y p L st h Q))
      (fun p L st h => match z_cutAt ct p with
        | some m => zAt y p (z_mask m L) st h Q
        | none => z_wp y C ct Q n (z_find C p) L st h) Q L st h := rfl
theorem z_wp_sound {y : Nat} (hy : y < 247) {C : List (Nat × Instr)} {ct : List (Nat × List Bool)} {Q : Option zV → zH → Prop} (hC : z_okc (z_m y).2.2.2.2.1.1 (z_m y).2.2.2.1 (z_m y).2.1 C = true) (hR : z_okr y C = true) (hct : ct.all (fun q => Nat.beq q.2.length (z_m y).2.2.1) = true) :
    ∀ (n : Nat) (pc : Nat) (i : Instr) (rest : List (Nat × Instr)) (L : zL) (st : List zV) (h : zH), z_okc (z_m y).2.2.2.2.1.1 (z_m y).2.2.2.1 (z_m y).2.1 ((pc, i) :: rest) = true → z_okr y ((pc, i) :: rest) = true → z_wp y C ct Q n ((pc, i) :: rest) L st h → zAt y pc L st h Q := by
  have hcut : ∀ {p : Nat} {m : List Bool}, z_cutAt ct p = some m → m.length = (z_m y).2.2.1 := by
    intro p m e
    obtain ⟨q, hq, e2⟩ := z_cutAt_mem e
    rw [← e2]
    exact Nat.eq_of_beq_eq_true (List.all_eq_true.mp hct q hq)
  intro n
  induction n with
  | zero => intro pc i rest L st h _ _ hw; exact False.elim hw
  | succ n ih =>
    intro pc i rest L st h h1 h2 hw
    rw [z_wp_succ] at hw
    have h1' := h1
    simp only [z_okc, Bool.and_eq_true] at h1
    obtain ⟨h3, h4⟩ := h1
    have h2' := h2
    simp only [z_okr, Bool.and_eq_true] at h2
    have h5 : z_okr y [(pc, i)] = true := by
      simp only [z_okr, Bool.and_eq_true]
      exact ⟨h2.1, trivial⟩
    cases hd : decode (z_m y).2.1 pc with
    | error e => rw [hd] at h3; cases h3
    | ok rl =>
      obtain ⟨r, len⟩ := rl
      rw [hd] at h3
      simp only [Bool.and_eq_true, decide_eq_true_eq] at h3
      obtain ⟨⟨hl, hlk⟩, hnext⟩ := h3
      subst hlk
      refine z_step hy hd hl h5 ?_ ?_ ?_ hw
      · intro L1 st1 hh hn
        cases rest with
        | nil => exact False.elim hn
        | cons q t =>
          obtain ⟨p, i2⟩ := q
          have hp := Nat.eq_of_beq_eq_true hnext
          subst hp
          dsimp only at hn
          cases hc : z_cutAt ct (pc + len) with
          | some m => rw [hc] at hn; exact zAt.mask (hcut hc) hn
          | none => rw [hc] at hn; exact ih _ _ _ _ _ _ h4 h2.2 hn
      · intro L1 st1 hh hn
        cases rest with
        | nil => exact False.elim hn
        | cons q t =>
          obtain ⟨p, i2⟩ := q
          have hp := Nat.eq_of_beq_eq_true hnext
          subst hp
          dsimp only at hn
          cases hc : z_cutAt ct (pc + len) with
          | some m => rw [hc] at hn; exact zAt.mask (hcut hc) hn
          | none => rw [hc] at hn; exact hn
      · intro p L1 st1 hh hn
        cases hc : z_cutAt ct p with
        | some m => rw [hc] at hn; exact zAt.mask (hcut hc) hn
        | none =>
          rw [hc] at hn
          obtain ⟨g1, g2, g3⟩ := z_find_spec C p hC hR
          rcases g3 with g3 | ⟨i2, t, g3⟩
          · rw [g3] at hn
            cases n with
            | zero => exact False.elim hn
            | succ n => exact False.elim hn
          · rw [g3] at hn g1 g2
            exact ih _ _ _ _ _ _ g1 g2 hn
/-- a segment: what its formula says, from a place on -/
theorem z_seg {y : Nat} (hy : y < 247) {C : List (Nat × Instr)} {ct : List (Nat × List Bool)} {Q : Option zV → zH → Prop} (hC : z_okc (z_m y).2.2.2.2.1.1 (z_m y).2.2.2.1 (z_m y).2.1 C = true) (hR : z_okr y C = true) (hct : ct.all (fun q => Nat.beq q.2.length (z_m y).2.2.1) = true)
    {n pc : Nat} {L : zL} {st : List zV} {h : zH} (hw : z_wp y C ct Q n (z_find C pc) L st h) : zAt y pc L st h Q := by
  obtain ⟨g1, g2, g3⟩ := z_find_spec C pc hC hR
  rcases g3 with g3 | ⟨i2, t, g3⟩
  · rw [g3] at hw
    cases n with
    | zero => exact False.elim hw
    | succ n => exact False.elim hw
  · rw [g3] at hw g1 g2
    exact z_wp_sound hy hC hR hct n pc i2 t L st h g1 g2 hw
end
section
theorem z_cok_0 : z_okc (z_m 0).2.2.2.2.1.1 (z_m 0).2.2.2.1 (z_m 0).2.1 zc_0 = true := by decide +kernel
theorem z_cok_1 : z_okc (z_m 1).2.2.2.2.1.1 (z_m 1).2.2.2.1 (z_m 1).2.1 zc_1 = true := by decide +kernel
theorem z_cok_2 : z_okc (z_m 2).2.2.2.2.1.1 (z_m 2).2.2.2.1 (z_m 2).2.1 zc_2 = true := by decide +kernel
theorem z_cok_3 : z_okc (z_m 3).2.2.2.2.1.1 (z_m 3).2.2.2.1 (z_m 3).2.1 zc_3 = true := by decide +kernel
theorem z_cok_4 : z_okc (z_m 4).2.2.2.2.1.1 (z_m 4).2.2.2.1 (z_m 4).2.1 zc_4 = true := by decide +kernel
theorem z_cok_5 : z_okc (z_m 5).2.2.2.2.1.1 (z_m 5).2.2.2.1 (z_m 5).2.1 zc_5 = true := by decide +kernel
theorem z_cok_6 : z_okc (z_m 6).2.2.2.2.1.1 (z_m 6).2.2.2.1 (z_m 6).2.1 zc_6 = true := by decide +kernel
theorem z_cok_7 : z_okc (z_m 7).2.2.2.2.1.1 (z_m 7).2.2.2.1 (z_m 7).2.1 zc_7 = true := by decide +kernel
theorem z_cok_8 : z_okc (z_m 8).2.2.2.2.1.1 (z_m 8).2.2.2.1 (z_m 8).2.1 zc_8 = true := by decide +kernel
theorem z_cok_9 : z_okc (z_m 9).2.2.2.2.1.1 (z_m 9).2.2.2.1 (z_m 9).2.1 zc_9 = true := by decide +kernel
theorem z_cok_10 : z_okc (z_m 10).2.2.2.2.1.1 (z_m 10).2.2.2.1 (z_m 10).2.1 zc_10 = true := by decide +kernel
theorem z_cok_11 : z_okc (z_m 11).2.2.2.2.1.1 (z_m 11).2.2.2.1 (z_m 11).2.1 zc_11 = true := by decide +kernel
theorem z_cok_12 : z_okc (z_m 12).2.2.2.2.1.1 (z_m 12).2.2.2.1 (z_m 12).2.1 zc_12 = true := by decide +kernel
theorem z_cok_13 : z_okc (z_m 13).2.2.2.2.1.1 (z_m 13).2.2.2.1 (z_m 13).2.1 zc_13 = true := by decide +kernel
theorem z_cok_14 : z_okc (z_m 14).2.2.2.2.1.1 (z_m 14).2.2.2.1 (z_m 14).2.1 zc_14 = true := by decide +kernel
theorem z_cok_15 : z_okc (z_m 15).2.2.2.2.1.1 (z_m 15).2.2.2.1 (z_m 15).2.1 zc_15 = true := by decide +kernel
theorem z_cok_16 : z_okc (z_m 16).2.2.2.2.1.1 (z_m 16).2.2.2.1 (z_m 16).2.1 zc_16 = true := by decide +kernel
theorem z_cok_17 : z_okc (z_m 17).2.2.2.2.1.1 (z_m 17).2.2.2.1 (z_m 17).2.1 zc_17 = true := by decide +kernel
theorem z_cok_18 : z_okc (z_m 18).2.2.2.2.1.1 (z_m 18).2.2.2.1 (z_m 18).2.1 zc_18 = true := by decide +kernel
theorem z_cok_19 : z_okc (z_m 19).2.2.2.2.1.1 (z_m 19).2.2.2.1 (z_m 19).2.1 zc_19 = true := by decide +kernel
theorem z_cok_20 : z_okc (z_m 20).2.2.2.2.1.1 (z_m 20).2.2.2.1 (z_m 20).2.1 zc_20 = true := by decide +kernel
theorem z_cok_21 : z_okc (z_m 21).2.2.2.2.1.1 (z_m 21).2.2.2.1 (z_m 21).2.1 zc_21 = true := by decide +kernel
theorem z_cok_22 : z_okc (z_m 22).2.2.2.2.1.1 (z_m 22).2.2.2.1 (z_m 22).2.1 zc_22 = true := by decide +kernel
theorem z_cok_23 : z_okc (z_m 23).2.2.2.2.1.1 (z_m 23).2.2.2.1 (z_m 23).2.1 zc_23 = true := by decide +kernel
theorem z_cok_24 : z_okc (z_m 24).2.2.2.2.1.1 (z_m 24).2.2.2.1 (z_m 24).2.1 zc_24 = true := by decide +kernel
theorem z_cok_25 : z_okc (z_m 25).2.2.2.2.1.1 (z_m 25).2.2.2.1 (z_m 25).2.1 zc_25 = true := by decide +kernel
theorem z_cok_26 : z_okc (z_m 26).2.2.2.2.1.1 (z_m 26).2.2.2.1 (z_m 26).2.1 zc_26 = true := by decide +kernel
theorem z_cok_27 : z_okc (z_m 27).2.2.2.2.1.1 (z_m 27).2.2.2.1 (z_m 27).2.1 zc_27 = true := by decide +kernel
theorem z_cok_28 : z_okc (z_m 28).2.2.2.2.1.1 (z_m 28).2.2.2.1 (z_m 28).2.1 zc_28 = true := by decide +kernel
theorem z_cok_29 : z_okc (z_m 29).2.2.2.2.1.1 (z_m 29).2.2.2.1 (z_m 29).2.1 zc_29 = true := by decide +kernel
theorem z_cok_30 : z_okc (z_m 30).2.2.2.2.1.1 (z_m 30).2.2.2.1 (z_m 30).2.1 zc_30 = true := by decide +kernel
theorem z_cok_31 : z_okc (z_m 31).2.2.2.2.1.1 (z_m 31).2.2.2.1 (z_m 31).2.1 zc_31 = true := by decide +kernel
theorem z_cok_32 : z_okc (z_m 32).2.2.2.2.1.1 (z_m 32).2.2.2.1 (z_m 32).2.1 zc_32 = true := by decide +kernel
theorem z_cok_33 : z_okc (z_m 33).2.2.2.2.1.1 (z_m 33).2.2.2.1 (z_m 33).2.1 zc_33 = true := by decide +kernel
theorem z_cok_34 : z_okc (z_m 34).2.2.2.2.1.1 (z_m 34).2.2.2.1 (z_m 34).2.1 zc_34 = true := by decide +kernel
theorem z_cok_35 : z_okc (z_m 35).2.2.2.2.1.1 (z_m 35).2.2.2.1 (z_m 35).2.1 zc_35 = true := by decide +kernel
theorem z_cok_36 : z_okc (z_m 36).2.2.2.2.1.1 (z_m 36).2.2.2.1 (z_m 36).2.1 zc_36 = true := by decide +kernel
theorem z_cok_37 : z_okc (z_m 37).2.2.2.2.1.1 (z_m 37).2.2.2.1 (z_m 37).2.1 zc_37 = true := by decide +kernel
theorem z_cok_38 : z_okc (z_m 38).2.2.2.2.1.1 (z_m 38).2.2.2.1 (z_m 38).2.1 zc_38 = true := by decide +kernel
theorem z_cok_39 : z_okc (z_m 39).2.2.2.2.1.1 (z_m 39).2.2.2.1 (z_m 39).2.1 zc_39 = true := by decide +kernel
theorem z_cok_40 : z_okc (z_m 40).2.2.2.2.1.1 (z_m 40).2.2.2.1 (z_m 40).2.1 zc_40 = true := by decide +kernel
theorem z_cok_41 : z_okc (z_m 41).2.2.2.2.1.1 (z_m 41).2.2.2.1 (z_m 41).2.1 zc_41 = true := by decide +kernel
theorem z_cok_42 : z_okc (z_m 42).2.2.2.2.1.1 (z_m 42).2.2.2.1 (z_m 42).2.1 zc_42 = true := by decide +kernel
theorem z_cok_43 : z_okc (z_m 43).2.2.2.2.1.1 (z_m 43).2.2.2.1 (z_m 43).2.1 zc_43 = true := by decide +kernel
theorem z_cok_44 : z_okc (z_m 44).2.2.2.2.1.1 (z_m 44).2.2.2.1 (z_m 44).2.1 zc_44 = true := by decide +kernel
theorem z_cok_45 : z_okc (z_m 45).2.2.2.2.1.1 (z_m 45).2.2.2.1 (z_m 45).2.1 zc_45 = true := by decide +kernel
theorem z_cok_46 : z_okc (z_m 46).2.2.2.2.1.1 (z_m 46).2.2.2.1 (z_m 46).2.1 zc_46 = true := by decide +kernel
theorem z_cok_47 : z_okc (z_m 47).2.2.2.2.1.1 (z_m 47).2.2.2.1 (z_m 47).2.1 zc_47 = true := by decide +kernel
theorem z_cok_48 : z_okc (z_m 48).2.2.2.2.1.1 (z_m 48).2.2.2.1 (z_m 48).2.1 zc_48 = true := by decide +kernel
theorem z_cok_49 : z_okc (z_m 49).2.2.2.2.1.1 (z_m 49).2.2.2.1 (z_m 49).2.1 zc_49 = true := by decide +kernel
theorem z_cok_50 : z_okc (z_m 50).2.2.2.2.1.1 (z_m 50).2.2.2.1 (z_m 50).2.1 zc_50 = true := by decide +kernel
theorem z_cok_51 : z_okc (z_m 51).2.2.2.2.1.1 (z_m 51).2.2.2.1 (z_m 51).2.1 zc_51 = true := by decide +kernel
theorem z_cok_52 : z_okc (z_m 52).2.2.2.2.1.1 (z_m 52).2.2.2.1 (z_m 52).2.1 zc_52 = true := by decide +kernel
theorem z_cok_53 : z_okc (z_m 53).2.2.2.2.1.1 (z_m 53).2.2.2.1 (z_m 53).2.1 zc_53 = true := by decide +kernel
theorem z_cok_54 : z_okc (z_m 54).2.2.2.2.1.1 (z_m 54).2.2.2.1 (z_m 54).2.1 zc_54 = true := by decide +kernel
theorem z_cok_55 : z_okc (z_m 55).2.2.2.2.1.1 (z_m 55).2.2.2.1 (z_m 55).2.1 zc_55 = true := by decide +kernel
theorem z_cok_56 : z_okc (z_m 56).2.2.2.2.1.1 (z_m 56).2.2.2.1 (z_m 56).2.1 zc_56 = true := by decide +kernel
theorem z_cok_57 : z_okc (z_m 57).2.2.2.2.1.1 (z_m 57).2.2.2.1 (z_m 57).2.1 zc_57 = true := by decide +kernel
theorem z_cok_58 : z_okc (z_m 58).2.2.2.2.1.1 (z_m 58).2.2.2.1 (z_m 58).2.1 zc_58 = true := by decide +kernel
theorem z_cok_59 : z_okc (z_m 59).2.2.2.2.1.1 (z_m 59).2.2.2.1 (z_m 59).2.1 zc_59 = true := by decide +kernel
theorem z_cok_60 : z_okc (z_m 60).2.2.2.2.1.1 (z_m 60).2.2.2.1 (z_m 60).2.1 zc_60 = true := by decide +kernel
theorem z_cok_61 : z_okc (z_m 61).2.2.2.2.1.1 (z_m 61).2.2.2.1 (z_m 61).2.1 zc_61 = true := by decide +kernel
theorem z_cok_62 : z_okc (z_m 62).2.2.2.2.1.1 (z_m 62).2.2.2.1 (z_m 62).2.1 zc_62 = true := by decide +kernel
theorem z_cok_63 : z_okc (z_m 63).2.2.2.2.1.1 (z_m 63).2.2.2.1 (z_m 63).2.1 zc_63 = true := by decide +kernel
theorem z_cok_64 : z_okc (z_m 64).2.2.2.2.1.1 (z_m 64).2.2.2.1 (z_m 64).2.1 zc_64 = true := by decide +kernel
theorem z_cok_65 : z_okc (z_m 65).2.2.2.2.1.1 (z_m 65).2.2.2.1 (z_m 65).2.1 zc_65 = true := by decide +kernel
theorem z_cok_66 : z_okc (z_m 66).2.2.2.2.1.1 (z_m 66).2.2.2.1 (z_m 66).2.1 zc_66 = true := by decide +kernel
theorem z_cok_67 : z_okc (z_m 67).2.2.2.2.1.1 (z_m 67).2.2.2.1 (z_m 67).2.1 zc_67 = true := by decide +kernel
theorem z_cok_68 : z_okc (z_m 68).2.2.2.2.1.1 (z_m 68).2.2.2.1 (z_m 68).2.1 zc_68 = true := by decide +kernel
theorem z_cok_69 : z_okc (z_m 69).2.2.2.2.1.1 (z_m 69).2.2.2.1 (z_m 69).2.1 zc_69 = true := by decide +kernel
theorem z_cok_70 : z_okc (z_m 70).2.2.2.2.1.1 (z_m 70).2.2.2.1 (z_m 70).2.1 zc_70 = true := by decide +kernel
theorem z_cok_71 : z_okc (z_m 71).2.2.2.2.1.1 (z_m 71).2.2.2.1 (z_m 71).2.1 zc_71 = true := by decide +kernel
theorem z_cok_72 : z_okc (z_m 72).2.2.2.2.1.1 (z_m 72).2.2.2.1 (z_m 72).2.1 zc_72 = true := by decide +kernel
theorem z_cok_73 : z_okc (z_m 73).2.2.2.2.1.1 (z_m 73).2.2.2.1 (z_m 73).2.1 zc_73 = true := by decide +kernel
theorem z_cok_74 : z_okc (z_m 74).2.2.2.2.1.1 (z_m 74).2.2.2.1 (z_m 74).2.1 zc_74 = true := by decide +kernel
theorem z_cok_75 : z_okc (z_m 75).2.2.2.2.1.1 (z_m 75).2.2.2.1 (z_m 75).2.1 zc_75 = true := by decide +kernel
theorem z_cok_76 : z_okc (z_m 76).2.2.2.2.1.1 (z_m 76).2.2.2.1 (z_m 76).2.1 zc_76 = true := by decide +kernel
theorem z_cok_77 : z_okc (z_m 77).2.2.2.2.1.1 (z_m 77).2.2.2.1 (z_m 77).2.1 zc_77 = true := by decide +kernel
theorem z_cok_78 : z_okc (z_m 78).2.2.2.2.1.1 (z_m 78).2.2.2.1 (z_m 78).2.1 zc_78 = true := by decide +kernel
theorem z_cok_79 : z_okc (z_m 79).2.2.2.2.1.1 (z_m 79).2.2.2.1 (z_m 79).2.1 zc_79 = true := by decide +kernel
theorem z_cok_80 : z_okc (z_m 80).2.2.2.2.1.1 (z_m 80).2.2.2.1 (z_m 80).2.1 zc_80 = true := by decide +kernel
theorem z_cok_81 : z_okc (z_m 81).2.2.2.2.1.1 (z_m 81).2.2.2.1 (z_m 81).2.1 zc_81 = true := by decide +kernel
theorem z_cok_82 : z_okc (z_m 82).2.2.2.2.1.1 (z_m 82).2.2.2.1 (z_m 82).2.1 zc_82 = true := by decide +kernel
theorem z_cok_83 : z_okc (z_m 83).2.2.2.2.1.1 (z_m 83).2.2.2.1 (z_m 83).2.1 zc_83 = true := by decide +kernel
theorem z_cok_84 : z_okc (z_m 84).2.2.2.2.1.1 (z_m 84).2.2.2.1 (z_m 84).2.1 zc_84 = true := by decide +kernel
theorem z_cok_85 : z_okc (z_m 85).2.2.2.2.1.1 (z_m 85).2.2.2.1 (z_m 85).2.1 zc_85 = true := by decide +kernel
theorem z_cok_86 : z_okc (z_m 86).2.2.2.2.1.1 (z_m 86).2.2.2.1 (z_m 86).2.1 zc_86 = true := by decide +kernel
theorem z_cok_87 : z_okc (z_m 87).2.2.2.2.1.1 (z_m 87).2.2.2.1 (z_m 87).2.1 zc_87 = true := by decide +kernel
theorem z_cok_88 : z_okc (z_m 88).2.2.2.2.1.1 (z_m 88).2.2.2.1 (z_m 88).2.1 zc_88 = true := by decide +kernel
theorem z_cok_89 : z_okc (z_m 89).2.2.2.2.1.1 (z_m 89).2.2.2.1 (z_m 89).2.1 zc_89 = true := by decide +kernel
theorem z_cok_90 : z_okc (z_m 90).2.2.2.2.1.1 (z_m 90).2.2.2.1 (z_m 90).2.1 zc_90 = true := by decide +kernel
theorem z_cok_91 : z_okc (z_m 91).2.2.2.2.1.1 (z_m 91).2.2.2.1 (z_m 91).2.1 zc_91 = true := by decide +kernel
theorem z_cok_92 : z_okc (z_m 92).2.2.2.2.1.1 (z_m 92).2.2.2.1 (z_m 92).2.1 zc_92 = true := by decide +kernel
theorem z_cok_93 : z_okc (z_m 93).2.2.2.2.1.1 (z_m 93).2.2.2.1 (z_m 93).2.1 zc_93 = true := by decide +kernel
theorem z_cok_94 : z_okc (z_m 94).2.2.2.2.1.1 (z_m 94).2.2.2.1 (z_m 94).2.1 zc_94 = true := by decide +kernel
theorem z_cok_95 : z_okc (z_m 95).2.2.2.2.1.1 (z_m 95).2.2.2.1 (z_m 95).2.1 zc_95 = true := by decide +kernel
theorem z_cok_96 : z_okc (z_m 96).2.2.2.2.1.1 (z_m 96).2.2.2.1 (z_m 96).2.1 zc_96 = true := by decide +kernel
theorem z_cok_97 : z_okc (z_m 97).2.2.2.2.1.1 (z_m 97).2.2.2.1 (z_m 97).2.1 zc_97 = true := by decide +kernel
theorem z_cok_98 : z_okc (z_m 98).2.2.2.2.1.1 (z_m 98).2.2.2.1 (z_m 98).2.1 zc_98 = true := by decide +kernel
theorem z_cok_99 : z_okc (z_m 99).2.2.2.2.1.1 (z_m 99).2.2.2.1 (z_m 99).2.1 zc_99 = true := by decide +kernel
theorem z_cok_100 : z_okc (z_m 100).2.2.2.2.1.1 (z_m 100).2.2.2.1 (z_m 100).2.1 zc_100 = true := by decide +kernel
theorem z_cok_101 : z_okc (z_m 101).2.2.2.2.1.1 (z_m 101).2.2.2.1 (z_m 101).2.1 zc_101 = true := by decide +kernel
theorem z_cok_102 : z_okc (z_m 102).2.2.2.2.1.1 (z_m 102).2.2.2.1 (z_m 102).2.1 zc_102 = true := by decide +kernel
theorem z_cok_103 : z_okc (z_m 103).2.2.2.2.1.1 (z_m 103).2.2.2.1 (z_m 103).2.1 zc_103 = true := by decide +kernel
theorem z_cok_104 : z_okc (z_m 104).2.2.2.2.1.1 (z_m 104).2.2.2.1 (z_m 104).2.1 zc_104 = true := by decide +kernel
theorem z_cok_105 : z_okc (z_m 105).2.2.2.2.1.1 (z_m 105).2.2.2.1 (z_m 105).2.1 zc_105 = true := by decide +kernel
theorem z_cok_106 : z_okc (z_m 106).2.2.2.2.1.1 (z_m 106).2.2.2.1 (z_m 106).2.1 zc_106 = true := by decide +kernel
theorem z_cok_107 : z_okc (z_m 107).2.2.2.2.1.1 (z_m 107).2.2.2.1 (z_m 107).2.1 zc_107 = true := by decide +kernel
theorem z_cok_108 : z_okc (z_m 108).2.2.2.2.1.1 (z_m 108).2.2.2.1 (z_m 108).2.1 zc_108 = true := by decide +kernel
theorem z_cok_109 : z_okc (z_m 109).2.2.2.2.1.1 (z_m 109).2.2.2.1 (z_m 109).2.1 zc_109 = true := by decide +kernel
theorem z_cok_110 : z_okc (z_m 110).2.2.2.2.1.1 (z_m 110).2.2.2.1 (z_m 110).2.1 zc_110 = true := by decide +kernel
theorem z_cok_111 : z_okc (z_m 111).2.2.2.2.1.1 (z_m 111).2.2.2.1 (z_m 111).2.1 zc_111 = true := by decide +kernel
theorem z_cok_112 : z_okc (z_m 112).2.2.2.2.1.1 (z_m 112).2.2.2.1 (z_m 112).2.1 zc_112 = true := by decide +kernel
theorem z_cok_113 : z_okc (z_m 113).2.2.2.2.1.1 (z_m 113).2.2.2.1 (z_m 113).2.1 zc_113 = true := by decide +kernel
theorem z_cok_114 : z_okc (z_m 114).2.2.2.2.1.1 (z_m 114).2.2.2.1 (z_m 114).2.1 zc_114 = true := by decide +kernel
theorem z_cok_115 : z_okc (z_m 115).2.2.2.2.1.1 (z_m 115).2.2.2.1 (z_m 115).2.1 zc_115 = true := by decide +kernel
theorem z_cok_116 : z_okc (z_m 116).2.2.2.2.1.1 (z_m 116).2.2.2.1 (z_m 116).2.1 zc_116 = true := by decide +kernel
theorem z_cok_117 : z_okc (z_m 117).2.2.2.2.1.1 (z_m 117).2.2.2.1 (z_m 117).2.1 zc_117 = true := by decide +kernel
theorem z_cok_118 : z_okc (z_m 118).2.2.2.2.1.1 (z_m 118).2.2.2.1 (z_m 118).2.1 zc_118 = true := by decide +kernel
theorem z_cok_119 : z_okc (z_m 119).2.2.2.2.1.1 (z_m 119).2.2.2.1 (z_m 119).2.1 zc_119 = true := by decide +kernel
theorem z_cok_120 : z_okc (z_m 120).2.2.2.2.1.1 (z_m 120).2.2.2.1 (z_m 120).2.1 zc_120 = true := by decide +kernel
theorem z_cok_121 : z_okc (z_m 121).2.2.2.2.1.1 (z_m 121).2.2.2.1 (z_m 121).2.1 zc_121 = true := by decide +kernel
theorem z_cok_122 : z_okc (z_m 122).2.2.2.2.1.1 (z_m 122).2.2.2.1 (z_m 122).2.1 zc_122 = true := by decide +kernel
theorem z_cok_123 : z_okc (z_m 123).2.2.2.2.1.1 (z_m 123).2.2.2.1 (z_m 123).2.1 zc_123 = true := by decide +kernel
theorem z_cok_124 : z_okc (z_m 124).2.2.2.2.1.1 (z_m 124).2.2.2.1 (z_m 124).2.1 zc_124 = true := by decide +kernel
theorem z_cok_125 : z_okc (z_m 125).2.2.2.2.1.1 (z_m 125).2.2.2.1 (z_m 125).2.1 zc_125 = true := by decide +kernel
theorem z_cok_126 : z_okc (z_m 126).2.2.2.2.1.1 (z_m 126).2.2.2.1 (z_m 126).2.1 zc_126 = true := by decide +kernel
theorem z_cok_127 : z_okc (z_m 127).2.2.2.2.1.1 (z_m 127).2.2.2.1 (z_m 127).2.1 zc_127 = true := by decide +kernel
theorem z_cok_128 : z_okc (z_m 128).2.2.2.2.1.1 (z_m 128).2.2.2.1 (z_m 128).2.1 zc_128 = true := by decide +kernel
theorem z_cok_129 : z_okc (z_m 129).2.2.2.2.1.1 (z_m 129).2.2.2.1 (z_m 129).2.1 zc_129 = true := by decide +kernel
theorem z_cok_130 : z_okc (z_m 130).2.2.2.2.1.1 (z_m 130).2.2.2.1 (z_m 130).2.1 zc_130 = true := by decide +kernel
theorem z_cok_131 : z_okc (z_m 131).2.2.2.2.1.1 (z_m 131).2.2.2.1 (z_m 131).2.1 zc_131 = true := by decide +kernel
theorem z_cok_132 : z_okc (z_m 132).2.2.2.2.1.1 (z_m 132).2.2.2.1 (z_m 132).2.1 zc_132 = true := by decide +kernel
theorem z_cok_133 : z_okc (z_m 133).2.2.2.2.1.1 (z_m 133).2.2.2.1 (z_m 133).2.1 zc_133 = true := by decide +kernel
theorem z_cok_134 : z_okc (z_m 134).2.2.2.2.1.1 (z_m 134).2.2.2.1 (z_m 134).2.1 zc_134 = true := by decide +kernel
theorem z_cok_135 : z_okc (z_m 135).2.2.2.2.1.1 (z_m 135).2.2.2.1 (z_m 135).2.1 zc_135 = true := by decide +kernel
theorem z_cok_136 : z_okc (z_m 136).2.2.2.2.1.1 (z_m 136).2.2.2.1 (z_m 136).2.1 zc_136 = true := by decide +kernel
theorem z_cok_137 : z_okc (z_m 137).2.2.2.2.1.1 (z_m 137).2.2.2.1 (z_m 137).2.1 zc_137 = true := by decide +kernel
theorem z_cok_138 : z_okc (z_m 138).2.2.2.2.1.1 (z_m 138).2.2.2.1 (z_m 138).2.1 zc_138 = true := by decide +kernel
theorem z_cok_139 : z_okc (z_m 139).2.2.2.2.1.1 (z_m 139).2.2.2.1 (z_m 139).2.1 zc_139 = true := by decide +kernel
theorem z_cok_140 : z_okc (z_m 140).2.2.2.2.1.1 (z_m 140).2.2.2.1 (z_m 140).2.1 zc_140 = true := by decide +kernel
theorem z_cok_141 : z_okc (z_m 141).2.2.2.2.1.1 (z_m 141).2.2.2.1 (z_m 141).2.1 zc_141 = true := by decide +kernel
theorem z_cok_142 : z_okc (z_m 142).2.2.2.2.1.1 (z_m 142).2.2.2.1 (z_m 142).2.1 zc_142 = true := by decide +kernel
theorem z_cok_143 : z_okc (z_m 143).2.2.2.2.1.1 (z_m 143).2.2.2.1 (z_m 143).2.1 zc_143 = true := by decide +kernel
theorem z_cok_144 : z_okc (z_m 144).2.2.2.2.1.1 (z_m 144).2.2.2.1 (z_m 144).2.1 zc_144 = true := by decide +kernel
theorem z_cok_145 : z_okc (z_m 145).2.2.2.2.1.1 (z_m 145).2.2.2.1 (z_m 145).2.1 zc_145 = true := by decide +kernel
theorem z_cok_146 : z_okc (z_m 146).2.2.2.2.1.1 (z_m 146).2.2.2.1 (z_m 146).2.1 zc_146 = true := by decide +kernel
theorem z_cok_147 : z_okc (z_m 147).2.2.2.2.1.1 (z_m 147).2.2.2.1 (z_m 147).2.1 zc_147 = true := by decide +kernel
theorem z_cok_148 : z_okc (z_m 148).2.2.2.2.1.1 (z_m 148).2.2.2.1 (z_m 148).2.1 zc_148 = true := by decide +kernel
theorem z_cok_149 : z_okc (z_m 149).2.2.2.2.1.1 (z_m 149).2.2.2.1 (z_m 149).2.1 zc_149 = true := by decide +kernel
theorem z_cok_150 : z_okc (z_m 150).2.2.2.2.1.1 (z_m 150).2.2.2.1 (z_m 150).2.1 zc_150 = true := by decide +kernel
theorem z_cok_151 : z_okc (z_m 151).2.2.2.2.1.1 (z_m 151).2.2.2.1 (z_m 151).2.1 zc_151 = true := by decide +kernel
theorem z_cok_152 : z_okc (z_m 152).2.2.2.2.1.1 (z_m 152).2.2.2.1 (z_m 152).2.1 zc_152 = true := by decide +kernel
theorem z_cok_153 : z_okc (z_m 153).2.2.2.2.1.1 (z_m 153).2.2.2.1 (z_m 153).2.1 zc_153 = true := by decide +kernel
theorem z_cok_154 : z_okc (z_m 154).2.2.2.2.1.1 (z_m 154).2.2.2.1 (z_m 154).2.1 zc_154 = true := by decide +kernel
theorem z_cok_155 : z_okc (z_m 155).2.2.2.2.1.1 (z_m 155).2.2.2.1 (z_m 155).2.1 zc_155 = true := by decide +kernel
theorem z_cok_156 : z_okc (z_m 156).2.2.2.2.1.1 (z_m 156).2.2.2.1 (z_m 156).2.1 zc_156 = true := by decide +kernel
theorem z_cok_157 : z_okc (z_m 157).2.2.2.2.1.1 (z_m 157).2.2.2.1 (z_m 157).2.1 zc_157 = true := by decide +kernel
theorem z_cok_158 : z_okc (z_m 158).2.2.2.2.1.1 (z_m 158).2.2.2.1 (z_m 158).2.1 zc_158 = true := by decide +kernel
theorem z_cok_159 : z_okc (z_m 159).2.2.2.2.1.1 (z_m 159).2.2.2.1 (z_m 159).2.1 zc_159 = true := by decide +kernel
theorem z_cok_160 : z_okc (z_m 160).2.2.2.2.1.1 (z_m 160).2.2.2.1 (z_m 160).2.1 zc_160 = true := by decide +kernel
theorem z_cok_161 : z_okc (z_m 161).2.2.2.2.1.1 (z_m 161).2.2.2.1 (z_m 161).2.1 zc_161 = true := by decide +kernel
theorem z_cok_162 : z_okc (z_m 162).2.2.2.2.1.1 (z_m 162).2.2.2.1 (z_m 162).2.1 zc_162 = true := by decide +kernel
theorem z_cok_163 : z_okc (z_m 163).2.2.2.2.1.1 (z_m 163).2.2.2.1 (z_m 163).2.1 zc_163 = true := by decide +kernel
theorem z_cok_164 : z_okc (z_m 164).2.2.2.2.1.1 (z_m 164).2.2.2.1 (z_m 164).2.1 zc_164 = true := by decide +kernel
theorem z_cok_165 : z_okc (z_m 165).2.2.2.2.1.1 (z_m 165).2.2.2.1 (z_m 165).2.1 zc_165 = true := by decide +kernel
theorem z_cok_166 : z_okc (z_m 166).2.2.2.2.1.1 (z_m 166).2.2.2.1 (z_m 166).2.1 zc_166 = true := by decide +kernel
theorem z_cok_167 : z_okc (z_m 167).2.2.2.2.1.1 (z_m 167).2.2.2.1 (z_m 167).2.1 zc_167 = true := by decide +kernel
theorem z_cok_168 : z_okc (z_m 168).2.2.2.2.1.1 (z_m 168).2.2.2.1 (z_m 168).2.1 zc_168 = true := by decide +kernel
theorem z_cok_169 : z_okc (z_m 169).2.2.2.2.1.1 (z_m 169).2.2.2.1 (z_m 169).2.1 zc_169 = true := by decide +kernel
theorem z_cok_170 : z_okc (z_m 170).2.2.2.2.1.1 (z_m 170).2.2.2.1 (z_m 170).2.1 zc_170 = true := by decide +kernel
theorem z_cok_171 : z_okc (z_m 171).2.2.2.2.1.1 (z_m 171).2.2.2.1 (z_m 171).2.1 zc_171 = true := by decide +kernel
theorem z_cok_172 : z_okc (z_m 172).2.2.2.2.1.1 (z_m 172).2.2.2.1 (z_m 172).2.1 zc_172 = true := by decide +kernel
theorem z_cok_173 : z_okc (z_m 173).2.2.2.2.1.1 (z_m 173).2.2.2.1 (z_m 173).2.1 zc_173 = true := by decide +kernel
theorem z_cok_174 : z_okc (z_m 174).2.2.2.2.1.1 (z_m 174).2.2.2.1 (z_m 174).2.1 zc_174 = true := by decide +kernel
theorem z_cok_175 : z_okc (z_m 175).2.2.2.2.1.1 (z_m 175).2.2.2.1 (z_m 175).2.1 zc_175 = true := by decide +kernel
theorem z_cok_176 : z_okc (z_m 176).2.2.2.2.1.1 (z_m 176).2.2.2.1 (z_m 176).2.1 zc_176 = true := by decide +kernel
theorem z_cok_177 : z_okc (z_m 177).2.2.2.2.1.1 (z_m 177).2.2.2.1 (z_m 177).2.1 zc_177 = true := by decide +kernel
theorem z_cok_178 : z_okc (z_m 178).2.2.2.2.1.1 (z_m 178).2.2.2.1 (z_m 178).2.1 zc_178 = true := by decide +kernel
theorem z_cok_179 : z_okc (z_m 179).2.2.2.2.1.1 (z_m 179).2.2.2.1 (z_m 179).2.1 zc_179 = true := by decide +kernel
theorem z_cok_180 : z_okc (z_m 180).2.2.2.2.1.1 (z_m 180).2.2.2.1 (z_m 180).2.1 zc_180 = true := by decide +kernel
theorem z_cok_181 : z_okc (z_m 181).2.2.2.2.1.1 (z_m 181).2.2.2.1 (z_m 181).2.1 zc_181 = true := by decide +kernel
theorem z_cok_182 : z_okc (z_m 182).2.2.2.2.1.1 (z_m 182).2.2.2.1 (z_m 182).2.1 zc_182 = true := by decide +kernel
theorem z_cok_183 : z_okc (z_m 183).2.2.2.2.1.1 (z_m 183).2.2.2.1 (z_m 183).2.1 zc_183 = true := by decide +kernel
theorem z_cok_184 : z_okc (z_m 184).2.2.2.2.1.1 (z_m 184).2.2.2.1 (z_m 184).2.1 zc_184 = true := by decide +kernel
theorem z_cok_185 : z_okc (z_m 185).2.2.2.2.1.1 (z_m 185).2.2.2.1 (z_m 185).2.1 zc_185 = true := by decide +kernel
theorem z_cok_186 : z_okc (z_m 186).2.2.2.2.1.1 (z_m 186).2.2.2.1 (z_m 186).2.1 zc_186 = true := by decide +kernel
theorem z_cok_187 : z_okc (z_m 187).2.2.2.2.1.1 (z_m 187).2.2.2.1 (z_m 187).2.1 zc_187 = true := by decide +kernel
theorem z_cok_188 : z_okc (z_m 188).2.2.2.2.1.1 (z_m 188).2.2.2.1 (z_m 188).2.1 zc_188 = true := by decide +kernel
theorem z_cok_189 : z_okc (z_m 189).2.2.2.2.1.1 (z_m 189).2.2.2.1 (z_m 189).2.1 zc_189 = true := by decide +kernel
theorem z_cok_190 : z_okc (z_m 190).2.2.2.2.1.1 (z_m 190).2.2.2.1 (z_m 190).2.1 zc_190 = true := by decide +kernel
theorem z_cok_191 : z_okc (z_m 191).2.2.2.2.1.1 (z_m 191).2.2.2.1 (z_m 191).2.1 zc_191 = true := by decide +kernel
theorem z_cok_192 : z_okc (z_m 192).2.2.2.2.1.1 (z_m 192).2.2.2.1 (z_m 192).2.1 zc_192 = true := by decide +kernel
theorem z_cok_193 : z_okc (z_m 193).2.2.2.2.1.1 (z_m 193).2.2.2.1 (z_m 193).2.1 zc_193 = true := by decide +kernel
theorem z_cok_194 : z_okc (z_m 194).2.2.2.2.1.1 (z_m 194).2.2.2.1 (z_m 194).2.1 zc_194 = true := by decide +kernel
theorem z_cok_195 : z_okc (z_m 195).2.2.2.2.1.1 (z_m 195).2.2.2.1 (z_m 195).2.1 zc_195 = true := by decide +kernel
theorem z_cok_196 : z_okc (z_m 196).2.2.2.2.1.1 (z_m 196).2.2.2.1 (z_m 196).2.1 zc_196 = true := by decide +kernel
theorem z_cok_197 : z_okc (z_m 197).2.2.2.2.1.1 (z_m 197).2.2.2.1 (z_m 197).2.1 zc_197 = true := by decide +kernel
theorem z_cok_198 : z_okc (z_m 198).2.2.2.2.1.1 (z_m 198).2.2.2.1 (z_m 198).2.1 zc_198 = true := by decide +kernel
theorem z_cok_199 : z_okc (z_m 199).2.2.2.2.1.1 (z_m 199).2.2.2.1 (z_m 199).2.1 zc_199 = true := by decide +kernel
theorem z_cok_200 : z_okc (z_m 200).2.2.2.2.1.1 (z_m 200).2.2.2.1 (z_m 200).2.1 zc_200 = true := by decide +kernel
theorem z_cok_201 : z_okc (z_m 201).2.2.2.2.1.1 (z_m 201).2.2.2.1 (z_m 201).2.1 zc_201 = true := by decide +kernel
theorem z_cok_202 : z_okc (z_m 202).2.2.2.2.1.1 (z_m 202).2.2.2.1 (z_m 202).2.1 zc_202 = true := by decide +kernel
theorem z_cok_203 : z_okc (z_m 203).2.2.2.2.1.1 (z_m 203).2.2.2.1 (z_m 203).2.1 zc_203 = true := by decide +kernel
theorem z_cok_204 : z_okc (z_m 204).2.2.2.2.1.1 (z_m 204).2.2.2.1 (z_m 204).2.1 zc_204 = true := by decide +kernel
theorem z_cok_205 : z_okc (z_m 205).2.2.2.2.1.1 (z_m 205).2.2.2.1 (z_m 205).2.1 zc_205 = true := by decide +kernel
theorem z_cok_206 : z_okc (z_m 206).2.2.2.2.1.1 (z_m 206).2.2.2.1 (z_m 206).2.1 zc_206 = true := by decide +kernel
theorem z_cok_207 : z_okc (z_m 207).2.2.2.2.1.1 (z_m 207).2.2.2.1 (z_m 207).2.1 zc_207 = true := by decide +kernel
theorem z_cok_208 : z_okc (z_m 208).2.2.2.2.1.1 (z_m 208).2.2.2.1 (z_m 208).2.1 zc_208 = true := by decide +kernel
theorem z_cok_209 : z_okc (z_m 209).2.2.2.2.1.1 (z_m 209).2.2.2.1 (z_m 209).2.1 zc_209 = true := by decide +kernel
theorem z_cok_210 : z_okc (z_m 210).2.2.2.2.1.1 (z_m 210).2.2.2.1 (z_m 210).2.1 zc_210 = true := by decide +kernel
theorem z_cok_211 : z_okc (z_m 211).2.2.2.2.1.1 (z_m 211).2.2.2.1 (z_m 211).2.1 zc_211 = true := by decide +kernel
theorem z_cok_212 : z_okc (z_m 212).2.2.2.2.1.1 (z_m 212).2.2.2.1 (z_m 212).2.1 zc_212 = true := by decide +kernel
theorem z_cok_213 : z_okc (z_m 213).2.2.2.2.1.1 (z_m 213).2.2.2.1 (z_m 213).2.1 zc_213 = true := by decide +kernel
theorem z_cok_214 : z_okc (z_m 214).2.2.2.2.1.1 (z_m 214).2.2.2.1 (z_m 214).2.1 zc_214 = true := by decide +kernel
theorem z_cok_215 : z_okc (z_m 215).2.2.2.2.1.1 (z_m 215).2.2.2.1 (z_m 215).2.1 zc_215 = true := by decide +kernel
theorem z_cok_216 : z_okc (z_m 216).2.2.2.2.1.1 (z_m 216).2.2.2.1 (z_m 216).2.1 zc_216 = true := by decide +kernel
theorem z_cok_217 : z_okc (z_m 217).2.2.2.2.1.1 (z_m 217).2.2.2.1 (z_m 217).2.1 zc_217 = true := by decide +kernel
theorem z_cok_218 : z_okc (z_m 218).2.2.2.2.1.1 (z_m 218).2.2.2.1 (z_m 218).2.1 zc_218 = true := by decide +kernel
theorem z_cok_219 : z_okc (z_m 219).2.2.2.2.1.1 (z_m 219).2.2.2.1 (z_m 219).2.1 zc_219 = true := by decide +kernel
theorem z_cok_220 : z_okc (z_m 220).2.2.2.2.1.1 (z_m 220).2.2.2.1 (z_m 220).2.1 zc_220 = true := by decide +kernel
theorem z_cok_221 : z_okc (z_m 221).2.2.2.2.1.1 (z_m 221).2.2.2.1 (z_m 221).2.1 zc_221 = true := by decide +kernel
theorem z_cok_222 : z_okc (z_m 222).2.2.2.2.1.1 (z_m 222).2.2.2.1 (z_m 222).2.1 zc_222 = true := by decide +kernel
theorem z_cok_223 : z_okc (z_m 223).2.2.2.2.1.1 (z_m 223).2.2.2.1 (z_m 223).2.1 zc_223 = true := by decide +kernel
theorem z_cok_224 : z_okc (z_m 224).2.2.2.2.1.1 (z_m 224).2.2.2.1 (z_m 224).2.1 zc_224 = true := by decide +kernel
theorem z_cok_225 : z_okc (z_m 225).2.2.2.2.1.1 (z_m 225).2.2.2.1 (z_m 225).2.1 zc_225 = true := by decide +kernel
theorem z_cok_226 : z_okc (z_m 226).2.2.2.2.1.1 (z_m 226).2.2.2.1 (z_m 226).2.1 zc_226 = true := by decide +kernel
theorem z_cok_227 : z_okc (z_m 227).2.2.2.2.1.1 (z_m 227).2.2.2.1 (z_m 227).2.1 zc_227 = true := by decide +kernel
theorem z_cok_228 : z_okc (z_m 228).2.2.2.2.1.1 (z_m 228).2.2.2.1 (z_m 228).2.1 zc_228 = true := by decide +kernel
theorem z_cok_229 : z_okc (z_m 229).2.2.2.2.1.1 (z_m 229).2.2.2.1 (z_m 229).2.1 zc_229 = true := by decide +kernel
theorem z_cok_230 : z_okc (z_m 230).2.2.2.2.1.1 (z_m 230).2.2.2.1 (z_m 230).2.1 zc_230 = true := by decide +kernel
theorem z_cok_231 : z_okc (z_m 231).2.2.2.2.1.1 (z_m 231).2.2.2.1 (z_m 231).2.1 zc_231 = true := by decide +kernel
theorem z_cok_232 : z_okc (z_m 232).2.2.2.2.1.1 (z_m 232).2.2.2.1 (z_m 232).2.1 zc_232 = true := by decide +kernel
theorem z_cok_233 : z_okc (z_m 233).2.2.2.2.1.1 (z_m 233).2.2.2.1 (z_m 233).2.1 zc_233 = true := by decide +kernel
theorem z_cok_234 : z_okc (z_m 234).2.2.2.2.1.1 (z_m 234).2.2.2.1 (z_m 234).2.1 zc_234 = true := by decide +kernel
theorem z_cok_235 : z_okc (z_m 235).2.2.2.2.1.1 (z_m 235).2.2.2.1 (z_m 235).2.1 zc_235 = true := by decide +kernel
theorem z_cok_236 : z_okc (z_m 236).2.2.2.2.1.1 (z_m 236).2.2.2.1 (z_m 236).2.1 zc_236 = true := by decide +kernel
theorem z_cok_237 : z_okc (z_m 237).2.2.2.2.1.1 (z_m 237).2.2.2.1 (z_m 237).2.1 zc_237 = true := by decide +kernel
theorem z_cok_238 : z_okc (z_m 238).2.2.2.2.1.1 (z_m 238).2.2.2.1 (z_m 238).2.1 zc_238 = true := by decide +kernel
theorem z_cok_239 : z_okc (z_m 239).2.2.2.2.1.1 (z_m 239).2.2.2.1 (z_m 239).2.1 zc_239 = true := by decide +kernel
theorem z_cok_240 : z_okc (z_m 240).2.2.2.2.1.1 (z_m 240).2.2.2.1 (z_m 240).2.1 zc_240 = true := by decide +kernel
theorem z_cok_241 : z_okc (z_m 241).2.2.2.2.1.1 (z_m 241).2.2.2.1 (z_m 241).2.1 zc_241 = true := by decide +kernel
theorem z_cok_242 : z_okc (z_m 242).2.2.2.2.1.1 (z_m 242).2.2.2.1 (z_m 242).2.1 zc_242 = true := by decide +kernel
theorem z_cok_243 : z_okc (z_m 243).2.2.2.2.1.1 (z_m 243).2.2.2.1 (z_m 243).2.1 zc_243 = true := by decide +kernel
theorem z_cok_244 : z_okc (z_m 244).2.2.2.2.1.1 (z_m 244).2.2.2.1 (z_m 244).2.1 zc_244 = true := by decide +kernel
theorem z_cok_245 : z_okc (z_m 245).2.2.2.2.1.1 (z_m 245).2.2.2.1 (z_m 245).2.1 zc_245 = true := by decide +kernel
theorem z_cok_246 : z_okc (z_m 246).2.2.2.2.1.1 (z_m 246).2.2.2.1 (z_m 246).2.1 zc_246 = true := by decide +kernel
theorem z_cro_0 : z_okr 0 zc_0 = true := by decide +kernel
theorem z_cro_1 : z_okr 1 zc_1 = true := by decide +kernel
theorem z_cro_2 : z_okr 2 zc_2 = true := by decide +kernel
theorem z_cro_3 : z_okr 3 zc_3 = true := by decide +kernel
theorem z_cro_4 : z_okr 4 zc_4 = true := by decide +kernel
theorem z_cro_5 : z_okr 5 zc_5 = true := by decide +kernel
theorem z_cro_6 : z_okr 6 zc_6 = true := by decide +kernel
theorem z_cro_7 : z_okr 7 zc_7 = true := by decide +kernel
theorem z_cro_8 : z_okr 8 zc_8 = true := by decide +kernel
theorem z_cro_9 : z_okr 9 zc_9 = true := by decide +kernel
theorem z_cro_10 : z_okr 10 zc_10 = true := by decide +kernel
theorem z_cro_11 : z_okr 11 zc_11 = true := by decide +kernel
theorem z_cro_12 : z_okr 12 zc_12 = true := by decide +kernel
theorem z_cro_13 : z_okr 13 zc_13 = true := by decide +kernel
theorem z_cro_14 : z_okr 14 zc_14 = true := by decide +kernel
theorem z_cro_15 : z_okr 15 zc_15 = true := by decide +kernel
theorem z_cro_16 : z_okr 16 zc_16 = true := by decide +kernel
theorem z_cro_17 : z_okr 17 zc_17 = true := by decide +kernel
theorem z_cro_18 : z_okr 18 zc_18 = true := by decide +kernel
theorem z_cro_19 : z_okr 19 zc_19 = true := by decide +kernel
theorem z_cro_20 : z_okr 20 zc_20 = true := by decide +kernel
theorem z_cro_21 : z_okr 21 zc_21 = true := by decide +kernel
theorem z_cro_22 : z_okr 22 zc_22 = true := by decide +kernel
theorem z_cro_23 : z_okr 23 zc_23 = true := by decide +kernel
theorem z_cro_24 : z_okr 24 zc_24 = true := by decide +kernel
theorem z_cro_25 : z_okr 25 zc_25 = true := by decide +kernel
theorem z_cro_26 : z_okr 26 zc_26 = true := by decide +kernel
theorem z_cro_27 : z_okr 27 zc_27 = true := by decide +kernel
theorem z_cro_28 : z_okr 28 zc_28 = true := by decide +kernel
theorem z_cro_29 : z_okr 29 zc_29 = true := by decide +kernel
theorem z_cro_30 : z_okr 30 zc_30 = true := by decide +kernel
theorem z_cro_31 : z_okr 31 zc_31 = true := by decide +kernel
theorem z_cro_32 : z_okr 32 zc_32 = true := by decide +kernel
theorem z_cro_33 : z_okr 33 zc_33 = true := by decide +kernel
theorem z_cro_34 : z_okr 34 zc_34 = true := by decide +kernel
theorem z_cro_35 : z_okr 35 zc_35 = true := by decide +kernel
theorem z_cro_36 : z_okr 36 zc_36 = true := by decide +kernel
theorem z_cro_37 : z_okr 37 zc_37 = true := by decide +kernel
theorem z_cro_38 : z_okr 38 zc_38 = true := by decide +kernel
theorem z_cro_39 : z_okr 39 zc_39 = true := by decide +kernel
theorem z_cro_40 : z_okr 40 zc_40 = true := by decide +kernel
theorem z_cro_41 : z_okr 41 zc_41 = true := by decide +kernel
theorem z_cro_42 : z_okr 42 zc_42 = true := by decide +kernel
theorem z_cro_43 : z_okr 43 zc_43 = true := by decide +kernel
theorem z_cro_44 : z_okr 44 zc_44 = true := by decide +kernel
theorem z_cro_45 : z_okr 45 zc_45 = true := by decide +kernel
theorem z_cro_46 : z_okr 46 zc_46 = true := by decide +kernel
theorem z_cro_47 : z_okr 47 zc_47 = true := by decide +kernel
theorem z_cro_48 : z_okr 48 zc_48 = true := by decide +kernel
theorem z_cro_49 : z_okr 49 zc_49 = true := by decide +kernel
theorem z_cro_50 : z_okr 50 zc_50 = true := by decide +kernel
theorem z_cro_51 : z_okr 51 zc_51 = true := by decide +kernel
theorem z_cro_52 : z_okr 52 zc_52 = true := by decide +kernel
theorem z_cro_53 : z_okr 53 zc_53 = true := by decide +kernel
theorem z_cro_54 : z_okr 54 zc_54 = true := by decide +kernel
theorem z_cro_55 : z_okr 55 zc_55 = true := by decide +kernel
theorem z_cro_56 : z_okr 56 zc_56 = true := by decide +kernel
theorem z_cro_57 : z_okr 57 zc_57 = true := by decide +kernel
theorem z_cro_58 : z_okr 58 zc_58 = true := by decide +kernel
theorem z_cro_59 : z_okr 59 zc_59 = true := by decide +kernel
theorem z_cro_60 : z_okr 60 zc_60 = true := by decide +kernel
theorem z_cro_61 : z_okr 61 zc_61 = true := by decide +kernel
theorem z_cro_62 : z_okr 62 zc_62 = true := by decide +kernel
theorem z_cro_63 : z_okr 63 zc_63 = true := by decide +kernel
theorem z_cro_64 : z_okr 64 zc_64 = true := by decide +kernel
theorem z_cro_65 : z_okr 65 zc_65 = true := by decide +kernel
theorem z_cro_66 : z_okr 66 zc_66 = true := by decide +kernel
theorem z_cro_67 : z_okr 67 zc_67 = true := by decide +kernel
theorem z_cro_68 : z_okr 68 zc_68 = true := by decide +kernel
theorem z_cro_69 : z_okr 69 zc_69 = true := by decide +kernel
theorem z_cro_70 : z_okr 70 zc_70 = true := by decide +kernel
theorem z_cro_71 : z_okr 71 zc_71 = true := by decide +kernel
theorem z_cro_72 : z_okr 72 zc_72 = true := by decide +kernel
theorem z_cro_73 : z_okr 73 zc_73 = true := by decide +kernel
theorem z_cro_74 : z_okr 74 zc_74 = true := by decide +kernel
theorem z_cro_75 : z_okr 75 zc_75 = true := by decide +kernel
theorem z_cro_76 : z_okr 76 zc_76 = true := by decide +kernel
theorem z_cro_77 : z_okr 77 zc_77 = true := by decide +kernel
theorem z_cro_78 : z_okr 78 zc_78 = true := by decide +kernel
theorem z_cro_79 : z_okr 79 zc_79 = true := by decide +kernel
theorem z_cro_80 : z_okr 80 zc_80 = true := by decide +kernel
theorem z_cro_81 : z_okr 81 zc_81 = true := by decide +kernel
theorem z_cro_82 : z_okr 82 zc_82 = true := by decide +kernel
theorem z_cro_83 : z_okr 83 zc_83 = true := by decide +kernel
theorem z_cro_84 : z_okr 84 zc_84 = true := by decide +kernel
theorem z_cro_85 : z_okr 85 zc_85 = true := by decide +kernel
theorem z_cro_86 : z_okr 86 zc_86 = true := by decide +kernel
theorem z_cro_87 : z_okr 87 zc_87 = true := by decide +kernel
theorem z_cro_88 : z_okr 88 zc_88 = true := by decide +kernel
theorem z_cro_89 : z_okr 89 zc_89 = true := by decide +kernel
theorem z_cro_90 : z_okr 90 zc_90 = true := by decide +kernel
theorem z_cro_91 : z_okr 91 zc_91 = true := by decide +kernel
theorem z_cro_92 : z_okr 92 zc_92 = true := by decide +kernel
theorem z_cro_93 : z_okr 93 zc_93 = true := by decide +kernel
theorem z_cro_94 : z_okr 94 zc_94 = true := by decide +kernel
theorem z_cro_95 : z_okr 95 zc_95 = true := by decide +kernel
theorem z_cro_96 : z_okr 96 zc_96 = true := by decide +kernel
theorem z_cro_97 : z_okr 97 zc_97 = true := by decide +kernel
theorem z_cro_98 : z_okr 98 zc_98 = true := by decide +kernel
theorem z_cro_99 : z_okr 99 zc_99 = true := by decide +kernel
theorem z_cro_100 : z_okr 100 zc_100 = true := by decide +kernel
theorem z_cro_101 : z_okr 101 zc_101 = true := by decide +kernel
theorem z_cro_102 : z_okr 102 zc_102 = true := by decide +kernel
theorem z_cro_103 : z_okr 103 zc_103 = true := by decide +kernel
theorem z_cro_104 : z_okr 104 zc_104 = true := by decide +kernel
theorem z_cro_105 : z_okr 105 zc_105 = true := by decide +kernel
theorem z_cro_106 : z_okr 106 zc_106 = true := by decide +kernel
theorem z_cro_107 : z_okr 107 zc_107 = true := by decide +kernel
theorem z_cro_108 : z_okr 108 zc_108 = true := by decide +kernel
theorem z_cro_109 : z_okr 109 zc_109 = true := by decide +kernel
theorem z_cro_110 : z_okr 110 zc_110 = true := by decide +kernel
theorem z_cro_111 : z_okr 111 zc_111 = true := by decide +kernel
theorem z_cro_112 : z_okr 112 zc_112 = true := by decide +kernel
theorem z_cro_113 : z_okr 113 zc_113 = true := by decide +kernel
theorem z_cro_114 : z_okr 114 zc_114 = true := by decide +kernel
theorem z_cro_115 : z_okr 115 zc_115 = true := by decide +kernel
theorem z_cro_116 : z_okr 116 zc_116 = true := by decide +kernel
theorem z_cro_117 : z_okr 117 zc_117 = true := by decide +kernel
theorem z_cro_118 : z_okr 118 zc_118 = true := by decide +kernel
theorem z_cro_119 : z_okr 119 zc_119 = true := by decide +kernel
theorem z_cro_120 : z_okr 120 zc_120 = true := by decide +kernel
theorem z_cro_121 : z_okr 121 zc_121 = true := by decide +kernel
theorem z_cro_122 : z_okr 122 zc_122 = true := by decide +kernel
theorem z_cro_123 : z_okr 123 zc_123 = true := by decide +kernel
theorem z_cro_124 : z_okr 124 zc_124 = true := by decide +kernel
theorem z_cro_125 : z_okr 125 zc_125 = true := by decide +kernel
theorem z_cro_126 : z_okr 126 zc_126 = true := by decide +kernel
theorem z_cro_127 : z_okr 127 zc_127 = true := by decide +kernel
theorem z_cro_128 : z_okr 128 zc_128 = true := by decide +kernel
theorem z_cro_129 : z_okr 129 zc_129 = true := by decide +kernel
theorem z_cro_130 : z_okr 130 zc_130 = true := by decide +kernel
theorem z_cro_131 : z_okr 131 zc_131 = true := by decide +kernel
theorem z_cro_132 : z_okr 132 zc_132 = true := by decide +kernel
theorem z_cro_133 : z_okr 133 zc_133 = true := by decide +kernel
theorem z_cro_134 : z_okr 134 zc_134 = true := by decide +kernel
theorem z_cro_135 : z_okr 135 zc_135 = true := by decide +kernel
theorem z_cro_136 : z_okr 136 zc_136 = true := by decide +kernel
theorem z_cro_137 : z_okr 137 zc_137 = true := by decide +kernel
theorem z_cro_138 : z_okr 138 zc_138 = true := by decide +kernel
theorem z_cro_139 : z_okr 139 zc_139 = true := by decide +kernel
theorem z_cro_140 : z_okr 140 zc_140 = true := by decide +kernel
theorem z_cro_141 : z_okr 141 zc_141 = true := by decide +kernel
theorem z_cro_142 : z_okr 142 zc_142 = true := by decide +kernel
theorem z_cro_143 : z_okr 143 zc_143 = true := by decide +kernel
theorem z_cro_144 : z_okr 144 zc_144 = true := by decide +kernel
theorem z_cro_145 : z_okr 145 zc_145 = true := by decide +kernel
theorem z_cro_146 : z_okr 146 zc_146 = true := by decide +kernel
theorem z_cro_147 : z_okr 147 zc_147 = true := by decide +kernel
theorem z_cro_148 : z_okr 148 zc_148 = true := by decide +kernel
theorem z_cro_149 : z_okr 149 zc_149 = true := by decide +kernel
theorem z_cro_150 : z_okr 150 zc_150 = true := by decide +kernel
theorem z_cro_151 : z_okr 151 zc_151 = true := by decide +kernel
theorem z_cro_152 : z_okr 152 zc_152 = true := by decide +kernel
theorem z_cro_153 : z_okr 153 zc_153 = true := by decide +kernel
theorem z_cro_154 : z_okr 154 zc_154 = true := by decide +kernel
theorem z_cro_155 : z_okr 155 zc_155 = true := by decide +kernel
theorem z_cro_156 : z_okr 156 zc_156 = true := by decide +kernel
theorem z_cro_157 : z_okr 157 zc_157 = true := by decide +kernel
theorem z_cro_158 : z_okr 158 zc_158 = true := by decide +kernel
theorem z_cro_159 : z_okr 159 zc_159 = true := by decide +kernel
theorem z_cro_160 : z_okr 160 zc_160 = true := by decide +kernel
theorem z_cro_161 : z_okr 161 zc_161 = true := by decide +kernel
theorem z_cro_162 : z_okr 162 zc_162 = true := by decide +kernel
theorem z_cro_163 : z_okr 163 zc_163 = true := by decide +kernel
theorem z_cro_164 : z_okr 164 zc_164 = true := by decide +kernel
theorem z_cro_165 : z_okr 165 zc_165 = true := by decide +kernel
theorem z_cro_166 : z_okr 166 zc_166 = true := by decide +kernel
theorem z_cro_167 : z_okr 167 zc_167 = true := by decide +kernel
theorem z_cro_168 : z_okr 168 zc_168 = true := by decide +kernel
theorem z_cro_169 : z_okr 169 zc_169 = true := by decide +kernel
theorem z_cro_170 : z_okr 170 zc_170 = true := by decide +kernel
theorem z_cro_171 : z_okr 171 zc_171 = true := by decide +kernel
theorem z_cro_172 : z_okr 172 zc_172 = true := by decide +kernel
theorem z_cro_173 : z_okr 173 zc_173 = true := by decide +kernel
theorem z_cro_174 : z_okr 174 zc_174 = true := by decide +kernel
theorem z_cro_175 : z_okr 175 zc_175 = true := by decide +kernel
theorem z_cro_176 : z_okr 176 zc_176 = true := by decide +kernel
theorem z_cro_177 : z_okr 177 zc_177 = true := by decide +kernel
theorem z_cro_178 : z_okr 178 zc_178 = true := by decide +kernel
theorem z_cro_179 : z_okr 179 zc_179 = true := by decide +kernel
theorem z_cro_180 : z_okr 180 zc_180 = true := by decide +kernel
theorem z_cro_181 : z_okr 181 zc_181 = true := by decide +kernel
theorem z_cro_182 : z_okr 182 zc_182 = true := by decide +kernel
theorem z_cro_183 : z_okr 183 zc_183 = true := by decide +kernel
theorem z_cro_184 : z_okr 184 zc_184 = true := by decide +kernel
theorem z_cro_185 : z_okr 185 zc_185 = true := by decide +kernel
theorem z_cro_186 : z_okr 186 zc_186 = true := by decide +kernel
theorem z_cro_187 : z_okr 187 zc_187 = true := by decide +kernel
theorem z_cro_188 : z_okr 188 zc_188 = true := by decide +kernel
theorem z_cro_189 : z_okr 189 zc_189 = true := by decide +kernel
theorem z_cro_190 : z_okr 190 zc_190 = true := by decide +kernel
theorem z_cro_191 : z_okr 191 zc_191 = true := by decide +kernel
theorem z_cro_192 : z_okr 192 zc_192 = true := by decide +kernel
theorem z_cro_193 : z_okr 193 zc_193 = true := by decide +kernel
theorem z_cro_194 : z_okr 194 zc_194 = true := by decide +kernel
theorem z_cro_195 : z_okr 195 zc_195 = true := by decide +kernel
theorem z_cro_196 : z_okr 196 zc_196 = true := by decide +kernel
theorem z_cro_197 : z_okr 197 zc_197 = true := by decide +kernel
theorem z_cro_198 : z_okr 198 zc_198 = true := by decide +kernel
theorem z_cro_199 : z_okr 199 zc_199 = true := by decide +kernel
theorem z_cro_200 : z_okr 200 zc_200 = true := by decide +kernel
theorem z_cro_201 : z_okr 201 zc_201 = true := by decide +kernel
theorem z_cro_202 : z_okr 202 zc_202 = true := by decide +kernel
theorem z_cro_203 : z_okr 203 zc_203 = true := by decide +kernel
theorem z_cro_204 : z_okr 204 zc_204 = true := by decide +kernel
theorem z_cro_205 : z_okr 205 zc_205 = true := by decide +kernel
theorem z_cro_206 : z_okr 206 zc_206 = true := by decide +kernel
theorem z_cro_207 : z_okr 207 zc_207 = true := by decide +kernel
theorem z_cro_208 : z_okr 208 zc_208 = true := by decide +kernel
theorem z_cro_209 : z_okr 209 zc_209 = true := by decide +kernel
theorem z_cro_210 : z_okr 210 zc_210 = true := by decide +kernel
theorem z_cro_211 : z_okr 211 zc_211 = true := by decide +kernel
theorem z_cro_212 : z_okr 212 zc_212 = true := by decide +kernel
theorem z_cro_213 : z_okr 213 zc_213 = true := by decide +kernel
theorem z_cro_214 : z_okr 214 zc_214 = true := by decide +kernel
theorem z_cro_215 : z_okr 215 zc_215 = true := by decide +kernel
theorem z_cro_216 : z_okr 216 zc_216 = true := by decide +kernel
theorem z_cro_217 : z_okr 217 zc_217 = true := by decide +kernel
theorem z_cro_218 : z_okr 218 zc_218 = true := by decide +kernel
theorem z_cro_219 : z_okr 219 zc_219 = true := by decide +kernel
theorem z_cro_220 : z_okr 220 zc_220 = true := by decide +kernel
theorem z_cro_221 : z_okr 221 zc_221 = true := by decide +kernel
theorem z_cro_222 : z_okr 222 zc_222 = true := by decide +kernel
theorem z_cro_223 : z_okr 223 zc_223 = true := by decide +kernel
theorem z_cro_224 : z_okr 224 zc_224 = true := by decide +kernel
theorem z_cro_225 : z_okr 225 zc_225 = true := by decide +kernel
theorem z_cro_226 : z_okr 226 zc_226 = true := by decide +kernel
theorem z_cro_227 : z_okr 227 zc_227 = true := by decide +kernel
theorem z_cro_228 : z_okr 228 zc_228 = true := by decide +kernel
theorem z_cro_229 : z_okr 229 zc_229 = true := by decide +kernel
theorem z_cro_230 : z_okr 230 zc_230 = true := by decide +kernel
theorem z_cro_231 : z_okr 231 zc_231 = true := by decide +kernel
theorem z_cro_232 : z_okr 232 zc_232 = true := by decide +kernel
theorem z_cro_233 : z_okr 233 zc_233 = true := by decide +kernel
theorem z_cro_234 : z_okr 234 zc_234 = true := by decide +kernel
theorem z_cro_235 : z_okr 235 zc_235 = true := by decide +kernel
theorem z_cro_236 : z_okr 236 zc_236 = true := by decide +kernel
theorem z_cro_237 : z_okr 237 zc_237 = true := by decide +kernel
theorem z_cro_238 : z_okr 238 zc_238 = true := by decide +kernel
theorem z_cro_239 : z_okr 239 zc_239 = true := by decide +kernel
theorem z_cro_240 : z_okr 240 zc_240 = true := by decide +kernel
theorem z_cro_241 : z_okr 241 zc_241 = true := by decide +kernel
theorem z_cro_242 : z_okr 242 zc_242 = true := by decide +kernel
theorem z_cro_243 : z_okr 243 zc_243 = true := by decide +kernel
theorem z_cro_244 : z_okr 244 zc_244 = true := by decide +kernel
theorem z_cro_245 : z_okr 245 zc_245 = true := by decide +kernel
theorem z_cro_246 : z_okr 246 zc_246 = true := by decide +kernel
end
section
/-- java/lang/String.coder()B -/
abbrev m_T_coder : Nat := 0
def zk_T_coder : List (Nat × List Bool) := []
/-- java/lang/String.length()I -/
abbrev m_T_length : Nat := 1
def zk_T_length : List (Nat × List Bool) := []
/-- java/lang/String.isLatin1()Z -/
abbrev m_T_isLatin1 : Nat := 2
def zk_T_isLatin1 : List (Nat × List Bool) := []
/-- jdk/internal/util/Preconditions.checkIndex(IILjava/util/function/BiFunction;)I -/
abbrev m_T2_checkIndex : Nat := 3
def zk_T2_checkIndex : List (Nat × List Bool) := []
/-- java/lang/String.checkIndex(II)V -/
abbrev m_T_checkIndex : Nat := 4
def zk_T_checkIndex : List (Nat × List Bool) := []
/-- java/lang/StringLatin1.charAt([BI)C -/
abbrev m_T1_charAt : Nat := 5
def zk_T1_charAt : List (Nat × List Bool) := []
/-- java/lang/String.charAt(I)C -/
abbrev m_T_charAt : Nat := 6
def zk_T_charAt : List (Nat × List Bool) := []
/-- JobText.isDigit(I)Z -/
abbrev m_J_isDigit : Nat := 7
def zk_J_isDigit : List (Nat × List Bool) := []
/-- JobText.longerName(JI)J -/
abbrev m_J_longerName : Nat := 8
def zk_J_longerName : List (Nat × List Bool) := []
/-- JobText.lowByte(JI)I -/
abbrev m_J_lowByte : Nat := 9
def zk_J_lowByte : List (Nat × List Bool) := []
/-- JobText.isTextByte(I)Z -/
abbrev m_J_isTextByte : Nat := 10
def zk_J_isTextByte : List (Nat × List Bool) := []
/-- JobText$Bytes.add(I)V -/
abbrev m_B_add : Nat := 11
def zk_B_add : List (Nat × List Bool) := []
/-- JobText.type(JI)I -/
abbrev m_J_type : Nat := 12
def zk_J_type : List (Nat × List Bool) := [(16, [true, true, false, true, true]), (65, [true, true, false, true, true])]
/-- JobText.cut(I)I -/
abbrev m_J_cut : Nat := 13
def zk_J_cut : List (Nat × List Bool) := []
/-- JobText.isFile(I)Z -/
abbrev m_J_isFile : Nat := 14
def zk_J_isFile : List (Nat × List Bool) := []
/-- JobText$Bytes.clear()V -/
abbrev m_B_clear : Nat := 15
def zk_B_clear : List (Nat × List Bool) := []
/-- JobText$Bytes.at(I)I -/
abbrev m_B_at : Nat := 16
def zk_B_at : List (Nat × List Bool) := []
/-- JobText$Bytes.become(LJobText$Bytes;II)V -/
abbrev m_B_become : Nat := 17
def zk_B_become : List (Nat × List Bool) := [(7, [true, true, true, true, true])]
/-- JobText.file(I)I -/
abbrev m_J_file : Nat := 18
def zk_J_file : List (Nat × List Bool) := []
/-- JobText.byteOf(II)I -/
abbrev m_J_byteOf : Nat := 19
def zk_J_byteOf : List (Nat × List Bool) := []
/-- JobText.isJob(I)Z -/
abbrev m_J_isJob : Nat := 20
def zk_J_isJob : List (Nat × List Bool) := []
/-- JobText$Fault.clear()V -/
abbrev m_F_clear : Nat := 21
def zk_F_clear : List (Nat × List Bool) := []
/-- JobText$Job.clear()V -/
abbrev m_K_clear : Nat := 22
def zk_K_clear : List (Nat × List Bool) := []
/-- JobText$Words.open(I)V -/
abbrev m_S_open : Nat := 23
def zk_S_open : List (Nat × List Bool) := [(39, [true, true])]
/-- JobText$Words.begin(LJobText$Job;I)V -/
abbrev m_S_begin : Nat := 24
def zk_S_begin : List (Nat × List Bool) := []
/-- JobText$Words.here()I -/
abbrev m_S_here : Nat := 25
def zk_S_here : List (Nat × List Bool) := []
/-- JobText$Fault.tell(III)V -/
abbrev m_F_tell : Nat := 26
def zk_F_tell : List (Nat × List Bool) := []
/-- JobText$Job.addComment(LJobText$Bytes;II)V -/
abbrev m_K_addComment : Nat := 27
def zk_K_addComment : List (Nat × List Bool) := []
/-- JobText$Words.meetComment()V -/
abbrev m_S_meetComment : Nat := 28
def zk_S_meetComment : List (Nat × List Bool) := [(19, [true, true, true, true, false]), (53, [true, true, true, true, true]), (76, [true, true, true, true, true]), (100, [true, true, true, true, true])]
/-- JobText$Words.skipToToken()V -/
abbrev m_S_skipToToken : Nat := 29
def zk_S_skipToToken : List (Nat × List Bool) := [(2, [true, true, false]), (49, [true, true, true])]
/-- JobText.isSmallLetter(I)Z -/
abbrev m_J_isSmallLetter : Nat := 30
def zk_J_isSmallLetter : List (Nat × List Bool) := []
/-- JobText.isWordByte(I)Z -/
abbrev m_J_isWordByte : Nat := 31
def zk_J_isWordByte : List (Nat × List Bool) := []
/-- JobText$Words.lookAtName()V -/
abbrev m_S_lookAtName : Nat := 32
def zk_S_lookAtName : List (Nat × List Bool) := [(5, [true, false]), (62, [true, false]), (89, [true, true])]
/-- JobText$Words.lookAtNumber()V -/
abbrev m_S_lookAtNumber : Nat := 33
def zk_S_lookAtNumber : List (Nat × List Bool) := [(20, [true, true, false, false]), (81, [true, true, false, false]), (121, [true, true, true, true])]
/-- java/lang/StringLatin1.canEncode(I)Z -/
abbrev m_T1_canEncode : Nat := 34
def zk_T1_canEncode : List (Nat × List Bool) := []
/-- java/lang/StringLatin1.indexOfChar([BIII)I -/
abbrev m_T1_indexOfChar : Nat := 35
def zk_T1_indexOfChar : List (Nat × List Bool) := [(7, [true, true, true, true, true, true])]
/-- java/lang/StringLatin1.indexOf([BIII)I -/
abbrev m_T1_indexOf : Nat := 36
def zk_T1_indexOf : List (Nat × List Bool) := []
/-- java/lang/String.indexOf(II)I -/
abbrev m_T_indexOf : Nat := 37
def zk_T_indexOf : List (Nat × List Bool) := []
/-- java/lang/String.indexOf(I)I -/
abbrev m_T_indexOf2 : Nat := 38
def zk_T_indexOf2 : List (Nat × List Bool) := []
/-- JobText$Words.look()V -/
abbrev m_S_look : Nat := 39
def zk_S_look : List (Nat × List Bool) := []
/-- JobText$Reader.tellHere(I)V -/
abbrev m_R_tellHere : Nat := 40
def zk_R_tellHere : List (Nat × List Bool) := []
/-- JobText$Words.close()V -/
abbrev m_S_close : Nat := 41
def zk_S_close : List (Nat × List Bool) := [(17, [true])]
/-- JobText$Reader.beginStatement()V -/
abbrev m_R_beginStatement : Nat := 42
def zk_R_beginStatement : List (Nat × List Bool) := []
/-- JobText$Words.isOpen(I)Z -/
abbrev m_S_isOpen : Nat := 43
def zk_S_isOpen : List (Nat × List Bool) := [(2, [true, true, true])]
/-- JobText$Reader.goOnWithUse()V -/
abbrev m_R_goOnWithUse : Nat := 44
def zk_R_goOnWithUse : List (Nat × List Bool) := []
/-- JobText$Pair.begin(LJobText$Words;)V -/
abbrev m_P_begin : Nat := 45
def zk_P_begin : List (Nat × List Bool) := []
/-- JobText$Job.noteStatement(II)V -/
abbrev m_K_noteStatement : Nat := 46
def zk_K_noteStatement : List (Nat × List Bool) := []
/-- JobText$Reader.beginSet()V -/
abbrev m_R_beginSet : Nat := 47
def zk_R_beginSet : List (Nat × List Bool) := [(20, [true, true])]
/-- JobText$Pair.tellSecond(LJobText$Words;)V -/
abbrev m_P_tellSecond : Nat := 48
def zk_P_tellSecond : List (Nat × List Bool) := []
/-- JobText$Reader.beginLoop()V -/
abbrev m_R_beginLoop : Nat := 49
def zk_R_beginLoop : List (Nat × List Bool) := []
/-- JobText$Reader.goOnWithLine()V -/
abbrev m_R_goOnWithLine : Nat := 50
def zk_R_goOnWithLine : List (Nat × List Bool) := []
/-- JobText$Job.find(J)I -/
abbrev m_K_find : Nat := 51
def zk_K_find : List (Nat × List Bool) := [(2, [true, true, false, true])]
/-- JobText$Operator.begin(LJobText$Words;)V -/
abbrev m_O_begin : Nat := 52
def zk_O_begin : List (Nat × List Bool) := []
/-- JobText$Reader.beginOperator()V -/
abbrev m_R_beginOperator : Nat := 53
def zk_R_beginOperator : List (Nat × List Bool) := []
/-- JobText$Reader.tellKind(I)V -/
abbrev m_R_tellKind : Nat := 54
def zk_R_tellKind : List (Nat × List Bool) := []
/-- JobText$Reader.kindOf(I)I -/
abbrev m_R_kindOf : Nat := 55
def zk_R_kindOf : List (Nat × List Bool) := [(2, [true, true])]
/-- JobText$Operator.addInput(LJobText$Words;)V -/
abbrev m_O_addInput : Nat := 56
def zk_O_addInput : List (Nat × List Bool) := []
/-- JobText$Reader.addInput()V -/
abbrev m_R_addInput : Nat := 57
def zk_R_addInput : List (Nat × List Bool) := []
/-- JobText$Operator.tellInputSide(LJobText$Words;)V -/
abbrev m_O_tellInputSide : Nat := 58
def zk_O_tellInputSide : List (Nat × List Bool) := []
/-- JobText$Reader.goOnWithOperator()V -/
abbrev m_R_goOnWithOperator : Nat := 59
def zk_R_goOnWithOperator : List (Nat × List Bool) := []
/-- JobText$Reader.boundedNumber(II)I -/
abbrev m_R_boundedNumber : Nat := 60
def zk_R_boundedNumber : List (Nat × List Bool) := []
/-- JobText$Operator.sideOf(J)I -/
abbrev m_O_sideOf : Nat := 61
def zk_O_sideOf : List (Nat × List Bool) := [(2, [true, true, false, true])]
/-- JobText$Reader.addSide()V -/
abbrev m_R_addSide : Nat := 62
def zk_R_addSide : List (Nat × List Bool) := []
/-- JobText$Reader.goOnWithProperty()V -/
abbrev m_R_goOnWithProperty : Nat := 63
def zk_R_goOnWithProperty : List (Nat × List Bool) := []
/-- JobText$Reader.propertyState(I)I -/
abbrev m_R_propertyState : Nat := 64
def zk_R_propertyState : List (Nat × List Bool) := []
/-- JobText$Reader.goOnBehind()V -/
abbrev m_R_goOnBehind : Nat := 65
def zk_R_goOnBehind : List (Nat × List Bool) := []
/-- JobText$Reader.meetToken()V -/
abbrev m_R_meetToken : Nat := 66
def zk_R_meetToken : List (Nat × List Bool) := [(25, [true, true])]
/-- JobText$Reader.readText(LJobText$Job;I)V -/
abbrev m_R_readText : Nat := 67
def zk_R_readText : List (Nat × List Bool) := [(36, [true, true, true, true])]
/-- JobText$Judge.judgeInput(LJobText$Job;LJobText$Operator;LJobText$Input;)V -/
abbrev m_U_judgeInput : Nat := 68
def zk_U_judgeInput : List (Nat × List Bool) := [(74, [true, true, true, true, true]), (115, [true, true, true, true, true])]
/-- JobText$Operator.hasWrongInputCount()Z -/
abbrev m_O_hasWrongInputCount : Nat := 69
def zk_O_hasWrongInputCount : List (Nat × List Bool) := []
/-- JobText$Judge.judgeOperator(LJobText$Job;LJobText$Operator;)V -/
abbrev m_U_judgeOperator : Nat := 70
def zk_U_judgeOperator : List (Nat × List Bool) := [(2, [true, true, true, true])]
/-- JobText$Judge.judgeLoop(LJobText$Job;LJobText$Pair;)V -/
abbrev m_U_judgeLoop : Nat := 71
def zk_U_judgeLoop : List (Nat × List Bool) := []
/-- JobText$Judge.comesFrom(II)Z -/
abbrev m_U_comesFrom : Nat := 72
def zk_U_comesFrom : List (Nat × List Bool) := []
/-- JobText$Judge.findOrigins(LJobText$Job;)V -/
abbrev m_U_findOrigins : Nat := 73
def zk_U_findOrigins : List (Nat × List Bool) := [(2, [true, true, true, false, false]), (27, [true, true, true, true, true]), (71, [true, true, true, false, false]), (81, [true, true, true, true, false])]
/-- JobText$Judge.judgeCycles(LJobText$Job;)V -/
abbrev m_U_judgeCycles : Nat := 74
def zk_U_judgeCycles : List (Nat × List Bool) := [(2, [true, true, true])]
/-- JobText$Judge.judgeLoopBack(LJobText$Pair;)V -/
abbrev m_U_judgeLoopBack : Nat := 75
def zk_U_judgeLoopBack : List (Nat × List Bool) := []
/-- JobText$Layout.inputsStand(LJobText$Operator;)Z -/
abbrev m_Y_inputsStand : Nat := 76
def zk_Y_inputsStand : List (Nat × List Bool) := [(2, [true, true, true])]
/-- JobText$Layout.firstReady(LJobText$Job;)I -/
abbrev m_Y_firstReady : Nat := 77
def zk_Y_firstReady : List (Nat × List Bool) := [(2, [true, true, true])]
/-- JobText$Layout.levelOf(LJobText$Operator;)I -/
abbrev m_Y_levelOf : Nat := 78
def zk_Y_levelOf : List (Nat × List Bool) := [(4, [true, true, true, true])]
/-- JobText$Layout.commonKey(LJobText$Operator;)J -/
abbrev m_Y_commonKey : Nat := 79
def zk_Y_commonKey : List (Nat × List Bool) := [(27, [true, true, true, false, true])]
/-- JobText$Layout.keyOf(LJobText$Operator;)J -/
abbrev m_Y_keyOf : Nat := 80
def zk_Y_keyOf : List (Nat × List Bool) := []
/-- JobText$Layout.arrange(LJobText$Job;)V -/
abbrev m_Y_arrange : Nat := 81
def zk_Y_arrange : List (Nat × List Bool) := [(7, [true, true, true, false]), (31, [true, true, true, false])]
/-- JobText$Operator.wantsKeyedInputs()Z -/
abbrev m_O_wantsKeyedInputs : Nat := 82
def zk_O_wantsKeyedInputs : List (Nat × List Bool) := []
/-- JobText$Judge.judgeKeys(LJobText$Job;)V -/
abbrev m_U_judgeKeys : Nat := 83
def zk_U_judgeKeys : List (Nat × List Bool) := [(2, [true, true, true, false])]
/-- JobText$Judge.judgeText(LJobText$Job;)V -/
abbrev m_U_judgeText : Nat := 84
def zk_U_judgeText : List (Nat × List Bool) := [(2, [true, true, true]), (39, [true, true, true]), (74, [true, true, true]), (96, [true, true, true]), (130, [true, true, true])]
/-- JobText.numberOf(J)I -/
abbrev m_J_numberOf : Nat := 85
def zk_J_numberOf : List (Nat × List Bool) := [(2, [true, true, false, true])]
/-- JobText.newNames(LJobText$Job;)I -/
abbrev m_J_newNames : Nat := 86
def zk_J_newNames : List (Nat × List Bool) := [(4, [true, true, true, true])]
/-- JobText.giveNumbers(LJobText$Job;)V -/
abbrev m_J_giveNumbers : Nat := 87
def zk_J_giveNumbers : List (Nat × List Bool) := [(2, [true, true, true, false, false])]
/-- JobText$Flow.commonDivisor(JJ)J -/
abbrev m_W_commonDivisor : Nat := 88
def zk_W_commonDivisor : List (Nat × List Bool) := [(9, [true, false, true, false, true, false, true, false, true, false, false])]
/-- JobText$Flow.put(JJ)V -/
abbrev m_W_put : Nat := 89
def zk_W_put : List (Nat × List Bool) := [(30, [true, true, false, true, false, true, false])]
/-- JobText$Layout.flowOf(LJobText$Input;)LJobText$Flow; -/
abbrev m_Y_flowOf : Nat := 90
def zk_Y_flowOf : List (Nat × List Bool) := []
/-- JobText$Flow.become(LJobText$Flow;)V -/
abbrev m_W_become : Nat := 91
def zk_W_become : List (Nat × List Bool) := []
/-- JobText$Flow.lessen(LJobText$Flow;)V -/
abbrev m_W_lessen : Nat := 92
def zk_W_lessen : List (Nat × List Bool) := []
/-- JobText$Flow.add(LJobText$Flow;)V -/
abbrev m_W_add : Nat := 93
def zk_W_add : List (Nat × List Bool) := []
/-- JobText$Layout.findWhatComes(LJobText$Operator;)V -/
abbrev m_Y_findWhatComes : Nat := 94
def zk_Y_findWhatComes : List (Nat × List Bool) := [(14, [true, true, false]), (58, [true, true, true])]
/-- JobText$Flow.multiply(II)V -/
abbrev m_W_multiply : Nat := 95
def zk_W_multiply : List (Nat × List Bool) := []
/-- JobText$Layout.reckonFlow(LJobText$Operator;I)V -/
abbrev m_Y_reckonFlow : Nat := 96
def zk_Y_reckonFlow : List (Nat × List Bool) := [(46, [true, true, true, false, false])]
/-- JobText$Layout.countReaders(LJobText$Job;)V -/
abbrev m_Y_countReaders : Nat := 97
def zk_Y_countReaders : List (Nat × List Bool) := [(2, [true, true, true, false, false, false]), (32, [true, true, true, false, false, false]), (50, [true, true, true, true, true, false]), (124, [true, true, true, false, false, false])]
/-- JobText$Operator.parOrOne()I -/
abbrev m_O_parOrOne : Nat := 98
def zk_O_parOrOne : List (Nat × List Bool) := []
/-- JobText$Layout.isFused(LJobText$Job;LJobText$Operator;)Z -/
abbrev m_Y_isFused : Nat := 99
def zk_Y_isFused : List (Nat × List Bool) := [(33, [true, true, true, false, false]), (38, [true, true, true, false, false])]
/-- JobText$Layout.findChains(LJobText$Job;)V -/
abbrev m_Y_findChains : Nat := 100
def zk_Y_findChains : List (Nat × List Bool) := [(12, [true, true, true, false, false])]
/-- JobText$Layout.channelsBetween(LJobText$Job;II)I -/
abbrev m_Y_channelsBetween : Nat := 101
def zk_Y_channelsBetween : List (Nat × List Bool) := []
/-- JobText$Layout.countChannels(LJobText$Job;)V -/
abbrev m_Y_countChannels : Nat := 102
def zk_Y_countChannels : List (Nat × List Bool) := [(7, [true, true, true, false]), (17, [true, true, true, true]), (82, [true, true, true, false])]
/-- JobText$Layout.reckon(LJobText$Job;)V -/
abbrev m_Y_reckon : Nat := 103
def zk_Y_reckon : List (Nat × List Bool) := [(2, [true, true, true, false])]
/-- JobText.putJob(I)V -/
abbrev m_J_putJob : Nat := 104
def zk_J_putJob : List (Nat × List Bool) := []
/-- JobText.read(II)I -/
abbrev m_J_read : Nat := 105
def zk_J_read : List (Nat × List Bool) := [(56, [true, true, true])]
/-- JobText.drop(I)I -/
abbrev m_J_drop : Nat := 106
def zk_J_drop : List (Nat × List Bool) := []
/-- JobText.fault(I)I -/
abbrev m_J_fault : Nat := 107
def zk_J_fault : List (Nat × List Bool) := []
/-- JobText.refusal(III)I -/
abbrev m_J_refusal : Nat := 108
def zk_J_refusal : List (Nat × List Bool) := []
/-- JobText$Job.howMany(I)I -/
abbrev m_K_howMany : Nat := 109
def zk_K_howMany : List (Nat × List Bool) := []
/-- JobText.count(II)I -/
abbrev m_J_count : Nat := 110
def zk_J_count : List (Nat × List Bool) := []
/-- JobText.operatorRefusal(IIII)I -/
abbrev m_J_operatorRefusal : Nat := 111
def zk_J_operatorRefusal : List (Nat × List Bool) := []
/-- JobText$Layout.laid(II)I -/
abbrev m_Y_laid : Nat := 112
def zk_Y_laid : List (Nat × List Bool) := []
/-- JobText$Operator.told(I)I -/
abbrev m_O_told : Nat := 113
def zk_O_told : List (Nat × List Bool) := []
/-- JobText.operator(III)I -/
abbrev m_J_operator : Nat := 114
def zk_J_operator : List (Nat × List Bool) := []
/-- JobText.nameLength(J)I -/
abbrev m_J_nameLength : Nat := 115
def zk_J_nameLength : List (Nat × List Bool) := [(4, [true, false, true, true, false])]
/-- JobText.nameByteFromEnd(JI)I -/
abbrev m_J_nameByteFromEnd : Nat := 116
def zk_J_nameByteFromEnd : List (Nat × List Bool) := [(5, [true, false, true, true, false, true])]
/-- JobText.nameByte(JI)I -/
abbrev m_J_nameByte : Nat := 117
def zk_J_nameByte : List (Nat × List Bool) := []
/-- JobText.letter(IIII)I -/
abbrev m_J_letter : Nat := 118
def zk_J_letter : List (Nat × List Bool) := []
/-- JobText.input(IIII)I -/
abbrev m_J_input : Nat := 119
def zk_J_input : List (Nat × List Bool) := []
/-- JobText.flow(III)I -/
abbrev m_J_flow : Nat := 120
def zk_J_flow : List (Nat × List Bool) := [(51, [true, true, true, true, true, true, false])]
/-- JobText.set(III)I -/
abbrev m_J_set : Nat := 121
def zk_J_set : List (Nat × List Bool) := []
/-- JobText.setLetter(IIZI)I -/
abbrev m_J_setLetter : Nat := 122
def zk_J_setLetter : List (Nat × List Bool) := []
/-- JobText.loop(III)I -/
abbrev m_J_loop : Nat := 123
def zk_J_loop : List (Nat × List Bool) := []
/-- JobText$Bytes.addBytes(LJobText$Bytes;)V -/
abbrev m_B_addBytes : Nat := 124
def zk_B_addBytes : List (Nat × List Bool) := [(2, [true, true, true])]
/-- JobText$Job.printComment(LJobText$Bytes;I)V -/
abbrev m_K_printComment : Nat := 125
def zk_K_printComment : List (Nat × List Bool) := []
/-- JobText$Bytes.addText(Ljava/lang/String;)V -/
abbrev m_B_addText : Nat := 126
def zk_B_addText : List (Nat × List Bool) := [(2, [true, true, true])]
/-- JobText$Bytes.addName(J)V -/
abbrev m_B_addName : Nat := 127
def zk_B_addName : List (Nat × List Bool) := [(7, [true, true, false, true])]
/-- JobText$Operator.kindWord()Ljava/lang/String; -/
abbrev m_O_kindWord : Nat := 128
def zk_O_kindWord : List (Nat × List Bool) := []
/-- JobText$Operator.printInputs(LJobText$Bytes;)V -/
abbrev m_O_printInputs : Nat := 129
def zk_O_printInputs : List (Nat × List Bool) := [(2, [true, true, true])]
/-- JobText$Bytes.addNumber(I)V -/
abbrev m_B_addNumber : Nat := 130
def zk_B_addNumber : List (Nat × List Bool) := [(4, [true, true, true]), (18, [true, true, true])]
/-- JobText$Operator.printNumber(LJobText$Bytes;Ljava/lang/String;I)V -/
abbrev m_O_printNumber : Nat := 131
def zk_O_printNumber : List (Nat × List Bool) := []
/-- JobText$Operator.printSides(LJobText$Bytes;)V -/
abbrev m_O_printSides : Nat := 132
def zk_O_printSides : List (Nat × List Bool) := [(2, [true, true, true])]
/-- JobText$Operator.printTo(LJobText$Bytes;)V -/
abbrev m_O_printTo : Nat := 133
def zk_O_printTo : List (Nat × List Bool) := [(113, [true, true])]
/-- JobText$Pair.printSetTo(LJobText$Bytes;)V -/
abbrev m_P_printSetTo : Nat := 134
def zk_P_printSetTo : List (Nat × List Bool) := []
/-- JobText$Pair.printLoopTo(LJobText$Bytes;)V -/
abbrev m_P_printLoopTo : Nat := 135
def zk_P_printLoopTo : List (Nat × List Bool) := []
/-- JobText$Job.printStatement(LJobText$Bytes;I)V -/
abbrev m_K_printStatement : Nat := 136
def zk_K_printStatement : List (Nat × List Bool) := []
/-- JobText$Job.printTo(LJobText$Bytes;)V -/
abbrev m_K_printTo : Nat := 137
def zk_K_printTo : List (Nat × List Bool) := [(4, [true, true, true, true]), (18, [true, true, true, true]), (60, [true, true, true, true])]
/-- JobText.print(I)I -/
abbrev m_J_print : Nat := 138
def zk_J_print : List (Nat × List Bool) := []
/-- JobText.out(I)I -/
abbrev m_J_out : Nat := 139
def zk_J_out : List (Nat × List Bool) := []
/-- JobText.take()I -/
abbrev m_J_take : Nat := 140
def zk_J_take : List (Nat × List Bool) := []
/-- JobText.addDifference(III)V -/
abbrev m_J_addDifference : Nat := 141
def zk_J_addDifference : List (Nat × List Bool) := []
/-- JobText$Input.isLike(LJobText$Input;)Z -/
abbrev m_I_isLike : Nat := 142
def zk_I_isLike : List (Nat × List Bool) := []
/-- JobText$Operator.hasInputsOf(LJobText$Operator;)Z -/
abbrev m_O_hasInputsOf : Nat := 143
def zk_O_hasInputsOf : List (Nat × List Bool) := [(15, [true, true, true])]
/-- JobText$Operator.hasSidesOf(LJobText$Operator;)Z -/
abbrev m_O_hasSidesOf : Nat := 144
def zk_O_hasSidesOf : List (Nat × List Bool) := [(15, [true, true, true])]
/-- JobText$Operator.differenceBits(LJobText$Operator;)I -/
abbrev m_O_differenceBits : Nat := 145
def zk_O_differenceBits : List (Nat × List Bool) := [(31, [true, true, true]), (50, [true, true, true]), (70, [true, true, true]), (99, [true, true, true]), (101, [true, true, true]), (122, [true, true, true])]
/-- JobText.compareFirst()V -/
abbrev m_J_compareFirst : Nat := 146
def zk_J_compareFirst : List (Nat × List Bool) := [(2, [true, true, false, false, false])]
/-- JobText.findNew()V -/
abbrev m_J_findNew : Nat := 147
def zk_J_findNew : List (Nat × List Bool) := [(2, [true, true])]
/-- JobText.differ()I -/
abbrev m_J_differ : Nat := 148
def zk_J_differ : List (Nat × List Bool) := []
/-- JobText.difference(II)I -/
abbrev m_J_difference : Nat := 149
def zk_J_difference : List (Nat × List Bool) := []
/-- JobText.numbers()I -/
abbrev m_J_numbers : Nat := 150
def zk_J_numbers : List (Nat × List Bool) := []
/-- JobText.numbered(II)I -/
abbrev m_J_numbered : Nat := 151
def zk_J_numbered : List (Nat × List Bool) := []
/-- JobTextModel.in(III)Z -/
abbrev m_M_in : Nat := 152
def zk_M_in : List (Nat × List Bool) := []
/-- JobTextModel.type(JI)I -/
abbrev m_M_type : Nat := 153
def zk_M_type : List (Nat × List Bool) := [(17, [true, true, false, true, true, false]), (83, [true, true, false, true, true, false])]
/-- JobTextModel.cut(I)I -/
abbrev m_M_cut : Nat := 154
def zk_M_cut : List (Nat × List Bool) := []
/-- JobTextModel.file(I)I -/
abbrev m_M_file : Nat := 155
def zk_M_file : List (Nat × List Bool) := [(13, [true, true, true])]
/-- JobTextModel.byteOf(II)I -/
abbrev m_M_byteOf : Nat := 156
def zk_M_byteOf : List (Nat × List Bool) := []
/-- JobTextModel.empty()V -/
abbrev m_M_empty : Nat := 157
def zk_M_empty : List (Nat × List Bool) := []
/-- JobTextModel.byteAt(I)I -/
abbrev m_M_byteAt : Nat := 158
def zk_M_byteAt : List (Nat × List Bool) := []
/-- JobTextModel.keepComment(II)Z -/
abbrev m_M_keepComment : Nat := 159
def zk_M_keepComment : List (Nat × List Bool) := [(5, [true, true, true, true, true, false, false]), (27, [true, true, true, true, true, false, false]), (52, [true, true, true, true, true, false, false]), (101, [true, true, true, true, true, true, true])]
/-- JobTextModel.wrong(III)Z -/
abbrev m_M_wrong : Nat := 160
def zk_M_wrong : List (Nat × List Bool) := []
/-- JobTextModel.pass()Z -/
abbrev m_M_pass : Nat := 161
def zk_M_pass : List (Nat × List Bool) := [(16, [true, true, true, false]), (34, [true, true, true, false]), (42, [true, true, true, true]), (72, [true, true, true, true]), (96, [true, true, true, true])]
/-- JobTextModel.isLetter(I)Z -/
abbrev m_M_isLetter : Nat := 162
def zk_M_isLetter : List (Nat × List Bool) := []
/-- JobTextModel.isDigit(I)Z -/
abbrev m_M_isDigit : Nat := 163
def zk_M_isDigit : List (Nat × List Bool) := []
/-- JobTextModel.word(IIIIII)J -/
abbrev m_M_word : Nat := 164
def zk_M_word : List (Nat × List Bool) := [(43, [true, true, true, true, true, true, true, false]), (63, [true, true, true, true, true, true, true, false]), (85, [true, true, true, true, true, true, true, false])]
/-- JobTextModel.keyName(I)J -/
abbrev m_M_keyName : Nat := 165
def zk_M_keyName : List (Nat × List Bool) := []
/-- JobTextModel.keyOf(J)I -/
abbrev m_M_keyOf : Nat := 166
def zk_M_keyOf : List (Nat × List Bool) := [(2, [true, false, true])]
/-- JobTextModel.look()Z -/
abbrev m_M_look : Nat := 167
def zk_M_look : List (Nat × List Bool) := [(76, [true, true, true, true, true, false, false]), (180, [true, true, true, true, true, false, false]), (199, [true, true, true, true, true, false, false]), (282, [true, true, true, true, true, true, false]), (328, [true, true, true, true, true, true, false]), (399, [true, true, true, true, false, false, false])]
/-- JobTextModel.want(I)Z -/
abbrev m_M_want : Nat := 168
def zk_M_want : List (Nat × List Bool) := [(27, [true, true])]
/-- JobTextModel.bounded(II)Z -/
abbrev m_M_bounded : Nat := 169
def zk_M_bounded : List (Nat × List Bool) := []
/-- JobTextModel.readUse()Z -/
abbrev m_M_readUse : Nat := 170
def zk_M_readUse : List (Nat × List Bool) := [(74, [true, true, true, true, true])]
/-- JobTextModel.begin(II)V -/
abbrev m_M_begin : Nat := 171
def zk_M_begin : List (Nat × List Bool) := []
/-- JobTextModel.readSet()Z -/
abbrev m_M_readSet : Nat := 172
def zk_M_readSet : List (Nat × List Bool) := [(49, [true, true]), (176, [true, true]), (198, [true, true])]
/-- JobTextModel.readLoop()Z -/
abbrev m_M_readLoop : Nat := 173
def zk_M_readLoop : List (Nat × List Bool) := [(14, [true, true, false]), (73, [true, true, false])]
/-- JobTextModel.operatorOf(IJ)I -/
abbrev m_M_operatorOf : Nat := 174
def zk_M_operatorOf : List (Nat × List Bool) := [(3, [true, true, true, false, true])]
/-- JobTextModel.readName()Z -/
abbrev m_M_readName : Nat := 175
def zk_M_readName : List (Nat × List Bool) := []
/-- JobTextModel.mayHave(I)I -/
abbrev m_M_mayHave : Nat := 176
def zk_M_mayHave : List (Nat × List Bool) := [(16, [true, true]), (30, [true, true]), (37, [true, true]), (62, [true, true]), (63, [true, true]), (82, [true, true]), (89, [true, true])]
/-- JobTextModel.readInputSide(I)Z -/
abbrev m_M_readInputSide : Nat := 177
def zk_M_readInputSide : List (Nat × List Bool) := []
/-- JobTextModel.readInput(I)Z -/
abbrev m_M_readInput : Nat := 178
def zk_M_readInput : List (Nat × List Bool) := []
/-- JobTextModel.readSide(I)Z -/
abbrev m_M_readSide : Nat := 179
def zk_M_readSide : List (Nat × List Bool) := [(36, [true, true, true])]
/-- JobTextModel.readNumber(II)Z -/
abbrev m_M_readNumber : Nat := 180
def zk_M_readNumber : List (Nat × List Bool) := []
/-- JobTextModel.readProperty(II)Z -/
abbrev m_M_readProperty : Nat := 181
def zk_M_readProperty : List (Nat × List Bool) := [(127, [true, true, true, true]), (128, [true, true, true, true])]
/-- JobTextModel.readRest(IZ)Z -/
abbrev m_M_readRest : Nat := 182
def zk_M_readRest : List (Nat × List Bool) := [(19, [true, true, true, true, true, true, true, false, false])]
/-- JobTextModel.readSource()Z -/
abbrev m_M_readSource : Nat := 183
def zk_M_readSource : List (Nat × List Bool) := []
/-- JobTextModel.readOperator()Z -/
abbrev m_M_readOperator : Nat := 184
def zk_M_readOperator : List (Nat × List Bool) := []
/-- JobTextModel.readText(I)Z -/
abbrev m_M_readText : Nat := 185
def zk_M_readText : List (Nat × List Bool) := [(23, [true, true, false])]
/-- JobTextModel.sideOf(IJ)I -/
abbrev m_M_sideOf : Nat := 186
def zk_M_sideOf : List (Nat × List Bool) := [(3, [true, true, true, false, true])]
/-- JobTextModel.judgeInput(I)Z -/
abbrev m_M_judgeInput : Nat := 187
def zk_M_judgeInput : List (Nat × List Bool) := [(109, [true, true, true])]
/-- JobTextModel.judgeOperators()Z -/
abbrev m_M_judgeOperators : Nat := 188
def zk_M_judgeOperators : List (Nat × List Bool) := [(3, [true, true, false, false]), (18, [true, true, true, false]), (117, [true, true, true, false]), (122, [true, true, true, false])]
/-- JobTextModel.judgeLoops()Z -/
abbrev m_M_judgeLoops : Nat := 189
def zk_M_judgeLoops : List (Nat × List Bool) := [(2, [true, true, false, false]), (21, [true, true, true, true])]
/-- JobTextModel.findComes()V -/
abbrev m_M_findComes : Nat := 190
def zk_M_findComes : List (Nat × List Bool) := [(9, [true, true, true, false, false]), (31, [true, true, true, false, false]), (38, [true, true, true, true, false]), (89, [true, true, true, false, false]), (96, [true, true, true, true, false]), (104, [true, true, true, true, true])]
/-- JobTextModel.judgeRings()Z -/
abbrev m_M_judgeRings : Nat := 191
def zk_M_judgeRings : List (Nat × List Bool) := [(6, [true, true, false]), (61, [true, true, false])]
/-- JobTextModel.isReady(I)Z -/
abbrev m_M_isReady : Nat := 192
def zk_M_isReady : List (Nat × List Bool) := [(4, [true, true, true, true])]
/-- JobTextModel.layOut()V -/
abbrev m_M_layOut : Nat := 193
def zk_M_layOut : List (Nat × List Bool) := [(12, [true, true, true, true, false, false, false]), (35, [true, true, true, true, false, false, false]), (43, [true, true, true, true, true, false, false]), (99, [true, true, true, true, true, true, false])]
/-- JobTextModel.keyedAt(II)J -/
abbrev m_M_keyedAt : Nat := 194
def zk_M_keyedAt : List (Nat × List Bool) := []
/-- JobTextModel.findKey(I)V -/
abbrev m_M_findKey : Nat := 195
def zk_M_findKey : List (Nat × List Bool) := [(83, [true, true, true, true, false, true])]
/-- JobTextModel.judgeKeys()Z -/
abbrev m_M_judgeKeys : Nat := 196
def zk_M_judgeKeys : List (Nat × List Bool) := [(2, [true, true, false, false, false]), (65, [true, true, true, true, true]), (109, [true, true, true, true, true])]
/-- JobTextModel.big()V -/
abbrev m_M_big : Nat := 197
def zk_M_big : List (Nat × List Bool) := []
/-- JobTextModel.fraction(JJ)V -/
abbrev m_M_fraction : Nat := 198
def zk_M_fraction : List (Nat × List Bool) := [(6, [true, true, false, true, false, true, false, true, false, false, false])]
/-- JobTextModel.comesTo(I)V -/
abbrev m_M_comesTo : Nat := 199
def zk_M_comesTo : List (Nat × List Bool) := [(8, [true, true, true, false, true, false, true, false, false, false, false, false, false, false]), (54, [true, true, true, false, true, false, true, true, false, false, false, false, false, false]), (78, [true, true, true, false, true, false, true, true, true, false, false, false, false, false]), (102, [true, true, true, false, true, false, true, true, true, true, false, false, false, false]), (172, [true, true, true, false, true, false, true, true, true, true, false, true, false, false]), (186, [true, true, true, false, true, false, true, true, true, true, false, true, false, true]), (202, [true, true, true, false, true, false, true, true, true, true, false, true, false, true])]
/-- JobTextModel.findFlow(I)V -/
abbrev m_M_findFlow : Nat := 200
def zk_M_findFlow : List (Nat × List Bool) := [(46, [true, true, false, false, false, false, false, false, false, false]), (77, [true, true, true, false, true, false, false, false, false, false]), (99, [true, true, true, false, true, false, true, false, false, false]), (120, [true, true, true, false, true, false, true, false, true, false]), (181, [true, true, true, false, true, false, true, false, true, false])]
/-- JobTextModel.parOf(I)I -/
abbrev m_M_parOf : Nat := 201
def zk_M_parOf : List (Nat × List Bool) := []
/-- JobTextModel.readersOf(IIZ)I -/
abbrev m_M_readersOf : Nat := 202
def zk_M_readersOf : List (Nat × List Bool) := [(9, [true, true, true, true, true, true, false]), (28, [true, true, true, true, true, true, true]), (100, [true, true, true, true, true, true, false])]
/-- JobTextModel.findFused(I)V -/
abbrev m_M_findFused : Nat := 203
def zk_M_findFused : List (Nat × List Bool) := [(16, [true, true, true, false, false]), (22, [true, true, true, false, false]), (58, [true, true, true, false, false]), (59, [true, true, true, false, false]), (76, [true, true, true, true, false])]
/-- JobTextModel.channelsOf(II)I -/
abbrev m_M_channelsOf : Nat := 204
def zk_M_channelsOf : List (Nat × List Bool) := []
/-- JobTextModel.findChains()V -/
abbrev m_M_findChains : Nat := 205
def zk_M_findChains : List (Nat × List Bool) := [(23, [true, true, false, false, false]), (126, [true, true, true, true, true]), (176, [true, true, false, false, false])]
/-- JobTextModel.judge()Z -/
abbrev m_M_judge : Nat := 206
def zk_M_judge : List (Nat × List Bool) := [(38, [true, true])]
/-- JobTextModel.numberOf(J)I -/
abbrev m_M_numberOf : Nat := 207
def zk_M_numberOf : List (Nat × List Bool) := [(2, [true, true, false, true])]
/-- JobTextModel.keepInputs(II)V -/
abbrev m_M_keepInputs : Nat := 208
def zk_M_keepInputs : List (Nat × List Bool) := [(2, [true, true, true, true]), (95, [true, true, true, true])]
/-- JobTextModel.keepOperator(II)V -/
abbrev m_M_keepOperator : Nat := 209
def zk_M_keepOperator : List (Nat × List Bool) := []
/-- JobTextModel.keep(I)V -/
abbrev m_M_keep : Nat := 210
def zk_M_keep : List (Nat × List Bool) := [(98, [true, true, true]), (166, [true, true, true]), (203, [true, true, true]), (357, [true, true, true])]
/-- JobTextModel.read(II)I -/
abbrev m_M_read : Nat := 211
def zk_M_read : List (Nat × List Bool) := [(65, [true, true, true, true, true]), (125, [true, true, true, true, true])]
/-- JobTextModel.against(IZ)I -/
abbrev m_M_against : Nat := 212
def zk_M_against : List (Nat × List Bool) := []
/-- JobTextModel.drop(I)I -/
abbrev m_M_drop : Nat := 213
def zk_M_drop : List (Nat × List Bool) := []
/-- JobTextModel.fault(I)I -/
abbrev m_M_fault : Nat := 214
def zk_M_fault : List (Nat × List Bool) := []
/-- JobTextModel.count(II)I -/
abbrev m_M_count : Nat := 215
def zk_M_count : List (Nat × List Bool) := [(28, [true, true, true, true, true, true])]
/-- JobTextModel.countOf([II)I -/
abbrev m_M_countOf : Nat := 216
def zk_M_countOf : List (Nat × List Bool) := []
/-- JobTextModel.againstOne(IZII)I -/
abbrev m_M_againstOne : Nat := 217
def zk_M_againstOne : List (Nat × List Bool) := []
/-- JobTextModel.operator(III)I -/
abbrev m_M_operator : Nat := 218
def zk_M_operator : List (Nat × List Bool) := []
/-- JobTextModel.lengthOf(J)I -/
abbrev m_M_lengthOf : Nat := 219
def zk_M_lengthOf : List (Nat × List Bool) := [(4, [true, false, true, true, false])]
/-- JobTextModel.letterAt(JI)I -/
abbrev m_M_letterAt : Nat := 220
def zk_M_letterAt : List (Nat × List Bool) := [(27, [true, false, true, true, true, false, true])]
/-- JobTextModel.letter(IIII)I -/
abbrev m_M_letter : Nat := 221
def zk_M_letter : List (Nat × List Bool) := [(73, [true, true, true, true, true, true, true, false, false]), (74, [true, true, true, true, true, true, true, false, false])]
/-- JobTextModel.input(IIII)I -/
abbrev m_M_input : Nat := 222
def zk_M_input : List (Nat × List Bool) := []
/-- JobTextModel.flow(III)I -/
abbrev m_M_flow : Nat := 223
def zk_M_flow : List (Nat × List Bool) := []
/-- JobTextModel.set(III)I -/
abbrev m_M_set : Nat := 224
def zk_M_set : List (Nat × List Bool) := []
/-- JobTextModel.setLetter(IIZI)I -/
abbrev m_M_setLetter : Nat := 225
def zk_M_setLetter : List (Nat × List Bool) := []
/-- JobTextModel.loop(III)I -/
abbrev m_M_loop : Nat := 226
def zk_M_loop : List (Nat × List Bool) := []
/-- JobTextModel.put(I)V -/
abbrev m_M_put : Nat := 227
def zk_M_put : List (Nat × List Bool) := []
/-- JobTextModel.putComments(II)V -/
abbrev m_M_putComments : Nat := 228
def zk_M_putComments : List (Nat × List Bool) := [(5, [true, true, true, true, false]), (57, [true, true, true, true, true])]
/-- JobTextModel.putName(J)V -/
abbrev m_M_putName : Nat := 229
def zk_M_putName : List (Nat × List Bool) := [(8, [true, true, false, true, true])]
/-- JobTextModel.putKey(I)V -/
abbrev m_M_putKey : Nat := 230
def zk_M_putKey : List (Nat × List Bool) := []
/-- JobTextModel.putNumber(I)V -/
abbrev m_M_putNumber : Nat := 231
def zk_M_putNumber : List (Nat × List Bool) := [(2, [true, true, true, false]), (20, [true, true, true, true])]
/-- JobTextModel.putNumberProperty(II)V -/
abbrev m_M_putNumberProperty : Nat := 232
def zk_M_putNumberProperty : List (Nat × List Bool) := []
/-- JobTextModel.putProperties(I)V -/
abbrev m_M_putProperties : Nat := 233
def zk_M_putProperties : List (Nat × List Bool) := [(77, [true, true, false]), (130, [true, true, true])]
/-- JobTextModel.putOperator(I)V -/
abbrev m_M_putOperator : Nat := 234
def zk_M_putOperator : List (Nat × List Bool) := [(86, [true, true, true])]
/-- JobTextModel.putStatement(II)V -/
abbrev m_M_putStatement : Nat := 235
def zk_M_putStatement : List (Nat × List Bool) := []
/-- JobTextModel.print(I)I -/
abbrev m_M_print : Nat := 236
def zk_M_print : List (Nat × List Bool) := [(20, [true, true, true, true])]
/-- JobTextModel.out(I)I -/
abbrev m_M_out : Nat := 237
def zk_M_out : List (Nat × List Bool) := []
/-- JobTextModel.take()I -/
abbrev m_M_take : Nat := 238
def zk_M_take : List (Nat × List Bool) := [(26, [true, true])]
/-- JobTextModel.haveLikeInputs(II)Z -/
abbrev m_M_haveLikeInputs : Nat := 239
def zk_M_haveLikeInputs : List (Nat × List Bool) := [(24, [true, true, true, true, true])]
/-- JobTextModel.haveLikeSides(II)Z -/
abbrev m_M_haveLikeSides : Nat := 240
def zk_M_haveLikeSides : List (Nat × List Bool) := [(24, [true, true, true, true, true])]
/-- JobTextModel.bitsOf(II)I -/
abbrev m_M_bitsOf : Nat := 241
def zk_M_bitsOf : List (Nat × List Bool) := [(36, [true, true, true, true]), (59, [true, true, true, true]), (83, [true, true, true, true]), (116, [true, true, true, true]), (122, [true, true, true, true]), (147, [true, true, true, true])]
/-- JobTextModel.note(III)V -/
abbrev m_M_note : Nat := 242
def zk_M_note : List (Nat × List Bool) := []
/-- JobTextModel.differ()I -/
abbrev m_M_differ : Nat := 243
def zk_M_differ : List (Nat × List Bool) := [(28, [true, true, false, false]), (67, [true, true, true, false]), (76, [true, true, true, true]), (99, [true, true, false, false])]
/-- JobTextModel.difference(II)I -/
abbrev m_M_difference : Nat := 244
def zk_M_difference : List (Nat × List Bool) := []
/-- JobTextModel.numbers()I -/
abbrev m_M_numbers : Nat := 245
def zk_M_numbers : List (Nat × List Bool) := []
/-- JobTextModel.numbered(II)I -/
abbrev m_M_numbered : Nat := 246
def zk_M_numbered : List (Nat × List Bool) := []
end
section
-- java/lang/String.coder()B
theorem g_T_coder_0 {i0 : Nat} {h : zH} {Q : Option zV → zH → Prop} (hf : (((1 : Int32) = 0 → narrow .byte (.int (1 : Int32)) = .int (1 : Int32) ∧ Q (some (.inl (1 : Int32))) h) ∧ (¬ (1 : Int32) = 0 → narrow .byte (.int (0 : Int32)) = .int (0 : Int32) ∧ Q (some (.inl (0 : Int32))) h))) : zAt m_T_coder 0 [some (.inr (.inr (0, i0, 0)))] [] h Q := z_seg (n := 8) (ct := zk_T_coder) (Nat.le_of_ble_eq_true rfl) z_cok_0 z_cro_0 rfl hf
-- java/lang/String.length()I
theorem g_T_length_0 {i0 : Nat} {h : zH} {Q : Option zV → zH → Prop} (hf : zOkI m_T_coder [.inr (.inr (0, i0, 0))] h (fun r1 h1 => zAt m_T_length 9 [some (.inr (.inr (0, i0, 0)))] [.inl r1, .inl (Int32.ofNat (z_ln (1, i0, 0)))] h1 Q)) : zAt m_T_length 0 [some (.inr (.inr (0, i0, 0)))] [] h Q := z_seg (n := 8) (ct := zk_T_length) (Nat.le_of_ble_eq_true rfl) z_cok_1 z_cro_1 rfl hf
theorem g_T_length_9 {i0 : Nat} {x90 : Int32} {x91 : Int32} {h : zH} {Q : Option zV → zH → Prop} (hf : Q (some (.inl (x91 >>> (x90 &&& 31)))) h) : zAt m_T_length 9 [some (.inr (.inr (0, i0, 0)))] [.inl x90, .inl x91] h Q := z_seg (n := 8) (ct := zk_T_length) (Nat.le_of_ble_eq_true rfl) z_cok_1 z_cro_1 rfl hf
-- java/lang/String.isLatin1()Z
theorem g_T_isLatin1_0 {i0 : Nat} {h : zH} {Q : Option zV → zH → Prop} (hf : (((1 : Int32) = 0 → ((0 : Int32) = 0 ∨ (0 : Int32) = 1) ∧ Q (some (.inl (0 : Int32))) h) ∧ (¬ (1 : Int32) = 0 → (((0 : Int32) = 0 → ((1 : Int32) = 0 ∨ (1 : Int32) = 1) ∧ Q (some (.inl (1 : Int32))) h) ∧ (¬ (0 : Int32) = 0 → ((0 : Int32) = 0 ∨ (0 : Int32) = 1) ∧ Q (some (.inl (0 : Int32))) h))))) : zAt m_T_isLatin1 0 [some (.inr (.inr (0, i0, 0)))] [] h Q := z_seg (n := 10) (ct := zk_T_isLatin1) (Nat.le_of_ble_eq_true rfl) z_cok_2 z_cro_2 rfl hf
-- jdk/internal/util/Preconditions.checkIndex(IILjava/util/function/BiFunction;)I
theorem g_T2_checkIndex_0 {x0 : Int32} {x1 : Int32} {h : zH} {Q : Option zV → zH → Prop} (hf : ((x0 < 0 → False) ∧ (¬ x0 < 0 → ((x0 < x1 → Q (some (.inl x0)) h) ∧ (¬ x0 < x1 → False))))) : zAt m_T2_checkIndex 0 [some (.inl x0), some (.inl x1), some (.inr (.inr (3, 0, 0)))] [] h Q := z_seg (n := 13) (ct := zk_T2_checkIndex) (Nat.le_of_ble_eq_true rfl) z_cok_3 z_cro_3 rfl hf
-- java/lang/String.checkIndex(II)V
theorem g_T_checkIndex_0 {x0 : Int32} {x1 : Int32} {h : zH} {Q : Option zV → zH → Prop} (hf : zOkI m_T2_checkIndex [.inl x0, .inl x1, .inr (.inr (3, 0, 0))] h (fun r1 h1 => zAt m_T_checkIndex 8 [some (.inl x0), some (.inl x1)] [.inl r1] h1 Q)) : zAt m_T_checkIndex 0 [some (.inl x0), some (.inl x1)] [] h Q := z_seg (n := 7) (ct := zk_T_checkIndex) (Nat.le_of_ble_eq_true rfl) z_cok_4 z_cro_4 rfl hf
theorem g_T_checkIndex_8 {x0 : Int32} {x1 : Int32} {x90 : Int32} {h : zH} {Q : Option zV → zH → Prop} (hf : Q none h) : zAt m_T_checkIndex 8 [some (.inl x0), some (.inl x1)] [.inl x90] h Q := z_seg (n := 7) (ct := zk_T_checkIndex) (Nat.le_of_ble_eq_true rfl) z_cok_4 z_cro_4 rfl hf
-- java/lang/StringLatin1.charAt([BI)C
theorem g_T1_charAt_0 {i0 : Nat} {x1 : Int32} {h : zH} {Q : Option zV → zH → Prop} (hf : zOkV m_T_checkIndex [.inl x1, .inl (Int32.ofNat (z_ln (1, i0, 0)))] h (fun h1 => zAt m_T1_charAt 6 [some (.inr (.inr (1, i0, 0))), some (.inl x1)] [] h1 Q)) : zAt m_T1_charAt 0 [some (.inr (.inr (1, i0, 0))), some (.inl x1)] [] h Q := z_seg (n := 12) (ct := zk_T1_charAt) (Nat.le_of_ble_eq_true rfl) z_cok_5 z_cro_5 rfl hf
theorem g_T1_charAt_6 {i0 : Nat} {x1 : Int32} {h : zH} {Q : Option zV → zH → Prop} (hf : vp_in x1 (z_ln (1, i0, 0)) ∧ narrow .char (.int (((Int32.toUInt32 (((z_sb.getD i0 []).getD x1.toNatClampNeg 0) &&& (255 : Int32))) % 65536).toInt32)) = .int (((Int32.toUInt32 (((z_sb.getD i0 []).getD x1.toNatClampNeg 0) &&& (255 : Int32))) % 65536).toInt32) ∧ Q (some (.inl (((Int32.toUInt32 (((z_sb.getD i0 []).getD x1.toNatClampNeg 0) &&& (255 : Int32))) % 65536).toInt32))) h) : zAt m_T1_charAt 6 [some (.inr (.inr (1, i0, 0))), some (.inl x1)] [] h Q := z_seg (n := 12) (ct := zk_T1_charAt) (Nat.le_of_ble_eq_true rfl) z_cok_5 z_cro_5 rfl hf
-- java/lang/String.charAt(I)C
theorem g_T_charAt_0 {i0 : Nat} {x1 : Int32} {h : zH} {Q : Option zV → zH → Prop} (hf : zOkI m_T_isLatin1 [.inr (.inr (0, i0, 0))] h (fun r1 h1 => zAt m_T_charAt 4 [some (.inr (.inr (0, i0, 0))), some (.inl x1)] [.inl r1] h1 Q)) : zAt m_T_charAt 0 [some (.inr (.inr (0, i0, 0))), some (.inl x1)] [] h Q := z_seg (n := 14) (ct := zk_T_charAt) (Nat.le_of_ble_eq_true rfl) z_cok_6 z_cro_6 rfl hf
theorem g_T_charAt_4 {i0 : Nat} {x1 : Int32} {x90 : Int32} {h : zH} {Q : Option zV → zH → Prop} (hf : ((x90 = 0 → False) ∧ (¬ x90 = 0 → zOkI m_T1_charAt [.inr (.inr (1, i0, 0)), .inl x1] h (fun r1 h1 => zAt m_T_charAt 15 [some (.inr (.inr (0, i0, 0))), some (.inl x1)] [.inl r1] h1 Q)))) : zAt m_T_charAt 4 [some (.inr (.inr (0, i0, 0))), some (.inl x1)] [.inl x90] h Q := z_seg (n := 14) (ct := zk_T_charAt) (Nat.le_of_ble_eq_true rfl) z_cok_6 z_cro_6 rfl hf
theorem g_T_charAt_15 {i0 : Nat} {x1 : Int32} {x90 : Int32} {h : zH} {Q : Option zV → zH → Prop} (hf : narrow .char (.int x90) = .int x90 ∧ Q (some (.inl x90)) h) : zAt m_T_charAt 15 [some (.inr (.inr (0, i0, 0))), some (.inl x1)] [.inl x90] h Q := z_seg (n := 14) (ct := zk_T_charAt) (Nat.le_of_ble_eq_true rfl) z_cok_6 z_cro_6 rfl hf
-- JobText$Bytes.add(I)V
theorem g_B_add_0 {i0 : Nat} {j0 : Nat} {x1 : Int32} {h : zH} {Q : Option zV → zH → Prop} (hf : (((h.1 (10, i0, j0) 1) < (Int32.ofNat (z_ln (30, i0, j0))) → vp_in (h.1 (10, i0, j0) 1) (z_ln (30, i0, j0)) ∧ (∀ h1, h1 = z_uI h (30, i0, j0) (h.1 (10, i0, j0) 1).toNatClampNeg (vp_nar .byte ((Int32.toInt8 x1).toInt32)) → (∀ h2, h2 = z_uI h1 (10, i0, j0) 1 ((h1.1 (10, i0, j0) 1) + (1 : Int32)) → Q none h2))) ∧ (¬ (h.1 (10, i0, j0) 1) < (Int32.ofNat (z_ln (30, i0, j0))) → Q none h))) : zAt m_B_add 0 [some (.inr (.inr (10, i0, j0))), some (.inl x1)] [] h Q := z_seg (n := 21) (ct := zk_B_add) (Nat.le_of_ble_eq_true rfl) z_cok_11 z_cro_11 rfl hf
-- JobText$Bytes.clear()V
theorem g_B_clear_0 {i0 : Nat} {j0 : Nat} {h : zH} {Q : Option zV → zH → Prop} (hf : (∀ h1, h1 = z_uI h (10, i0, j0) 1 (0 : Int32) → Q none h1)) : zAt m_B_clear 0 [some (.inr (.inr (10, i0, j0)))] [] h Q := z_seg (n := 5) (ct := zk_B_clear) (Nat.le_of_ble_eq_true rfl) z_cok_15 z_cro_15 rfl hf
-- JobText$Bytes.at(I)I
theorem g_B_at_0 {i0 : Nat} {j0 : Nat} {x1 : Int32} {h : zH} {Q : Option zV → zH → Prop} (hf : ((x1 < 0 → Q (some (.inl (-5 : Int32))) h) ∧ (¬ x1 < 0 → ((x1 < (h.1 (10, i0, j0) 1) → vp_in x1 (z_ln (30, i0, j0)) ∧ Q (some (.inl (h.1 (30, i0, j0) x1.toNatClampNeg))) h) ∧ (¬ x1 < (h.1 (10, i0, j0) 1) → Q (some (.inl (-5 : Int32))) h))))) : zAt m_B_at 0 [some (.inr (.inr (10, i0, j0))), some (.inl x1)] [] h Q := z_seg (n := 14) (ct := zk_B_at) (Nat.le_of_ble_eq_true rfl) z_cok_16 z_cro_16 rfl hf
-- JobText$Bytes.become(LJobText$Bytes;II)V
theorem g_B_become_0 {i0 : Nat} {j0 : Nat} {i1 : Nat} {j1 : Nat} {x2 : Int32} {x3 : Int32} {h : zH} {Q : Option zV → zH → Prop} (hf : zOkV m_B_clear [.inr (.inr (10, i0, j0))] h (fun h1 => zAt m_B_become 4 [some (.inr (.inr (10, i0, j0))), some (.inr (.inr (10, i1, j1))), some (.inl x2), some (.inl x3), none] [] h1 Q)) : zAt m_B_become 0 [some (.inr (.inr (10, i0, j0))), some (.inr (.inr (10, i1, j1))), some (.inl x2), some (.inl x3), none] [] h Q := z_seg (n := 16) (ct := zk_B_become) (Nat.le_of_ble_eq_true rfl) z_cok_17 z_cro_17 rfl hf
theorem g_B_become_4 {i0 : Nat} {j0 : Nat} {i1 : Nat} {j1 : Nat} {x2 : Int32} {x3 : Int32} {h : zH} {Q : Option zV → zH → Prop} (hf : zAt m_B_become 7 [some (.inr (.inr (10, i0, j0))), some (.inr (.inr (10, i1, j1))), some (.inl x2), some (.inl x3), some (.inl x2)] [] h Q) : zAt m_B_become 4 [some (.inr (.inr (10, i0, j0))), some (.inr (.inr (10, i1, j1))), some (.inl x2), some (.inl x3), none] [] h Q := z_seg (n := 16) (ct := zk_B_become) (Nat.le_of_ble_eq_true rfl) z_cok_17 z_cro_17 rfl hf
theorem g_B_become_7 {i0 : Nat} {j0 : Nat} {i1 : Nat} {j1 : Nat} {x2 : Int32} {x3 : Int32} {x4 : Int32} {h : zH} {Q : Option zV → zH → Prop} (hf : ((x4 < x3 → zOkI m_B_at [.inr (.inr (10, i1, j1)), .inl x4] h (fun r1 h1 => zAt m_B_become 20 [some (.inr (.inr (10, i0, j0))), some (.inr (.inr (10, i1, j1))), some (.inl x2), some (.inl x3), some (.inl x4)] [.inl r1, .inr (.inr (10, i0, j0))] h1 Q)) ∧ (¬ x4 < x3 → Q none h))) : zAt m_B_become 7 [some (.inr (.inr (10, i0, j0))), some (.inr (.inr (10, i1, j1))), some (.inl x2), some (.inl x3), some (.inl x4)] [] h Q := z_seg (n := 16) (ct := zk_B_become) (Nat.le_of_ble_eq_true rfl) z_cok_17 z_cro_17 rfl hf
theorem g_B_become_20 {i0 : Nat} {j0 : Nat} {i1 : Nat} {j1 : Nat} {x2 : Int32} {x3 : Int32} {x4 : Int32} {x90 : Int32} {i91 : Nat} {j91 : Nat} {h : zH} {Q : Option zV → zH → Prop} (hf : zOkV m_B_add [.inr (.inr (10, i91, j91)), .inl x90] h (fun h1 => zAt m_B_become 23 [some (.inr (.inr (10, i0, j0))), some (.inr (.inr (10, i1, j1))), some (.inl x2), some (.inl x3), some (.inl x4)] [] h1 Q)) : zAt m_B_become 20 [some (.inr (.inr (10, i0, j0))), some (.inr (.inr (10, i1, j1))), some (.inl x2), some (.inl x3), some (.inl x4)] [.inl x90, .inr (.inr (10, i91, j91))] h Q := z_seg (n := 16) (ct := zk_B_become) (Nat.le_of_ble_eq_true rfl) z_cok_17 z_cro_17 rfl hf
theorem g_B_become_23 {i0 : Nat} {j0 : Nat} {i1 : Nat} {j1 : Nat} {x2 : Int32} {x3 : Int32} {x4 : Int32} {h : zH} {Q : Option zV → zH → Prop} (hf : zAt m_B_become 7 [some (.inr (.inr (10, i0, j0))), some (.inr (.inr (10, i1, j1))), some (.inl x2), some (.inl x3), some (.inl (x4 + (1 : Int32)))] [] h Q) : zAt m_B_become 23 [some (.inr (.inr (10, i0, j0))), some (.inr (.inr (10, i1, j1))), some (.inl x2), some (.inl x3), some (.inl x4)] [] h Q := z_seg (n := 16) (ct := zk_B_become) (Nat.le_of_ble_eq_true rfl) z_cok_17 z_cro_17 rfl hf
-- JobText$Fault.clear()V
theorem g_F_clear_0 {h : zH} {Q : Option zV → zH → Prop} (hf : (∀ h1, h1 = z_uI h (11, 0, 0) 0 (0 : Int32) → (∀ h2, h2 = z_uI h1 (11, 0, 0) 1 (-5 : Int32) → (∀ h3, h3 = z_uI h2 (11, 0, 0) 2 (-5 : Int32) → (∀ h4, h4 = z_uI h3 (11, 0, 0) 3 (0 : Int32) → Q none h4))))) : zAt m_F_clear 0 [some (.inr (.inr (11, 0, 0)))] [] h Q := z_seg (n := 14) (ct := zk_F_clear) (Nat.le_of_ble_eq_true rfl) z_cok_21 z_cro_21 rfl hf
-- JobText$Fault.tell(III)V
theorem g_F_tell_0 {x1 : Int32} {x2 : Int32} {x3 : Int32} {h : zH} {Q : Option zV → zH → Prop} (hf : (∀ h1, h1 = z_uI h (11, 0, 0) 0 x1 → (∀ h2, h2 = z_uI h1 (11, 0, 0) 1 x2 → (∀ h3, h3 = z_uI h2 (11, 0, 0) 2 x3 → (∀ h4, h4 = z_uI h3 (11, 0, 0) 3 (0 : Int32) → Q none h4))))) : zAt m_F_tell 0 [some (.inr (.inr (11, 0, 0))), some (.inl x1), some (.inl x2), some (.inl x3)] [] h Q := z_seg (n := 14) (ct := zk_F_tell) (Nat.le_of_ble_eq_true rfl) z_cok_26 z_cro_26 rfl hf
-- java/lang/StringLatin1.canEncode(I)Z
theorem g_T1_canEncode_0 {x0 : Int32} {h : zH} {Q : Option zV → zH → Prop} (hf : ((x0 < 0 → ((0 : Int32) = 0 ∨ (0 : Int32) = 1) ∧ Q (some (.inl (0 : Int32))) h) ∧ (¬ x0 < 0 → (((255 : Int32) < x0 → ((0 : Int32) = 0 ∨ (0 : Int32) = 1) ∧ Q (some (.inl (0 : Int32))) h) ∧ (¬ (255 : Int32) < x0 → ((1 : Int32) = 0 ∨ (1 : Int32) = 1) ∧ Q (some (.inl (1 : Int32))) h))))) : zAt m_T1_canEncode 0 [some (.inl x0)] [] h Q := z_seg (n := 10) (ct := zk_T1_canEncode) (Nat.le_of_ble_eq_true rfl) z_cok_34 z_cro_34 rfl hf
-- java/lang/StringLatin1.indexOfChar([BIII)I
theorem g_T1_indexOfChar_0 {i0 : Nat} {x1 : Int32} {x2 : Int32} {x3 : Int32} {h : zH} {Q : Option zV → zH → Prop} (hf : zAt m_T1_indexOfChar 7 [some (.inr (.inr (1, i0, 0))), some (.inl x1), some (.inl x2), some (.inl x3), some (.inl ((Int32.toInt8 x1).toInt32)), some (.inl x2)] [] h Q) : zAt m_T1_indexOfChar 0 [some (.inr (.inr (1, i0, 0))), some (.inl x1), some (.inl x2), some (.inl x3), none, none] [] h Q := z_seg (n := 20) (ct := zk_T1_indexOfChar) (Nat.le_of_ble_eq_true rfl) z_cok_35 z_cro_35 rfl hf
theorem g_T1_indexOfChar_7 {i0 : Nat} {x1 : Int32} {x2 : Int32} {x3 : Int32} {x4 : Int32} {x5 : Int32} {h : zH} {Q : Option zV → zH → Prop} (hf : ((x5 < x3 → vp_in x5 (z_ln (1, i0, 0)) ∧ ((((z_sb.getD i0 []).getD x5.toNatClampNeg 0) = x4 → Q (some (.inl x5)) h) ∧ (¬ ((z_sb.getD i0 []).getD x5.toNatClampNeg 0) = x4 → zAt m_T1_indexOfChar 7 [some (.inr (.inr (1, i0, 0))), some (.inl x1), some (.inl x2), some (.inl x3), some (.inl x4), some (.inl (x5 + (1 : Int32)))] [] h Q))) ∧ (¬ x5 < x3 → Q (some (.inl (-1 : Int32))) h))) : zAt m_T1_indexOfChar 7 [some (.inr (.inr (1, i0, 0))), some (.inl x1), some (.inl x2), some (.inl x3), some (.inl x4), some (.inl x5)] [] h Q := z_seg (n := 20) (ct := zk_T1_indexOfChar) (Nat.le_of_ble_eq_true rfl) z_cok_35 z_cro_35 rfl hf
-- java/lang/StringLatin1.indexOf([BIII)I
theorem g_T1_indexOf_0 {i0 : Nat} {x1 : Int32} {x2 : Int32} {x3 : Int32} {h : zH} {Q : Option zV → zH → Prop} (hf : zOkI m_T1_canEncode [.inl x1] h (fun r1 h1 => zAt m_T1_indexOf 4 [some (.inr (.inr (1, i0, 0))), some (.inl x1), some (.inl x2), some (.inl x3)] [.inl r1] h1 Q)) : zAt m_T1_indexOf 0 [some (.inr (.inr (1, i0, 0))), some (.inl x1), some (.inl x2), some (.inl x3)] [] h Q := z_seg (n := 26) (ct := zk_T1_indexOf) (Nat.le_of_ble_eq_true rfl) z_cok_36 z_cro_36 rfl hf
theorem g_T1_indexOf_4 {i0 : Nat} {x1 : Int32} {x2 : Int32} {x3 : Int32} {x90 : Int32} {h : zH} {Q : Option zV → zH → Prop} (hf : ((x90 = 0 → Q (some (.inl (-1 : Int32))) h) ∧ (¬ x90 = 0 → (((if x2 < (0 : Int32) then (0 : Int32) else x2) < (if (Int32.ofNat (z_ln (1, i0, 0))) < x3 then (Int32.ofNat (z_ln (1, i0, 0))) else x3) → zOkI m_T1_indexOfChar [.inr (.inr (1, i0, 0)), .inl x1, .inl (if x2 < (0 : Int32) then (0 : Int32) else x2), .inl (if (Int32.ofNat (z_ln (1, i0, 0))) < x3 then (Int32.ofNat (z_ln (1, i0, 0))) else x3)] h (fun r1 h1 => zAt m_T1_indexOf 36 [some (.inr (.inr (1, i0, 0))), some (.inl x1), some (.inl (if x2 < (0 : Int32) then (0 : Int32) else x2)), some (.inl (if (Int32.ofNat (z_ln (1, i0, 0))) < x3 then (Int32.ofNat (z_ln (1, i0, 0))) else x3))] [.inl r1] h1 Q)) ∧ (¬ (if x2 < (0 : Int32) then (0 : Int32) else x2) < (if (Int32.ofNat (z_ln (1, i0, 0))) < x3 then (Int32.ofNat (z_ln (1, i0, 0))) else x3) → Q (some (.inl (-1 : Int32))) h))))) : zAt m_T1_indexOf 4 [some (.inr (.inr (1, i0, 0))), some (.inl x1), some (.inl x2), some (.inl x3)] [.inl x90] h Q := z_seg (n := 26) (ct := zk_T1_indexOf) (Nat.le_of_ble_eq_true rfl) z_cok_36 z_cro_36 rfl hf
theorem g_T1_indexOf_36 {i0 : Nat} {x1 : Int32} {x2 : Int32} {x3 : Int32} {x90 : Int32} {h : zH} {Q : Option zV → zH → Prop} (hf : Q (some (.inl x90)) h) : zAt m_T1_indexOf 36 [some (.inr (.inr (1, i0, 0))), some (.inl x1), some (.inl x2), some (.inl x3)] [.inl x90] h Q := z_seg (n := 26) (ct := zk_T1_indexOf) (Nat.le_of_ble_eq_true rfl) z_cok_36 z_cro_36 rfl hf
-- java/lang/String.indexOf(II)I
theorem g_T_indexOf_0 {i0 : Nat} {x1 : Int32} {x2 : Int32} {h : zH} {Q : Option zV → zH → Prop} (hf : zOkI m_T_isLatin1 [.inr (.inr (0, i0, 0))] h (fun r1 h1 => zAt m_T_indexOf 4 [some (.inr (.inr (0, i0, 0))), some (.inl x1), some (.inl x2)] [.inl r1] h1 Q)) : zAt m_T_indexOf 0 [some (.inr (.inr (0, i0, 0))), some (.inl x1), some (.inl x2)] [] h Q := z_seg (n := 20) (ct := zk_T_indexOf) (Nat.le_of_ble_eq_true rfl) z_cok_37 z_cro_37 rfl hf
theorem g_T_indexOf_4 {i0 : Nat} {x1 : Int32} {x2 : Int32} {x90 : Int32} {h : zH} {Q : Option zV → zH → Prop} (hf : ((x90 = 0 → zOkI m_T_length [.inr (.inr (0, i0, 0))] h (fun r1 h1 => zAt m_T_indexOf 33 [some (.inr (.inr (0, i0, 0))), some (.inl x1), some (.inl x2)] [.inl r1, .inl x2, .inl x1, .inr (.inr (1, i0, 0))] h1 Q)) ∧ (¬ x90 = 0 → zOkI m_T_length [.inr (.inr (0, i0, 0))] h (fun r2 h2 => zAt m_T_indexOf 17 [some (.inr (.inr (0, i0, 0))), some (.inl x1), some (.inl x2)] [.inl r2, .inl x2, .inl x1, .inr (.inr (1, i0, 0))] h2 Q)))) : zAt m_T_indexOf 4 [some (.inr (.inr (0, i0, 0))), some (.inl x1), some (.inl x2)] [.inl x90] h Q := z_seg (n := 20) (ct := zk_T_indexOf) (Nat.le_of_ble_eq_true rfl) z_cok_37 z_cro_37 rfl hf
theorem g_T_indexOf_17 {i0 : Nat} {x1 : Int32} {x2 : Int32} {x90 : Int32} {x91 : Int32} {x92 : Int32} {i93 : Nat} {h : zH} {Q : Option zV → zH → Prop} (hf : zOkI m_T1_indexOf [.inr (.inr (1, i93, 0)), .inl x92, .inl x91, .inl x90] h (fun r1 h1 => zAt m_T_indexOf 20 [some (.inr (.inr (0, i0, 0))), some (.inl x1), some (.inl x2)] [.inl r1] h1 Q)) : zAt m_T_indexOf 17 [some (.inr (.inr (0, i0, 0))), some (.inl x1), some (.inl x2)] [.inl x90, .inl x91, .inl x92, .inr (.inr (1, i93, 0))] h Q := z_seg (n := 20) (ct := zk_T_indexOf) (Nat.le_of_ble_eq_true rfl) z_cok_37 z_cro_37 rfl hf
theorem g_T_indexOf_20 {i0 : Nat} {x1 : Int32} {x2 : Int32} {x90 : Int32} {h : zH} {Q : Option zV → zH → Prop} (hf : Q (some (.inl x90)) h) : zAt m_T_indexOf 20 [some (.inr (.inr (0, i0, 0))), some (.inl x1), some (.inl x2)] [.inl x90] h Q := z_seg (n := 20) (ct := zk_T_indexOf) (Nat.le_of_ble_eq_true rfl) z_cok_37 z_cro_37 rfl hf
theorem g_T_indexOf_33 {i0 : Nat} {x1 : Int32} {x2 : Int32} {x90 : Int32} {x91 : Int32} {x92 : Int32} {i93 : Nat} {h : zH} {Q : Option zV → zH → Prop} (hf : False) : zAt m_T_indexOf 33 [some (.inr (.inr (0, i0, 0))), some (.inl x1), some (.inl x2)] [.inl x90, .inl x91, .inl x92, .inr (.inr (1, i93, 0))] h Q := z_seg (n := 20) (ct := zk_T_indexOf) (Nat.le_of_ble_eq_true rfl) z_cok_37 z_cro_37 rfl hf
-- java/lang/String.indexOf(I)I
theorem g_T_indexOf2_0 {i0 : Nat} {x1 : Int32} {h : zH} {Q : Option zV → zH → Prop} (hf : zOkI m_T_indexOf [.inr (.inr (0, i0, 0)), .inl x1, .inl (0 : Int32)] h (fun r1 h1 => zAt m_T_indexOf2 6 [some (.inr (.inr (0, i0, 0))), some (.inl x1)] [.inl r1] h1 Q)) : zAt m_T_indexOf2 0 [some (.inr (.inr (0, i0, 0))), some (.inl x1)] [] h Q := z_seg (n := 6) (ct := zk_T_indexOf2) (Nat.le_of_ble_eq_true rfl) z_cok_38 z_cro_38 rfl hf
theorem g_T_indexOf2_6 {i0 : Nat} {x1 : Int32} {x90 : Int32} {h : zH} {Q : Option zV → zH → Prop} (hf : Q (some (.inl x90)) h) : zAt m_T_indexOf2 6 [some (.inr (.inr (0, i0, 0))), some (.inl x1)] [.inl x90] h Q := z_seg (n := 6) (ct := zk_T_indexOf2) (Nat.le_of_ble_eq_true rfl) z_cok_38 z_cro_38 rfl hf
-- JobText$Pair.begin(LJobText$Words;)V
theorem g_P_begin_0 {i0 : Nat} {j0 : Nat} {h : zH} {Q : Option zV → zH → Prop} (hf : (∀ h1, h1 = z_uL h (18, i0, j0) 0 (h.2.1 (20, 0, 0) 12) → (∀ h2, h2 = z_uI h1 (18, i0, j0) 3 (h1.1 (20, 0, 0) 9) → (∀ h3, h3 = z_uI h2 (18, i0, j0) 4 (h2.1 (20, 0, 0) 10) → (∀ h4, h4 = z_uL h3 (18, i0, j0) 1 (0 : Int64) → (∀ h5, h5 = z_uI h4 (18, i0, j0) 2 (0 : Int32) → (∀ h6, h6 = z_uI h5 (18, i0, j0) 5 (-5 : Int32) → (∀ h7, h7 = z_uI h6 (18, i0, j0) 6 (-5 : Int32) → (∀ h8, h8 = z_uI h7 (18, i0, j0) 7 (-5 : Int32) → Q none h8))))))))) : zAt m_P_begin 0 [some (.inr (.inr (18, i0, j0))), some (.inr (.inr (20, 0, 0)))] [] h Q := z_seg (n := 29) (ct := zk_P_begin) (Nat.le_of_ble_eq_true rfl) z_cok_45 z_cro_45 rfl hf
-- JobText$Pair.tellSecond(LJobText$Words;)V
theorem g_P_tellSecond_0 {i0 : Nat} {j0 : Nat} {h : zH} {Q : Option zV → zH → Prop} (hf : (((h.1 (20, 0, 0) 8) = (2 : Int32) → (∀ h3, h3 = z_uI h (18, i0, j0) 2 (h.1 (20, 0, 0) 11) → (∀ h4, h4 = z_uI h3 (18, i0, j0) 5 (h3.1 (20, 0, 0) 10) → Q none h4))) ∧ (¬ (h.1 (20, 0, 0) 8) = (2 : Int32) → (∀ h1, h1 = z_uL h (18, i0, j0) 1 (h.2.1 (20, 0, 0) 12) → (∀ h2, h2 = z_uI h1 (18, i0, j0) 5 (h1.1 (20, 0, 0) 10) → Q none h2))))) : zAt m_P_tellSecond 0 [some (.inr (.inr (18, i0, j0))), some (.inr (.inr (20, 0, 0)))] [] h Q := z_seg (n := 19) (ct := zk_P_tellSecond) (Nat.le_of_ble_eq_true rfl) z_cok_48 z_cro_48 rfl hf
-- JobText$Flow.commonDivisor(JJ)J
theorem g_W_commonDivisor_0 {x0 : Int64} {x2 : Int64} {h : zH} {Q : Option zV → zH → Prop} (hf : zAt m_W_commonDivisor 9 [some (.inr (.inl x0)), none, some (.inr (.inl x2)), none, some (.inr (.inl x0)), none, some (.inr (.inl x2)), none, some (.inl (0 : Int32)), none, none] [] h Q) : zAt m_W_commonDivisor 0 [some (.inr (.inl x0)), none, some (.inr (.inl x2)), none, none, none, none, none, none, none, none] [] h Q := z_seg (n := 26) (ct := zk_W_commonDivisor) (Nat.le_of_ble_eq_true rfl) z_cok_88 z_cro_88 rfl hf
theorem g_W_commonDivisor_9 {x0 : Int64} {x2 : Int64} {x4 : Int64} {x6 : Int64} {x8 : Int32} {h : zH} {Q : Option zV → zH → Prop} (hf : ((x8 < (200 : Int32) → (((lg_cmp x6 (0 : Int64)) = 0 → Q (some (.inr (.inl x4))) h) ∧ (¬ (lg_cmp x6 (0 : Int64)) = 0 → ¬ x6 = 0 ∧ zAt m_W_commonDivisor 9 [some (.inr (.inl x0)), none, some (.inr (.inl x2)), none, some (.inr (.inl x6)), none, some (.inr (.inl (x4 - x4 / x6 * x6))), none, some (.inl (x8 + (1 : Int32))), none, none] [] h Q))) ∧ (¬ x8 < (200 : Int32) → Q (some (.inr (.inl x4))) h))) : zAt m_W_commonDivisor 9 [some (.inr (.inl x0)), none, some (.inr (.inl x2)), none, some (.inr (.inl x4)), none, some (.inr (.inl x6)), none, some (.inl x8), none, none] [] h Q := z_seg (n := 26) (ct := zk_W_commonDivisor) (Nat.le_of_ble_eq_true rfl) z_cok_88 z_cro_88 rfl hf
-- JobText$Flow.put(JJ)V
theorem g_W_put_0 {i0 : Nat} {j0 : Nat} {x1 : Int64} {x3 : Int64} {h : zH} {Q : Option zV → zH → Prop} (hf : zOkL m_W_commonDivisor [.inr (.inl x1), .inr (.inl x3)] h (fun r1 h1 => zAt m_W_put 5 [some (.inr (.inr (12, i0, j0))), some (.inr (.inl x1)), none, some (.inr (.inl x3)), none, none, none] [.inr (.inl r1)] h1 Q)) : zAt m_W_put 0 [some (.inr (.inr (12, i0, j0))), some (.inr (.inl x1)), none, some (.inr (.inl x3)), none, none, none] [] h Q := z_seg (n := 35) (ct := zk_W_put) (Nat.le_of_ble_eq_true rfl) z_cok_89 z_cro_89 rfl hf
theorem g_W_put_5 {i0 : Nat} {j0 : Nat} {x1 : Int64} {x3 : Int64} {x90 : Int64} {h : zH} {Q : Option zV → zH → Prop} (hf : ((0 < (lg_cmp x90 (0 : Int64)) → ¬ x90 = 0 ∧ (∀ h1, h1 = z_uL h (12, i0, j0) 0 (x1 / x90) → ¬ x90 = 0 ∧ (∀ h2, h2 = z_uL h1 (12, i0, j0) 1 (x3 / x90) → zAt m_W_put 30 [some (.inr (.inr (12, i0, j0))), some (.inr (.inl x1)), none, some (.inr (.inl x3)), none, some (.inr (.inl x90)), none] [] h2 Q))) ∧ (¬ 0 < (lg_cmp x90 (0 : Int64)) → zAt m_W_put 30 [some (.inr (.inr (12, i0, j0))), some (.inr (.inl x1)), none, some (.inr (.inl x3)), none, some (.inr (.inl x90)), none] [] h Q))) : zAt m_W_put 5 [some (.inr (.inr (12, i0, j0))), some (.inr (.inl x1)), none, some (.inr (.inl x3)), none, none, none] [.inr (.inl x90)] h Q := z_seg (n := 35) (ct := zk_W_put) (Nat.le_of_ble_eq_true rfl) z_cok_89 z_cro_89 rfl hf
theorem g_W_put_30 {i0 : Nat} {j0 : Nat} {x1 : Int64} {x3 : Int64} {x5 : Int64} {h : zH} {Q : Option zV → zH → Prop} (hf : ((0 < (lg_cmp (h.2.1 (12, i0, j0) 0) (1000000000 : Int64)) → ((1 : Int32) = 0 ∨ (1 : Int32) = 1) ∧ (∀ h1, h1 = z_uI h (12, i0, j0) 2 (1 : Int32) → Q none h1)) ∧ (¬ 0 < (lg_cmp (h.2.1 (12, i0, j0) 0) (1000000000 : Int64)) → ((0 < (lg_cmp (h.2.1 (12, i0, j0) 1) (1000000000 : Int64)) → ((1 : Int32) = 0 ∨ (1 : Int32) = 1) ∧ (∀ h3, h3 = z_uI h (12, i0, j0) 2 (1 : Int32) → Q none h3)) ∧ (¬ 0 < (lg_cmp (h.2.1 (12, i0, j0) 1) (1000000000 : Int64)) → ((0 : Int32) = 0 ∨ (0 : Int32) = 1) ∧ (∀ h2, h2 = z_uI h (12, i0, j0) 2 (0 : Int32) → Q none h2)))))) : zAt m_W_put 30 [some (.inr (.inr (12, i0, j0))), some (.inr (.inl x1)), none, some (.inr (.inl x3)), none, some (.inr (.inl x5)), none] [] h Q := z_seg (n := 35) (ct := zk_W_put) (Nat.le_of_ble_eq_true rfl) z_cok_89 z_cro_89 rfl hf
-- JobText$Flow.become(LJobText$Flow;)V
theorem g_W_become_0 {i0 : Nat} {j0 : Nat} {i1 : Nat} {j1 : Nat} {h : zH} {Q : Option zV → zH → Prop} (hf : (∀ h1, h1 = z_uL h (12, i0, j0) 0 (h.2.1 (12, i1, j1) 0) → (∀ h2, h2 = z_uL h1 (12, i0, j0) 1 (h1.2.1 (12, i1, j1) 1) → ((h2.1 (12, i1, j1) 2) = 0 ∨ (h2.1 (12, i1, j1) 2) = 1) ∧ (∀ h3, h3 = z_uI h2 (12, i0, j0) 2 (h2.1 (12, i1, j1) 2) → Q none h3)))) : zAt m_W_become 0 [some (.inr (.inr (12, i0, j0))), some (.inr (.inr (12, i1, j1)))] [] h Q := z_seg (n := 14) (ct := zk_W_become) (Nat.le_of_ble_eq_true rfl) z_cok_91 z_cro_91 rfl hf
-- JobText$Flow.lessen(LJobText$Flow;)V
theorem g_W_lessen_0 {i0 : Nat} {j0 : Nat} {i1 : Nat} {j1 : Nat} {h : zH} {Q : Option zV → zH → Prop} (hf : (((h.1 (12, i0, j0) 2) = 0 → (((h.1 (12, i1, j1) 2) = 0 → (((lg_cmp ((h.2.1 (12, i1, j1) 0) * (h.2.1 (12, i0, j0) 1)) ((h.2.1 (12, i0, j0) 0) * (h.2.1 (12, i1, j1) 1))) < 0 → zOkV m_W_become [.inr (.inr (12, i0, j0)), .inr (.inr (12, i1, j1))] h (fun h2 => zAt m_W_lessen 49 [some (.inr (.inr (12, i0, j0))), some (.inr (.inr (12, i1, j1)))] [] h2 Q)) ∧ (¬ (lg_cmp ((h.2.1 (12, i1, j1) 0) * (h.2.1 (12, i0, j0) 1)) ((h.2.1 (12, i0, j0) 0) * (h.2.1 (12, i1, j1) 1))) < 0 → Q none h))) ∧ (¬ (h.1 (12, i1, j1) 2) = 0 → ((1 : Int32) = 0 ∨ (1 : Int32) = 1) ∧ (∀ h3, h3 = z_uI h (12, i0, j0) 2 (1 : Int32) → Q none h3)))) ∧ (¬ (h.1 (12, i0, j0) 2) = 0 → ((1 : Int32) = 0 ∨ (1 : Int32) = 1) ∧ (∀ h1, h1 = z_uI h (12, i0, j0) 2 (1 : Int32) → Q none h1)))) : zAt m_W_lessen 0 [some (.inr (.inr (12, i0, j0))), some (.inr (.inr (12, i1, j1)))] [] h Q := z_seg (n := 27) (ct := zk_W_lessen) (Nat.le_of_ble_eq_true rfl) z_cok_92 z_cro_92 rfl hf
theorem g_W_lessen_49 {i0 : Nat} {j0 : Nat} {i1 : Nat} {j1 : Nat} {h : zH} {Q : Option zV → zH → Prop} (hf : Q none h) : zAt m_W_lessen 49 [some (.inr (.inr (12, i0, j0))), some (.inr (.inr (12, i1, j1)))] [] h Q := z_seg (n := 27) (ct := zk_W_lessen) (Nat.le_of_ble_eq_true rfl) z_cok_92 z_cro_92 rfl hf
-- JobText$Flow.add(LJobText$Flow;)V
theorem g_W_add_0 {i0 : Nat} {j0 : Nat} {i1 : Nat} {j1 : Nat} {h : zH} {Q : Option zV → zH → Prop} (hf : (((h.1 (12, i0, j0) 2) = 0 → (((h.1 (12, i1, j1) 2) = 0 → zOkV m_W_put [.inr (.inr (12, i0, j0)), .inr (.inl (((h.2.1 (12, i0, j0) 0) * (h.2.1 (12, i1, j1) 1)) + ((h.2.1 (12, i1, j1) 0) * (h.2.1 (12, i0, j0) 1)))), .inr (.inl ((h.2.1 (12, i0, j0) 1) * (h.2.1 (12, i1, j1) 1)))] h (fun h2 => zAt m_W_add 54 [some (.inr (.inr (12, i0, j0))), some (.inr (.inr (12, i1, j1)))] [] h2 Q)) ∧ (¬ (h.1 (12, i1, j1) 2) = 0 → ((1 : Int32) = 0 ∨ (1 : Int32) = 1) ∧ (∀ h3, h3 = z_uI h (12, i0, j0) 2 (1 : Int32) → Q none h3)))) ∧ (¬ (h.1 (12, i0, j0) 2) = 0 → ((1 : Int32) = 0 ∨ (1 : Int32) = 1) ∧ (∀ h1, h1 = z_uI h (12, i0, j0) 2 (1 : Int32) → Q none h1)))) : zAt m_W_add 0 [some (.inr (.inr (12, i0, j0))), some (.inr (.inr (12, i1, j1)))] [] h Q := z_seg (n := 30) (ct := zk_W_add) (Nat.le_of_ble_eq_true rfl) z_cok_93 z_cro_93 rfl hf
theorem g_W_add_54 {i0 : Nat} {j0 : Nat} {i1 : Nat} {j1 : Nat} {h : zH} {Q : Option zV → zH → Prop} (hf : Q none h) : zAt m_W_add 54 [some (.inr (.inr (12, i0, j0))), some (.inr (.inr (12, i1, j1)))] [] h Q := z_seg (n := 30) (ct := zk_W_add) (Nat.le_of_ble_eq_true rfl) z_cok_93 z_cro_93 rfl hf
-- JobText$Flow.multiply(II)V
theorem g_W_multiply_0 {i0 : Nat} {j0 : Nat} {x1 : Int32} {x2 : Int32} {h : zH} {Q : Option zV → zH → Prop} (hf : (((h.1 (12, i0, j0) 2) = 0 → zOkV m_W_put [.inr (.inr (12, i0, j0)), .inr (.inl ((h.2.1 (12, i0, j0) 0) * (Int32.toInt64 x1))), .inr (.inl ((h.2.1 (12, i0, j0) 1) * (Int32.toInt64 x2)))] h (fun h1 => zAt m_W_multiply 25 [some (.inr (.inr (12, i0, j0))), some (.inl x1), some (.inl x2)] [] h1 Q)) ∧ (¬ (h.1 (12, i0, j0) 2) = 0 → Q none h))) : zAt m_W_multiply 0 [some (.inr (.inr (12, i0, j0))), some (.inl x1), some (.inl x2)] [] h Q := z_seg (n := 17) (ct := zk_W_multiply) (Nat.le_of_ble_eq_true rfl) z_cok_95 z_cro_95 rfl hf
theorem g_W_multiply_25 {i0 : Nat} {j0 : Nat} {x1 : Int32} {x2 : Int32} {h : zH} {Q : Option zV → zH → Prop} (hf : Q none h) : zAt m_W_multiply 25 [some (.inr (.inr (12, i0, j0))), some (.inl x1), some (.inl x2)] [] h Q := z_seg (n := 17) (ct := zk_W_multiply) (Nat.le_of_ble_eq_true rfl) z_cok_95 z_cro_95 rfl hf
-- JobText$Bytes.addBytes(LJobText$Bytes;)V
theorem g_B_addBytes_0 {i0 : Nat} {j0 : Nat} {i1 : Nat} {j1 : Nat} {h : zH} {Q : Option zV → zH → Prop} (hf : zAt m_B_addBytes 2 [some (.inr (.inr (10, i0, j0))), some (.inr (.inr (10, i1, j1))), some (.inl (0 : Int32))] [] h Q) : zAt m_B_addBytes 0 [some (.inr (.inr (10, i0, j0))), some (.inr (.inr (10, i1, j1))), none] [] h Q := z_seg (n := 15) (ct := zk_B_addBytes) (Nat.le_of_ble_eq_true rfl) z_cok_124 z_cro_124 rfl hf
theorem g_B_addBytes_2 {i0 : Nat} {j0 : Nat} {i1 : Nat} {j1 : Nat} {x2 : Int32} {h : zH} {Q : Option zV → zH → Prop} (hf : ((x2 < (h.1 (10, i1, j1) 1) → zOkI m_B_at [.inr (.inr (10, i1, j1)), .inl x2] h (fun r1 h1 => zAt m_B_addBytes 16 [some (.inr (.inr (10, i0, j0))), some (.inr (.inr (10, i1, j1))), some (.inl x2)] [.inl r1, .inr (.inr (10, i0, j0))] h1 Q)) ∧ (¬ x2 < (h.1 (10, i1, j1) 1) → Q none h))) : zAt m_B_addBytes 2 [some (.inr (.inr (10, i0, j0))), some (.inr (.inr (10, i1, j1))), some (.inl x2)] [] h Q := z_seg (n := 15) (ct := zk_B_addBytes) (Nat.le_of_ble_eq_true rfl) z_cok_124 z_cro_124 rfl hf
theorem g_B_addBytes_16 {i0 : Nat} {j0 : Nat} {i1 : Nat} {j1 : Nat} {x2 : Int32} {x90 : Int32} {i91 : Nat} {j91 : Nat} {h : zH} {Q : Option zV → zH → Prop} (hf : zOkV m_B_add [.inr (.inr (10, i91, j91)), .inl x90] h (fun h1 => zAt m_B_addBytes 19 [some (.inr (.inr (10, i0, j0))), some (.inr (.inr (10, i1, j1))), some (.inl x2)] [] h1 Q)) : zAt m_B_addBytes 16 [some (.inr (.inr (10, i0, j0))), some (.inr (.inr (10, i1, j1))), some (.inl x2)] [.inl x90, .inr (.inr (10, i91, j91))] h Q := z_seg (n := 15) (ct := zk_B_addBytes) (Nat.le_of_ble_eq_true rfl) z_cok_124 z_cro_124 rfl hf
theorem g_B_addBytes_19 {i0 : Nat} {j0 : Nat} {i1 : Nat} {j1 : Nat} {x2 : Int32} {h : zH} {Q : Option zV → zH → Prop} (hf : zAt m_B_addBytes 2 [some (.inr (.inr (10, i0, j0))), some (.inr (.inr (10, i1, j1))), some (.inl (x2 + (1 : Int32)))] [] h Q) : zAt m_B_addBytes 19 [some (.inr (.inr (10, i0, j0))), some (.inr (.inr (10, i1, j1))), some (.inl x2)] [] h Q := z_seg (n := 15) (ct := zk_B_addBytes) (Nat.le_of_ble_eq_true rfl) z_cok_124 z_cro_124 rfl hf
-- JobText$Bytes.addText(Ljava/lang/String;)V
theorem g_B_addText_0 {i0 : Nat} {j0 : Nat} {i1 : Nat} {h : zH} {Q : Option zV → zH → Prop} (hf : zAt m_B_addText 2 [some (.inr (.inr (10, i0, j0))), some (.inr (.inr (0, i1, 0))), some (.inl (0 : Int32))] [] h Q) : zAt m_B_addText 0 [some (.inr (.inr (10, i0, j0))), some (.inr (.inr (0, i1, 0))), none] [] h Q := z_seg (n := 15) (ct := zk_B_addText) (Nat.le_of_ble_eq_true rfl) z_cok_126 z_cro_126 rfl hf
theorem g_B_addText_2 {i0 : Nat} {j0 : Nat} {i1 : Nat} {x2 : Int32} {h : zH} {Q : Option zV → zH → Prop} (hf : zOkI m_T_length [.inr (.inr (0, i1, 0))] h (fun r1 h1 => zAt m_B_addText 7 [some (.inr (.inr (10, i0, j0))), some (.inr (.inr (0, i1, 0))), some (.inl x2)] [.inl r1, .inl x2] h1 Q)) : zAt m_B_addText 2 [some (.inr (.inr (10, i0, j0))), some (.inr (.inr (0, i1, 0))), some (.inl x2)] [] h Q := z_seg (n := 15) (ct := zk_B_addText) (Nat.le_of_ble_eq_true rfl) z_cok_126 z_cro_126 rfl hf
theorem g_B_addText_7 {i0 : Nat} {j0 : Nat} {i1 : Nat} {x2 : Int32} {x90 : Int32} {x91 : Int32} {h : zH} {Q : Option zV → zH → Prop} (hf : ((x91 < x90 → zOkI m_T_charAt [.inr (.inr (0, i1, 0)), .inl x2] h (fun r1 h1 => zAt m_B_addText 16 [some (.inr (.inr (10, i0, j0))), some (.inr (.inr (0, i1, 0))), some (.inl x2)] [.inl r1, .inr (.inr (10, i0, j0))] h1 Q)) ∧ (¬ x91 < x90 → Q none h))) : zAt m_B_addText 7 [some (.inr (.inr (10, i0, j0))), some (.inr (.inr (0, i1, 0))), some (.inl x2)] [.inl x90, .inl x91] h Q := z_seg (n := 15) (ct := zk_B_addText) (Nat.le_of_ble_eq_true rfl) z_cok_126 z_cro_126 rfl hf
theorem g_B_addText_16 {i0 : Nat} {j0 : Nat} {i1 : Nat} {x2 : Int32} {x90 : Int32} {i91 : Nat} {j91 : Nat} {h : zH} {Q : Option zV → zH → Prop} (hf : zOkV m_B_add [.inr (.inr (10, i91, j91)), .inl x90] h (fun h1 => zAt m_B_addText 19 [some (.inr (.inr (10, i0, j0))), some (.inr (.inr (0, i1, 0))), some (.inl x2)] [] h1 Q)) : zAt m_B_addText 16 [some (.inr (.inr (10, i0, j0))), some (.inr (.inr (0, i1, 0))), some (.inl x2)] [.inl x90, .inr (.inr (10, i91, j91))] h Q := z_seg (n := 15) (ct := zk_B_addText) (Nat.le_of_ble_eq_true rfl) z_cok_126 z_cro_126 rfl hf
theorem g_B_addText_19 {i0 : Nat} {j0 : Nat} {i1 : Nat} {x2 : Int32} {h : zH} {Q : Option zV → zH → Prop} (hf : zAt m_B_addText 2 [some (.inr (.inr (10, i0, j0))), some (.inr (.inr (0, i1, 0))), some (.inl (x2 + (1 : Int32)))] [] h Q) : zAt m_B_addText 19 [some (.inr (.inr (10, i0, j0))), some (.inr (.inr (0, i1, 0))), some (.inl x2)] [] h Q := z_seg (n := 15) (ct := zk_B_addText) (Nat.le_of_ble_eq_true rfl) z_cok_126 z_cro_126 rfl hf
-- JobText$Bytes.addName(J)V
theorem g_B_addName_0 {i0 : Nat} {j0 : Nat} {x1 : Int64} {h : zH} {Q : Option zV → zH → Prop} (hf : zOkI m_J_nameLength [.inr (.inl x1)] h (fun r1 h1 => zAt m_B_addName 4 [some (.inr (.inr (10, i0, j0))), some (.inr (.inl x1)), none, none] [.inl r1] h1 Q)) : zAt m_B_addName 0 [some (.inr (.inr (10, i0, j0))), some (.inr (.inl x1)), none, none] [] h Q := z_seg (n := 16) (ct := zk_B_addName) (Nat.le_of_ble_eq_true rfl) z_cok_127 z_cro_127 rfl hf
theorem g_B_addName_4 {i0 : Nat} {j0 : Nat} {x1 : Int64} {x90 : Int32} {h : zH} {Q : Option zV → zH → Prop} (hf : zAt m_B_addName 7 [some (.inr (.inr (10, i0, j0))), some (.inr (.inl x1)), none, some (.inl (x90 - (1 : Int32)))] [] h Q) : zAt m_B_addName 4 [some (.inr (.inr (10, i0, j0))), some (.inr (.inl x1)), none, none] [.inl x90] h Q := z_seg (n := 16) (ct := zk_B_addName) (Nat.le_of_ble_eq_true rfl) z_cok_127 z_cro_127 rfl hf
theorem g_B_addName_7 {i0 : Nat} {j0 : Nat} {x1 : Int64} {x3 : Int32} {h : zH} {Q : Option zV → zH → Prop} (hf : ((x3 < 0 → Q none h) ∧ (¬ x3 < 0 → zOkI m_J_nameByteFromEnd [.inr (.inl x1), .inl x3] h (fun r1 h1 => zAt m_B_addName 17 [some (.inr (.inr (10, i0, j0))), some (.inr (.inl x1)), none, some (.inl x3)] [.inl r1, .inr (.inr (10, i0, j0))] h1 Q)))) : zAt m_B_addName 7 [some (.inr (.inr (10, i0, j0))), some (.inr (.inl x1)), none, some (.inl x3)] [] h Q := z_seg (n := 16) (ct := zk_B_addName) (Nat.le_of_ble_eq_true rfl) z_cok_127 z_cro_127 rfl hf
theorem g_B_addName_17 {i0 : Nat} {j0 : Nat} {x1 : Int64} {x3 : Int32} {x90 : Int32} {i91 : Nat} {j91 : Nat} {h : zH} {Q : Option zV → zH → Prop} (hf : zOkV m_B_add [.inr (.inr (10, i91, j91)), .inl x90] h (fun h1 => zAt m_B_addName 20 [some (.inr (.inr (10, i0, j0))), some (.inr (.inl x1)), none, some (.inl x3)] [] h1 Q)) : zAt m_B_addName 17 [some (.inr (.inr (10, i0, j0))), some (.inr (.inl x1)), none, some (.inl x3)] [.inl x90, .inr (.inr (10, i91, j91))] h Q := z_seg (n := 16) (ct := zk_B_addName) (Nat.le_of_ble_eq_true rfl) z_cok_127 z_cro_127 rfl hf
theorem g_B_addName_20 {i0 : Nat} {j0 : Nat} {x1 : Int64} {x3 : Int32} {h : zH} {Q : Option zV → zH → Prop} (hf : zAt m_B_addName 7 [some (.inr (.inr (10, i0, j0))), some (.inr (.inl x1)), none, some (.inl (x3 + (-1 : Int32)))] [] h Q) : zAt m_B_addName 20 [some (.inr (.inr (10, i0, j0))), some (.inr (.inl x1)), none, some (.inl x3)] [] h Q := z_seg (n := 16) (ct := zk_B_addName) (Nat.le_of_ble_eq_true rfl) z_cok_127 z_cro_127 rfl hf
-- JobText$Bytes.addNumber(I)V
theorem g_B_addNumber_0 {i0 : Nat} {j0 : Nat} {x1 : Int32} {h : zH} {Q : Option zV → zH → Prop} (hf : zAt m_B_addNumber 4 [some (.inr (.inr (10, i0, j0))), some (.inl x1), some (.inl (10000 : Int32))] [] h Q) : zAt m_B_addNumber 0 [some (.inr (.inr (10, i0, j0))), some (.inl x1), none] [] h Q := z_seg (n := 26) (ct := zk_B_addNumber) (Nat.le_of_ble_eq_true rfl) z_cok_130 z_cro_130 rfl hf
theorem g_B_addNumber_4 {i0 : Nat} {j0 : Nat} {x1 : Int32} {x2 : Int32} {h : zH} {Q : Option zV → zH → Prop} (hf : ((0 < x2 → ((x1 < x2 → ((x2 = (1 : Int32) → zAt m_B_addNumber 18 [some (.inr (.inr (10, i0, j0))), some (.inl x1), some (.inl x2)] [] h Q) ∧ (¬ x2 = (1 : Int32) → ¬ (10 : Int32) = 0 ∧ zAt m_B_addNumber 4 [some (.inr (.inr (10, i0, j0))), some (.inl x1), some (.inl (x2 / (10 : Int32)))] [] h Q))) ∧ (¬ x1 < x2 → zAt m_B_addNumber 18 [some (.inr (.inr (10, i0, j0))), some (.inl x1), some (.inl x2)] [] h Q))) ∧ (¬ 0 < x2 → Q none h))) : zAt m_B_addNumber 4 [some (.inr (.inr (10, i0, j0))), some (.inl x1), some (.inl x2)] [] h Q := z_seg (n := 26) (ct := zk_B_addNumber) (Nat.le_of_ble_eq_true rfl) z_cok_130 z_cro_130 rfl hf
theorem g_B_addNumber_18 {i0 : Nat} {j0 : Nat} {x1 : Int32} {x2 : Int32} {h : zH} {Q : Option zV → zH → Prop} (hf : ¬ x2 = 0 ∧ ¬ (10 : Int32) = 0 ∧ zOkV m_B_add [.inr (.inr (10, i0, j0)), .inl ((48 : Int32) + ((x1 / x2) - (x1 / x2) / (10 : Int32) * (10 : Int32)))] h (fun h1 => zAt m_B_addNumber 31 [some (.inr (.inr (10, i0, j0))), some (.inl x1), some (.inl x2)] [] h1 Q)) : zAt m_B_addNumber 18 [some (.inr (.inr (10, i0, j0))), some (.inl x1), some (.inl x2)] [] h Q := z_seg (n := 26) (ct := zk_B_addNumber) (Nat.le_of_ble_eq_true rfl) z_cok_130 z_cro_130 rfl hf
theorem g_B_addNumber_31 {i0 : Nat} {j0 : Nat} {x1 : Int32} {x2 : Int32} {h : zH} {Q : Option zV → zH → Prop} (hf : ¬ (10 : Int32) = 0 ∧ zAt m_B_addNumber 4 [some (.inr (.inr (10, i0, j0))), some (.inl x1), some (.inl (x2 / (10 : Int32)))] [] h Q) : zAt m_B_addNumber 31 [some (.inr (.inr (10, i0, j0))), some (.inl x1), some (.inl x2)] [] h Q := z_seg (n := 26) (ct := zk_B_addNumber) (Nat.le_of_ble_eq_true rfl) z_cok_130 z_cro_130 rfl hf
-- JobText$Pair.printSetTo(LJobText$Bytes;)V
theorem g_P_printSetTo_0 {i0 : Nat} {j0 : Nat} {i1 : Nat} {j1 : Nat} {h : zH} {Q : Option zV → zH → Prop} (hf : zOkV m_B_addText [.inr (.inr (10, i1, j1)), .inr (.inr (0, 22, 0))] h (fun h1 => zAt m_P_printSetTo 6 [some (.inr (.inr (18, i0, j0))), some (.inr (.inr (10, i1, j1)))] [] h1 Q)) : zAt m_P_printSetTo 0 [some (.inr (.inr (18, i0, j0))), some (.inr (.inr (10, i1, j1)))] [] h Q := z_seg (n := 29) (ct := zk_P_printSetTo) (Nat.le_of_ble_eq_true rfl) z_cok_134 z_cro_134 rfl hf
theorem g_P_printSetTo_6 {i0 : Nat} {j0 : Nat} {i1 : Nat} {j1 : Nat} {h : zH} {Q : Option zV → zH → Prop} (hf : zOkV m_B_addName [.inr (.inr (10, i1, j1)), .inr (.inl (h.2.1 (18, i0, j0) 0))] h (fun h1 => zAt m_P_printSetTo 14 [some (.inr (.inr (18, i0, j0))), some (.inr (.inr (10, i1, j1)))] [] h1 Q)) : zAt m_P_printSetTo 6 [some (.inr (.inr (18, i0, j0))), some (.inr (.inr (10, i1, j1)))] [] h Q := z_seg (n := 29) (ct := zk_P_printSetTo) (Nat.le_of_ble_eq_true rfl) z_cok_134 z_cro_134 rfl hf
theorem g_P_printSetTo_14 {i0 : Nat} {j0 : Nat} {i1 : Nat} {j1 : Nat} {h : zH} {Q : Option zV → zH → Prop} (hf : zOkV m_B_addText [.inr (.inr (10, i1, j1)), .inr (.inr (0, 23, 0))] h (fun h1 => zAt m_P_printSetTo 20 [some (.inr (.inr (18, i0, j0))), some (.inr (.inr (10, i1, j1)))] [] h1 Q)) : zAt m_P_printSetTo 14 [some (.inr (.inr (18, i0, j0))), some (.inr (.inr (10, i1, j1)))] [] h Q := z_seg (n := 29) (ct := zk_P_printSetTo) (Nat.le_of_ble_eq_true rfl) z_cok_134 z_cro_134 rfl hf
theorem g_P_printSetTo_20 {i0 : Nat} {j0 : Nat} {i1 : Nat} {j1 : Nat} {h : zH} {Q : Option zV → zH → Prop} (hf : (((lg_cmp (h.2.1 (18, i0, j0) 1) (0 : Int64)) = 0 → zOkV m_B_addNumber [.inr (.inr (10, i1, j1)), .inl (h.1 (18, i0, j0) 2)] h (fun h2 => zAt m_P_printSetTo 37 [some (.inr (.inr (18, i0, j0))), some (.inr (.inr (10, i1, j1)))] [] h2 Q)) ∧ (¬ (lg_cmp (h.2.1 (18, i0, j0) 1) (0 : Int64)) = 0 → zOkV m_B_addName [.inr (.inr (10, i1, j1)), .inr (.inl (h.2.1 (18, i0, j0) 1))] h (fun h1 => zAt m_P_printSetTo 48 [some (.inr (.inr (18, i0, j0))), some (.inr (.inr (10, i1, j1)))] [] h1 Q)))) : zAt m_P_printSetTo 20 [some (.inr (.inr (18, i0, j0))), some (.inr (.inr (10, i1, j1)))] [] h Q := z_seg (n := 29) (ct := zk_P_printSetTo) (Nat.le_of_ble_eq_true rfl) z_cok_134 z_cro_134 rfl hf
theorem g_P_printSetTo_37 {i0 : Nat} {j0 : Nat} {i1 : Nat} {j1 : Nat} {h : zH} {Q : Option zV → zH → Prop} (hf : zOkV m_B_addText [.inr (.inr (10, i1, j1)), .inr (.inr (0, 21, 0))] h (fun h1 => zAt m_P_printSetTo 54 [some (.inr (.inr (18, i0, j0))), some (.inr (.inr (10, i1, j1)))] [] h1 Q)) : zAt m_P_printSetTo 37 [some (.inr (.inr (18, i0, j0))), some (.inr (.inr (10, i1, j1)))] [] h Q := z_seg (n := 29) (ct := zk_P_printSetTo) (Nat.le_of_ble_eq_true rfl) z_cok_134 z_cro_134 rfl hf
theorem g_P_printSetTo_48 {i0 : Nat} {j0 : Nat} {i1 : Nat} {j1 : Nat} {h : zH} {Q : Option zV → zH → Prop} (hf : zOkV m_B_addText [.inr (.inr (10, i1, j1)), .inr (.inr (0, 21, 0))] h (fun h1 => zAt m_P_printSetTo 54 [some (.inr (.inr (18, i0, j0))), some (.inr (.inr (10, i1, j1)))] [] h1 Q)) : zAt m_P_printSetTo 48 [some (.inr (.inr (18, i0, j0))), some (.inr (.inr (10, i1, j1)))] [] h Q := z_seg (n := 29) (ct := zk_P_printSetTo) (Nat.le_of_ble_eq_true rfl) z_cok_134 z_cro_134 rfl hf
theorem g_P_printSetTo_54 {i0 : Nat} {j0 : Nat} {i1 : Nat} {j1 : Nat} {h : zH} {Q : Option zV → zH → Prop} (hf : Q none h) : zAt m_P_printSetTo 54 [some (.inr (.inr (18, i0, j0))), some (.inr (.inr (10, i1, j1)))] [] h Q := z_seg (n := 29) (ct := zk_P_printSetTo) (Nat.le_of_ble_eq_true rfl) z_cok_134 z_cro_134 rfl hf
-- JobText$Pair.printLoopTo(LJobText$Bytes;)V
theorem g_P_printLoopTo_0 {i0 : Nat} {j0 : Nat} {i1 : Nat} {j1 : Nat} {h : zH} {Q : Option zV → zH → Prop} (hf : zOkV m_B_addText [.inr (.inr (10, i1, j1)), .inr (.inr (0, 24, 0))] h (fun h1 => zAt m_P_printLoopTo 6 [some (.inr (.inr (18, i0, j0))), some (.inr (.inr (10, i1, j1)))] [] h1 Q)) : zAt m_P_printLoopTo 0 [some (.inr (.inr (18, i0, j0))), some (.inr (.inr (10, i1, j1)))] [] h Q := z_seg (n := 19) (ct := zk_P_printLoopTo) (Nat.le_of_ble_eq_true rfl) z_cok_135 z_cro_135 rfl hf
theorem g_P_printLoopTo_6 {i0 : Nat} {j0 : Nat} {i1 : Nat} {j1 : Nat} {h : zH} {Q : Option zV → zH → Prop} (hf : zOkV m_B_addName [.inr (.inr (10, i1, j1)), .inr (.inl (h.2.1 (18, i0, j0) 0))] h (fun h1 => zAt m_P_printLoopTo 14 [some (.inr (.inr (18, i0, j0))), some (.inr (.inr (10, i1, j1)))] [] h1 Q)) : zAt m_P_printLoopTo 6 [some (.inr (.inr (18, i0, j0))), some (.inr (.inr (10, i1, j1)))] [] h Q := z_seg (n := 19) (ct := zk_P_printLoopTo) (Nat.le_of_ble_eq_true rfl) z_cok_135 z_cro_135 rfl hf
theorem g_P_printLoopTo_14 {i0 : Nat} {j0 : Nat} {i1 : Nat} {j1 : Nat} {h : zH} {Q : Option zV → zH → Prop} (hf : zOkV m_B_addText [.inr (.inr (10, i1, j1)), .inr (.inr (0, 25, 0))] h (fun h1 => zAt m_P_printLoopTo 20 [some (.inr (.inr (18, i0, j0))), some (.inr (.inr (10, i1, j1)))] [] h1 Q)) : zAt m_P_printLoopTo 14 [some (.inr (.inr (18, i0, j0))), some (.inr (.inr (10, i1, j1)))] [] h Q := z_seg (n := 19) (ct := zk_P_printLoopTo) (Nat.le_of_ble_eq_true rfl) z_cok_135 z_cro_135 rfl hf
theorem g_P_printLoopTo_20 {i0 : Nat} {j0 : Nat} {i1 : Nat} {j1 : Nat} {h : zH} {Q : Option zV → zH → Prop} (hf : zOkV m_B_addName [.inr (.inr (10, i1, j1)), .inr (.inl (h.2.1 (18, i0, j0) 1))] h (fun h1 => zAt m_P_printLoopTo 28 [some (.inr (.inr (18, i0, j0))), some (.inr (.inr (10, i1, j1)))] [] h1 Q)) : zAt m_P_printLoopTo 20 [some (.inr (.inr (18, i0, j0))), some (.inr (.inr (10, i1, j1)))] [] h Q := z_seg (n := 19) (ct := zk_P_printLoopTo) (Nat.le_of_ble_eq_true rfl) z_cok_135 z_cro_135 rfl hf
theorem g_P_printLoopTo_28 {i0 : Nat} {j0 : Nat} {i1 : Nat} {j1 : Nat} {h : zH} {Q : Option zV → zH → Prop} (hf : zOkV m_B_addText [.inr (.inr (10, i1, j1)), .inr (.inr (0, 21, 0))] h (fun h1 => zAt m_P_printLoopTo 34 [some (.inr (.inr (18, i0, j0))), some (.inr (.inr (10, i1, j1)))] [] h1 Q)) : zAt m_P_printLoopTo 28 [some (.inr (.inr (18, i0, j0))), some (.inr (.inr (10, i1, j1)))] [] h Q := z_seg (n := 19) (ct := zk_P_printLoopTo) (Nat.le_of_ble_eq_true rfl) z_cok_135 z_cro_135 rfl hf
theorem g_P_printLoopTo_34 {i0 : Nat} {j0 : Nat} {i1 : Nat} {j1 : Nat} {h : zH} {Q : Option zV → zH → Prop} (hf : Q none h) : zAt m_P_printLoopTo 34 [some (.inr (.inr (18, i0, j0))), some (.inr (.inr (10, i1, j1)))] [] h Q := z_seg (n := 19) (ct := zk_P_printLoopTo) (Nat.le_of_ble_eq_true rfl) z_cok_135 z_cro_135 rfl hf
-- JobText$Input.isLike(LJobText$Input;)Z
theorem g_I_isLike_0 {i0 : Nat} {j0 : Nat} {i1 : Nat} {j1 : Nat} {h : zH} {Q : Option zV → zH → Prop} (hf : (((lg_cmp (h.2.1 (13, i0, j0) 0) (h.2.1 (13, i1, j1) 0)) = 0 → (((lg_cmp (h.2.1 (13, i0, j0) 2) (h.2.1 (13, i1, j1) 2)) = 0 → ((1 : Int32) = 0 ∨ (1 : Int32) = 1) ∧ Q (some (.inl (1 : Int32))) h) ∧ (¬ (lg_cmp (h.2.1 (13, i0, j0) 2) (h.2.1 (13, i1, j1) 2)) = 0 → ((0 : Int32) = 0 ∨ (0 : Int32) = 1) ∧ Q (some (.inl (0 : Int32))) h))) ∧ (¬ (lg_cmp (h.2.1 (13, i0, j0) 0) (h.2.1 (13, i1, j1) 0)) = 0 → ((0 : Int32) = 0 ∨ (0 : Int32) = 1) ∧ Q (some (.inl (0 : Int32))) h))) : zAt m_I_isLike 0 [some (.inr (.inr (13, i0, j0))), some (.inr (.inr (13, i1, j1)))] [] h Q := z_seg (n := 17) (ct := zk_I_isLike) (Nat.le_of_ble_eq_true rfl) z_cok_142 z_cro_142 rfl hf
end
