/-- java/lang/String.coder()B -/
abbrev m_T_coder : Nat := 0
def zk_T_coder : List (Nat × List Bool) := []
/-- java/lang/String.length()I -/
abbrev m_T_length : Nat := 1
def zk_T_length : List (Nat × List Bool) := []
/-- java/lang/String.isLatin1()Z -/
abbrev m_T_isLatin1 : Nat := 2
def zk_T_isLatin1 : List (Nat × List Bool) := []
/-- jdk/internal/util/Preconditions.checkIndex(IILjava/util/function/BiFunction;)I -/
abbrev m_T2_checkIndex : Nat := 3
def zk_T2_checkIndex : List (Nat × List Bool) := []
/-- java/lang/String.checkIndex(II)V -/
abbrev m_T_checkIndex : Nat := 4
def zk_T_checkIndex : List (Nat × List Bool) := []
/-- java/lang/StringLatin1.charAt([BI)C -/
abbrev m_T1_charAt : Nat := 5
def zk_T1_charAt : List (Nat × List Bool) := []
/-- java/lang/String.charAt(I)C -/
abbrev m_T_charAt : Nat := 6
def zk_T_charAt : List (Nat × List Bool) := []
/-- JobText.isDigit(I)Z -/
abbrev m_J_isDigit : Nat := 7
def zk_J_isDigit : List (Nat × List Bool) := []
/-- JobText.longerName(JI)J -/
abbrev m_J_longerName : Nat := 8
def zk_J_longerName : List (Nat × List Bool) := []
/-- JobText.lowByte(JI)I -/
abbrev m_J_lowByte : Nat := 9
def zk_J_lowByte : List (Nat × List Bool) := []
/-- JobText.isTextByte(I)Z -/
abbrev m_J_isTextByte : Nat := 10
def zk_J_isTextByte : List (Nat × List Bool) := []
/-- JobText$Bytes.add(I)V -/
abbrev m_B_add : Nat := 11
def zk_B_add : List (Nat × List Bool) := []
/-- JobText.type(JI)I -/
abbrev m_J_type : Nat := 12
def zk_J_type : List (Nat × List Bool) := [(16, [true, true, false, true, true]), (65, [true, true, false, true, true])]
/-- JobText.cut(I)I -/
abbrev m_J_cut : Nat := 13
def zk_J_cut : List (Nat × List Bool) := []
/-- JobText.isFile(I)Z -/
abbrev m_J_isFile : Nat := 14
def zk_J_isFile : List (Nat × List Bool) := []
/-- JobText$Bytes.clear()V -/
abbrev m_B_clear : Nat := 15
def zk_B_clear : List (Nat × List Bool) := []
/-- JobText$Bytes.at(I)I -/
abbrev m_B_at : Nat := 16
def zk_B_at : List (Nat × List Bool) := []
/-- JobText$Bytes.become(LJobText$Bytes;II)V -/
abbrev m_B_become : Nat := 17
def zk_B_become : List (Nat × List Bool) := [(7, [true, true, true, true, true])]
/-- JobText.file(I)I -/
abbrev m_J_file : Nat := 18
def zk_J_file : List (Nat × List Bool) := []
/-- JobText.byteOf(II)I -/
abbrev m_J_byteOf : Nat := 19
def zk_J_byteOf : List (Nat × List Bool) := []
/-- JobText.isJob(I)Z -/
abbrev m_J_isJob : Nat := 20
def zk_J_isJob : List (Nat × List Bool) := []
/-- JobText$Fault.clear()V -/
abbrev m_F_clear : Nat := 21
def zk_F_clear : List (Nat × List Bool) := []
/-- JobText$Job.clear()V -/
abbrev m_K_clear : Nat := 22
def zk_K_clear : List (Nat × List Bool) := []
/-- JobText$Words.open(I)V -/
abbrev m_S_open : Nat := 23
def zk_S_open : List (Nat × List Bool) := [(39, [true, true])]
/-- JobText$Words.begin(LJobText$Job;I)V -/
abbrev m_S_begin : Nat := 24
def zk_S_begin : List (Nat × List Bool) := []
/-- JobText$Words.here()I -/
abbrev m_S_here : Nat := 25
def zk_S_here : List (Nat × List Bool) := []
/-- JobText$Fault.tell(III)V -/
abbrev m_F_tell : Nat := 26
def zk_F_tell : List (Nat × List Bool) := []
/-- JobText$Job.addComment(LJobText$Bytes;II)V -/
abbrev m_K_addComment : Nat := 27
def zk_K_addComment : List (Nat × List Bool) := []
/-- JobText$Words.meetComment()V -/
abbrev m_S_meetComment : Nat := 28
def zk_S_meetComment : List (Nat × List Bool) := [(19, [true, true, true, true, false]), (53, [true, true, true, true, true]), (76, [true, true, true, true, true]), (100, [true, true, true, true, true])]
/-- JobText$Words.skipToToken()V -/
abbrev m_S_skipToToken : Nat := 29
def zk_S_skipToToken : List (Nat × List Bool) := [(2, [true, true, false]), (49, [true, true, true])]
/-- JobText.isSmallLetter(I)Z -/
abbrev m_J_isSmallLetter : Nat := 30
def zk_J_isSmallLetter : List (Nat × List Bool) := []
/-- JobText.isWordByte(I)Z -/
abbrev m_J_isWordByte : Nat := 31
def zk_J_isWordByte : List (Nat × List Bool) := []
/-- JobText$Words.lookAtName()V -/
abbrev m_S_lookAtName : Nat := 32
def zk_S_lookAtName : List (Nat × List Bool) := [(5, [true, false]), (62, [true, false]), (89, [true, true])]
/-- JobText$Words.lookAtNumber()V -/
abbrev m_S_lookAtNumber : Nat := 33
def zk_S_lookAtNumber : List (Nat × List Bool) := [(20, [true, true, false, false]), (81, [true, true, false, false]), (121, [true, true, true, true])]
/-- java/lang/StringLatin1.canEncode(I)Z -/
abbrev m_T1_canEncode : Nat := 34
def zk_T1_canEncode : List (Nat × List Bool) := []
/-- java/lang/StringLatin1.indexOfChar([BIII)I -/
abbrev m_T1_indexOfChar : Nat := 35
def zk_T1_indexOfChar : List (Nat × List Bool) := [(7, [true, true, true, true, true, true])]
/-- java/lang/StringLatin1.indexOf([BIII)I -/
abbrev m_T1_indexOf : Nat := 36
def zk_T1_indexOf : List (Nat × List Bool) := []
/-- java/lang/String.indexOf(II)I -/
abbrev m_T_indexOf : Nat := 37
def zk_T_indexOf : List (Nat × List Bool) := []
/-- java/lang/String.indexOf(I)I -/
abbrev m_T_indexOf2 : Nat := 38
def zk_T_indexOf2 : List (Nat × List Bool) := []
/-- JobText$Words.look()V -/
abbrev m_S_look : Nat := 39
def zk_S_look : List (Nat × List Bool) := []
/-- JobText$Reader.tellHere(I)V -/
abbrev m_R_tellHere : Nat := 40
def zk_R_tellHere : List (Nat × List Bool) := []
/-- JobText$Words.close()V -/
abbrev m_S_close : Nat := 41
def zk_S_close : List (Nat × List Bool) := [(17, [true])]
/-- JobText$Reader.beginStatement()V -/
abbrev m_R_beginStatement : Nat := 42
def zk_R_beginStatement : List (Nat × List Bool) := []
/-- JobText$Words.isOpen(I)Z -/
abbrev m_S_isOpen : Nat := 43
def zk_S_isOpen : List (Nat × List Bool) := [(2, [true, true, true])]
/-- JobText$Reader.goOnWithUse()V -/
abbrev m_R_goOnWithUse : Nat := 44
def zk_R_goOnWithUse : List (Nat × List Bool) := []
/-- JobText$Pair.begin(LJobText$Words;)V -/
abbrev m_P_begin : Nat := 45
def zk_P_begin : List (Nat × List Bool) := []
/-- JobText$Job.noteStatement(II)V -/
abbrev m_K_noteStatement : Nat := 46
def zk_K_noteStatement : List (Nat × List Bool) := []
/-- JobText$Reader.beginSet()V -/
abbrev m_R_beginSet : Nat := 47
def zk_R_beginSet : List (Nat × List Bool) := [(20, [true, true])]
/-- JobText$Pair.tellSecond(LJobText$Words;)V -/
abbrev m_P_tellSecond : Nat := 48
def zk_P_tellSecond : List (Nat × List Bool) := []
/-- JobText$Reader.beginLoop()V -/
abbrev m_R_beginLoop : Nat := 49
def zk_R_beginLoop : List (Nat × List Bool) := []
/-- JobText$Reader.goOnWithLine()V -/
abbrev m_R_goOnWithLine : Nat := 50
def zk_R_goOnWithLine : List (Nat × List Bool) := []
/-- JobText$Job.find(J)I -/
abbrev m_K_find : Nat := 51
def zk_K_find : List (Nat × List Bool) := [(2, [true, true, false, true])]
/-- JobText$Operator.begin(LJobText$Words;)V -/
abbrev m_O_begin : Nat := 52
def zk_O_begin : List (Nat × List Bool) := []
/-- JobText$Reader.beginOperator()V -/
abbrev m_R_beginOperator : Nat := 53
def zk_R_beginOperator : List (Nat × List Bool) := []
/-- JobText$Reader.tellKind(I)V -/
abbrev m_R_tellKind : Nat := 54
def zk_R_tellKind : List (Nat × List Bool) := []
/-- JobText$Reader.kindOf(I)I -/
abbrev m_R_kindOf : Nat := 55
def zk_R_kindOf : List (Nat × List Bool) := [(2, [true, true])]
/-- JobText$Operator.addInput(LJobText$Words;)V -/
abbrev m_O_addInput : Nat := 56
def zk_O_addInput : List (Nat × List Bool) := []
/-- JobText$Reader.addInput()V -/
abbrev m_R_addInput : Nat := 57
def zk_R_addInput : List (Nat × List Bool) := []
/-- JobText$Operator.tellInputSide(LJobText$Words;)V -/
abbrev m_O_tellInputSide : Nat := 58
def zk_O_tellInputSide : List (Nat × List Bool) := []
/-- JobText$Reader.goOnWithOperator()V -/
abbrev m_R_goOnWithOperator : Nat := 59
def zk_R_goOnWithOperator : List (Nat × List Bool) := []
/-- JobText$Reader.boundedNumber(II)I -/
abbrev m_R_boundedNumber : Nat := 60
def zk_R_boundedNumber : List (Nat × List Bool) := []
/-- JobText$Operator.sideOf(J)I -/
abbrev m_O_sideOf : Nat := 61
def zk_O_sideOf : List (Nat × List Bool) := [(2, [true, true, false, true])]
/-- JobText$Reader.addSide()V -/
abbrev m_R_addSide : Nat := 62
def zk_R_addSide : List (Nat × List Bool) := []
/-- JobText$Reader.goOnWithProperty()V -/
abbrev m_R_goOnWithProperty : Nat := 63
def zk_R_goOnWithProperty : List (Nat × List Bool) := []
/-- JobText$Reader.propertyState(I)I -/
abbrev m_R_propertyState : Nat := 64
def zk_R_propertyState : List (Nat × List Bool) := []
/-- JobText$Reader.goOnBehind()V -/
abbrev m_R_goOnBehind : Nat := 65
def zk_R_goOnBehind : List (Nat × List Bool) := []
/-- JobText$Reader.meetToken()V -/
abbrev m_R_meetToken : Nat := 66
def zk_R_meetToken : List (Nat × List Bool) := [(25, [true, true])]
/-- JobText$Reader.readText(LJobText$Job;I)V -/
abbrev m_R_readText : Nat := 67
def zk_R_readText : List (Nat × List Bool) := [(36, [true, true, true, true])]
/-- JobText$Judge.judgeInput(LJobText$Job;LJobText$Operator;LJobText$Input;)V -/
abbrev m_U_judgeInput : Nat := 68
def zk_U_judgeInput : List (Nat × List Bool) := [(74, [true, true, true, true, true]), (115, [true, true, true, true, true])]
/-- JobText$Operator.hasWrongInputCount()Z -/
abbrev m_O_hasWrongInputCount : Nat := 69
def zk_O_hasWrongInputCount : List (Nat × List Bool) := []
/-- JobText$Judge.judgeOperator(LJobText$Job;LJobText$Operator;)V -/
abbrev m_U_judgeOperator : Nat := 70
def zk_U_judgeOperator : List (Nat × List Bool) := [(2, [true, true, true, true])]
/-- JobText$Judge.judgeLoop(LJobText$Job;LJobText$Pair;)V -/
abbrev m_U_judgeLoop : Nat := 71
def zk_U_judgeLoop : List (Nat × List Bool) := []
/-- JobText$Judge.comesFrom(II)Z -/
abbrev m_U_comesFrom : Nat := 72
def zk_U_comesFrom : List (Nat × List Bool) := []
/-- JobText$Judge.findOrigins(LJobText$Job;)V -/
abbrev m_U_findOrigins : Nat := 73
def zk_U_findOrigins : List (Nat × List Bool) := [(2, [true, true, true, false, false]), (27, [true, true, true, true, true]), (71, [true, true, true, false, false]), (81, [true, true, true, true, false])]
/-- JobText$Judge.judgeCycles(LJobText$Job;)V -/
abbrev m_U_judgeCycles : Nat := 74
def zk_U_judgeCycles : List (Nat × List Bool) := [(2, [true, true, true])]
/-- JobText$Judge.judgeLoopBack(LJobText$Pair;)V -/
abbrev m_U_judgeLoopBack : Nat := 75
def zk_U_judgeLoopBack : List (Nat × List Bool) := []
/-- JobText$Layout.inputsStand(LJobText$Operator;)Z -/
abbrev m_Y_inputsStand : Nat := 76
def zk_Y_inputsStand : List (Nat × List Bool) := [(2, [true, true, true])]
/-- JobText$Layout.firstReady(LJobText$Job;)I -/
abbrev m_Y_firstReady : Nat := 77
def zk_Y_firstReady : List (Nat × List Bool) := [(2, [true, true, true])]
/-- JobText$Layout.levelOf(LJobText$Operator;)I -/
abbrev m_Y_levelOf : Nat := 78
def zk_Y_levelOf : List (Nat × List Bool) := [(4, [true, true, true, true])]
/-- JobText$Layout.commonKey(LJobText$Operator;)J -/
abbrev m_Y_commonKey : Nat := 79
def zk_Y_commonKey : List (Nat × List Bool) := [(27, [true, true, true, false, true])]
/-- JobText$Layout.keyOf(LJobText$Operator;)J -/
abbrev m_Y_keyOf : Nat := 80
def zk_Y_keyOf : List (Nat × List Bool) := []
/-- JobText$Layout.arrange(LJobText$Job;)V -/
abbrev m_Y_arrange : Nat := 81
def zk_Y_arrange : List (Nat × List Bool) := [(7, [true, true, true, false]), (31, [true, true, true, false])]
/-- JobText$Operator.wantsKeyedInputs()Z -/
abbrev m_O_wantsKeyedInputs : Nat := 82
def zk_O_wantsKeyedInputs : List (Nat × List Bool) := []
/-- JobText$Judge.judgeKeys(LJobText$Job;)V -/
abbrev m_U_judgeKeys : Nat := 83
def zk_U_judgeKeys : List (Nat × List Bool) := [(2, [true, true, true, false])]
/-- JobText$Judge.judgeText(LJobText$Job;)V -/
abbrev m_U_judgeText : Nat := 84
def zk_U_judgeText : List (Nat × List Bool) := [(2, [true, true, true]), (39, [true, true, true]), (74, [true, true, true]), (96, [true, true, true]), (130, [true, true, true])]
/-- JobText.numberOf(J)I -/
abbrev m_J_numberOf : Nat := 85
def zk_J_numberOf : List (Nat × List Bool) := [(2, [true, true, false, true])]
/-- JobText.newNames(LJobText$Job;)I -/
abbrev m_J_newNames : Nat := 86
def zk_J_newNames : List (Nat × List Bool) := [(4, [true, true, true, true])]
/-- JobText.giveNumbers(LJobText$Job;)V -/
abbrev m_J_giveNumbers : Nat := 87
def zk_J_giveNumbers : List (Nat × List Bool) := [(2, [true, true, true, false, false])]
/-- JobText$Flow.commonDivisor(JJ)J -/
abbrev m_W_commonDivisor : Nat := 88
def zk_W_commonDivisor : List (Nat × List Bool) := [(9, [true, false, true, false, true, false, true, false, true, false, false])]
/-- JobText$Flow.put(JJ)V -/
abbrev m_W_put : Nat := 89
def zk_W_put : List (Nat × List Bool) := [(30, [true, true, false, true, false, true, false])]
/-- JobText$Layout.flowOf(LJobText$Input;)LJobText$Flow; -/
abbrev m_Y_flowOf : Nat := 90
def zk_Y_flowOf : List (Nat × List Bool) := []
/-- JobText$Flow.become(LJobText$Flow;)V -/
abbrev m_W_become : Nat := 91
def zk_W_become : List (Nat × List Bool) := []
/-- JobText$Flow.lessen(LJobText$Flow;)V -/
abbrev m_W_lessen : Nat := 92
def zk_W_lessen : List (Nat × List Bool) := []
/-- JobText$Flow.add(LJobText$Flow;)V -/
abbrev m_W_add : Nat := 93
def zk_W_add : List (Nat × List Bool) := []
/-- JobText$Layout.findWhatComes(LJobText$Operator;)V -/
abbrev m_Y_findWhatComes : Nat := 94
def zk_Y_findWhatComes : List (Nat × List Bool) := [(14, [true, true, false]), (58, [true, true, true])]
/-- JobText$Flow.multiply(II)V -/
abbrev m_W_multiply : Nat := 95
def zk_W_multiply : List (Nat × List Bool) := []
/-- JobText$Layout.reckonFlow(LJobText$Operator;I)V -/
abbrev m_Y_reckonFlow : Nat := 96
def zk_Y_reckonFlow : List (Nat × List Bool) := [(46, [true, true, true, false, false])]
/-- JobText$Layout.countReaders(LJobText$Job;)V -/
abbrev m_Y_countReaders : Nat := 97
def zk_Y_countReaders : List (Nat × List Bool) := [(2, [true, true, true, false, false, false]), (32, [true, true, true, false, false, false]), (50, [true, true, true, true, true, false]), (124, [true, true, true, false, false, false])]
/-- JobText$Operator.parOrOne()I -/
abbrev m_O_parOrOne : Nat := 98
def zk_O_parOrOne : List (Nat × List Bool) := []
/-- JobText$Layout.isFused(LJobText$Job;LJobText$Operator;)Z -/
abbrev m_Y_isFused : Nat := 99
def zk_Y_isFused : List (Nat × List Bool) := [(33, [true, true, true, false, false]), (38, [true, true, true, false, false])]
/-- JobText$Layout.findChains(LJobText$Job;)V -/
abbrev m_Y_findChains : Nat := 100
def zk_Y_findChains : List (Nat × List Bool) := [(12, [true, true, true, false, false])]
/-- JobText$Layout.channelsBetween(LJobText$Job;II)I -/
abbrev m_Y_channelsBetween : Nat := 101
def zk_Y_channelsBetween : List (Nat × List Bool) := []
/-- JobText$Layout.countChannels(LJobText$Job;)V -/
abbrev m_Y_countChannels : Nat := 102
def zk_Y_countChannels : List (Nat × List Bool) := [(7, [true, true, true, false]), (17, [true, true, true, true]), (82, [true, true, true, false])]
/-- JobText$Layout.reckon(LJobText$Job;)V -/
abbrev m_Y_reckon : Nat := 103
def zk_Y_reckon : List (Nat × List Bool) := [(2, [true, true, true, false])]
/-- JobText.putJob(I)V -/
abbrev m_J_putJob : Nat := 104
def zk_J_putJob : List (Nat × List Bool) := []
/-- JobText.read(II)I -/
abbrev m_J_read : Nat := 105
def zk_J_read : List (Nat × List Bool) := [(56, [true, true, true])]
/-- JobText.drop(I)I -/
abbrev m_J_drop : Nat := 106
def zk_J_drop : List (Nat × List Bool) := []
/-- JobText.fault(I)I -/
abbrev m_J_fault : Nat := 107
def zk_J_fault : List (Nat × List Bool) := []
/-- JobText.refusal(III)I -/
abbrev m_J_refusal : Nat := 108
def zk_J_refusal : List (Nat × List Bool) := []
/-- JobText$Job.howMany(I)I -/
abbrev m_K_howMany : Nat := 109
def zk_K_howMany : List (Nat × List Bool) := []
/-- JobText.count(II)I -/
abbrev m_J_count : Nat := 110
def zk_J_count : List (Nat × List Bool) := []
/-- JobText.operatorRefusal(IIII)I -/
abbrev m_J_operatorRefusal : Nat := 111
def zk_J_operatorRefusal : List (Nat × List Bool) := []
/-- JobText$Layout.laid(II)I -/
abbrev m_Y_laid : Nat := 112
def zk_Y_laid : List (Nat × List Bool) := []
/-- JobText$Operator.told(I)I -/
abbrev m_O_told : Nat := 113
def zk_O_told : List (Nat × List Bool) := []
/-- JobText.operator(III)I -/
abbrev m_J_operator : Nat := 114
def zk_J_operator : List (Nat × List Bool) := []
/-- JobText.nameLength(J)I -/
abbrev m_J_nameLength : Nat := 115
def zk_J_nameLength : List (Nat × List Bool) := [(4, [true, false, true, true, false])]
/-- JobText.nameByteFromEnd(JI)I -/
abbrev m_J_nameByteFromEnd : Nat := 116
def zk_J_nameByteFromEnd : List (Nat × List Bool) := [(5, [true, false, true, true, false, true])]
/-- JobText.nameByte(JI)I -/
abbrev m_J_nameByte : Nat := 117
def zk_J_nameByte : List (Nat × List Bool) := []
/-- JobText.letter(IIII)I -/
abbrev m_J_letter : Nat := 118
def zk_J_letter : List (Nat × List Bool) := []
/-- JobText.input(IIII)I -/
abbrev m_J_input : Nat := 119
def zk_J_input : List (Nat × List Bool) := []
/-- JobText.flow(III)I -/
abbrev m_J_flow : Nat := 120
def zk_J_flow : List (Nat × List Bool) := [(51, [true, true, true, true, true, true, false])]
/-- JobText.set(III)I -/
abbrev m_J_set : Nat := 121
def zk_J_set : List (Nat × List Bool) := []
/-- JobText.setLetter(IIZI)I -/
abbrev m_J_setLetter : Nat := 122
def zk_J_setLetter : List (Nat × List Bool) := []
/-- JobText.loop(III)I -/
abbrev m_J_loop : Nat := 123
def zk_J_loop : List (Nat × List Bool) := []
/-- JobText$Bytes.addBytes(LJobText$Bytes;)V -/
abbrev m_B_addBytes : Nat := 124
def zk_B_addBytes : List (Nat × List Bool) := [(2, [true, true, true])]
/-- JobText$Job.printComment(LJobText$Bytes;I)V -/
abbrev m_K_printComment : Nat := 125
def zk_K_printComment : List (Nat × List Bool) := []
/-- JobText$Bytes.addText(Ljava/lang/String;)V -/
abbrev m_B_addText : Nat := 126
def zk_B_addText : List (Nat × List Bool) := [(2, [true, true, true])]
/-- JobText$Bytes.addName(J)V -/
abbrev m_B_addName : Nat := 127
def zk_B_addName : List (Nat × List Bool) := [(7, [true, true, false, true])]
/-- JobText$Operator.kindWord()Ljava/lang/String; -/
abbrev m_O_kindWord : Nat := 128
def zk_O_kindWord : List (Nat × List Bool) := []
/-- JobText$Operator.printInputs(LJobText$Bytes;)V -/
abbrev m_O_printInputs : Nat := 129
def zk_O_printInputs : List (Nat × List Bool) := [(2, [true, true, true])]
/-- JobText$Bytes.addNumber(I)V -/
abbrev m_B_addNumber : Nat := 130
def zk_B_addNumber : List (Nat × List Bool) := [(6, [true, true, true, true]), (25, [true, true, true, true])]
/-- JobText$Operator.printNumber(LJobText$Bytes;Ljava/lang/String;I)V -/
abbrev m_O_printNumber : Nat := 131
def zk_O_printNumber : List (Nat × List Bool) := []
/-- JobText$Operator.printSides(LJobText$Bytes;)V -/
abbrev m_O_printSides : Nat := 132
def zk_O_printSides : List (Nat × List Bool) := [(2, [true, true, true])]
/-- JobText$Operator.printTo(LJobText$Bytes;)V -/
abbrev m_O_printTo : Nat := 133
def zk_O_printTo : List (Nat × List Bool) := [(113, [true, true])]
/-- JobText$Pair.printSetTo(LJobText$Bytes;)V -/
abbrev m_P_printSetTo : Nat := 134
def zk_P_printSetTo : List (Nat × List Bool) := []
/-- JobText$Pair.printLoopTo(LJobText$Bytes;)V -/
abbrev m_P_printLoopTo : Nat := 135
def zk_P_printLoopTo : List (Nat × List Bool) := []
/-- JobText$Job.printStatement(LJobText$Bytes;I)V -/
abbrev m_K_printStatement : Nat := 136
def zk_K_printStatement : List (Nat × List Bool) := []
/-- JobText$Job.printTo(LJobText$Bytes;)V -/
abbrev m_K_printTo : Nat := 137
def zk_K_printTo : List (Nat × List Bool) := [(4, [true, true, true, true]), (18, [true, true, true, true]), (60, [true, true, true, true])]
/-- JobText.print(I)I -/
abbrev m_J_print : Nat := 138
def zk_J_print : List (Nat × List Bool) := []
/-- JobText.out(I)I -/
abbrev m_J_out : Nat := 139
def zk_J_out : List (Nat × List Bool) := []
/-- JobText.take()I -/
abbrev m_J_take : Nat := 140
def zk_J_take : List (Nat × List Bool) := []
/-- JobText.addDifference(III)V -/
abbrev m_J_addDifference : Nat := 141
def zk_J_addDifference : List (Nat × List Bool) := []
/-- JobText$Input.isLike(LJobText$Input;)Z -/
abbrev m_I_isLike : Nat := 142
def zk_I_isLike : List (Nat × List Bool) := []
/-- JobText$Operator.hasInputsOf(LJobText$Operator;)Z -/
abbrev m_O_hasInputsOf : Nat := 143
def zk_O_hasInputsOf : List (Nat × List Bool) := [(15, [true, true, true])]
/-- JobText$Operator.hasSidesOf(LJobText$Operator;)Z -/
abbrev m_O_hasSidesOf : Nat := 144
def zk_O_hasSidesOf : List (Nat × List Bool) := [(15, [true, true, true])]
/-- JobText$Operator.differenceBits(LJobText$Operator;)I -/
abbrev m_O_differenceBits : Nat := 145
def zk_O_differenceBits : List (Nat × List Bool) := [(31, [true, true, true]), (50, [true, true, true]), (70, [true, true, true]), (99, [true, true, true]), (101, [true, true, true]), (122, [true, true, true])]
/-- JobText.compareFirst()V -/
abbrev m_J_compareFirst : Nat := 146
def zk_J_compareFirst : List (Nat × List Bool) := [(2, [true, true, false, false, false])]
/-- JobText.findNew()V -/
abbrev m_J_findNew : Nat := 147
def zk_J_findNew : List (Nat × List Bool) := [(2, [true, true])]
/-- JobText.differ()I -/
abbrev m_J_differ : Nat := 148
def zk_J_differ : List (Nat × List Bool) := []
/-- JobText.difference(II)I -/
abbrev m_J_difference : Nat := 149
def zk_J_difference : List (Nat × List Bool) := []
/-- JobText.numbers()I -/
abbrev m_J_numbers : Nat := 150
def zk_J_numbers : List (Nat × List Bool) := []
/-- JobText.numbered(II)I -/
abbrev m_J_numbered : Nat := 151
def zk_J_numbered : List (Nat × List Bool) := []
/-- JobTextModel.in(III)Z -/
abbrev m_M_in : Nat := 152
def zk_M_in : List (Nat × List Bool) := []
/-- JobTextModel.type(JI)I -/
abbrev m_M_type : Nat := 153
def zk_M_type : List (Nat × List Bool) := [(17, [true, true, false, true, true, false]), (83, [true, true, false, true, true, false])]
/-- JobTextModel.cut(I)I -/
abbrev m_M_cut : Nat := 154
def zk_M_cut : List (Nat × List Bool) := []
/-- JobTextModel.file(I)I -/
abbrev m_M_file : Nat := 155
def zk_M_file : List (Nat × List Bool) := [(13, [true, true, true])]
/-- JobTextModel.byteOf(II)I -/
abbrev m_M_byteOf : Nat := 156
def zk_M_byteOf : List (Nat × List Bool) := []
/-- JobTextModel.empty()V -/
abbrev m_M_empty : Nat := 157
def zk_M_empty : List (Nat × List Bool) := []
/-- JobTextModel.byteAt(I)I -/
abbrev m_M_byteAt : Nat := 158
def zk_M_byteAt : List (Nat × List Bool) := []
/-- JobTextModel.keepComment(II)Z -/
abbrev m_M_keepComment : Nat := 159
def zk_M_keepComment : List (Nat × List Bool) := [(5, [true, true, true, true, true, false, false]), (27, [true, true, true, true, true, false, false]), (52, [true, true, true, true, true, false, false]), (101, [true, true, true, true, true, true, true])]
/-- JobTextModel.wrong(III)Z -/
abbrev m_M_wrong : Nat := 160
def zk_M_wrong : List (Nat × List Bool) := []
/-- JobTextModel.pass()Z -/
abbrev m_M_pass : Nat := 161
def zk_M_pass : List (Nat × List Bool) := [(16, [true, true, true, false]), (34, [true, true, true, false]), (42, [true, true, true, true]), (72, [true, true, true, true]), (96, [true, true, true, true])]
/-- JobTextModel.isLetter(I)Z -/
abbrev m_M_isLetter : Nat := 162
def zk_M_isLetter : List (Nat × List Bool) := []
/-- JobTextModel.isDigit(I)Z -/
abbrev m_M_isDigit : Nat := 163
def zk_M_isDigit : List (Nat × List Bool) := []
/-- JobTextModel.word(IIIIII)J -/
abbrev m_M_word : Nat := 164
def zk_M_word : List (Nat × List Bool) := [(43, [true, true, true, true, true, true, true, false]), (63, [true, true, true, true, true, true, true, false]), (85, [true, true, true, true, true, true, true, false])]
/-- JobTextModel.keyName(I)J -/
abbrev m_M_keyName : Nat := 165
def zk_M_keyName : List (Nat × List Bool) := []
/-- JobTextModel.keyOf(J)I -/
abbrev m_M_keyOf : Nat := 166
def zk_M_keyOf : List (Nat × List Bool) := [(2, [true, false, true])]
/-- JobTextModel.look()Z -/
abbrev m_M_look : Nat := 167
def zk_M_look : List (Nat × List Bool) := [(76, [true, true, true, true, true, false, false]), (180, [true, true, true, true, true, false, false]), (199, [true, true, true, true, true, false, false]), (282, [true, true, true, true, true, true, false]), (328, [true, true, true, true, true, true, false]), (399, [true, true, true, true, false, false, false])]
/-- JobTextModel.want(I)Z -/
abbrev m_M_want : Nat := 168
def zk_M_want : List (Nat × List Bool) := [(27, [true, true])]
/-- JobTextModel.bounded(II)Z -/
abbrev m_M_bounded : Nat := 169
def zk_M_bounded : List (Nat × List Bool) := []
/-- JobTextModel.readUse()Z -/
abbrev m_M_readUse : Nat := 170
def zk_M_readUse : List (Nat × List Bool) := [(74, [true, true, true, true, true])]
/-- JobTextModel.begin(II)V -/
abbrev m_M_begin : Nat := 171
def zk_M_begin : List (Nat × List Bool) := []
/-- JobTextModel.readSet()Z -/
abbrev m_M_readSet : Nat := 172
def zk_M_readSet : List (Nat × List Bool) := [(49, [true, true]), (176, [true, true]), (198, [true, true])]
/-- JobTextModel.readLoop()Z -/
abbrev m_M_readLoop : Nat := 173
def zk_M_readLoop : List (Nat × List Bool) := [(14, [true, true, false]), (73, [true, true, false])]
/-- JobTextModel.operatorOf(IJ)I -/
abbrev m_M_operatorOf : Nat := 174
def zk_M_operatorOf : List (Nat × List Bool) := [(3, [true, true, true, false, true])]
/-- JobTextModel.readName()Z -/
abbrev m_M_readName : Nat := 175
def zk_M_readName : List (Nat × List Bool) := []
/-- JobTextModel.mayHave(I)I -/
abbrev m_M_mayHave : Nat := 176
def zk_M_mayHave : List (Nat × List Bool) := [(16, [true, true]), (30, [true, true]), (37, [true, true]), (62, [true, true]), (63, [true, true]), (82, [true, true]), (89, [true, true])]
/-- JobTextModel.readInputSide(I)Z -/
abbrev m_M_readInputSide : Nat := 177
def zk_M_readInputSide : List (Nat × List Bool) := []
/-- JobTextModel.readInput(I)Z -/
abbrev m_M_readInput : Nat := 178
def zk_M_readInput : List (Nat × List Bool) := []
/-- JobTextModel.readSide(I)Z -/
abbrev m_M_readSide : Nat := 179
def zk_M_readSide : List (Nat × List Bool) := [(36, [true, true, true])]
/-- JobTextModel.readNumber(II)Z -/
abbrev m_M_readNumber : Nat := 180
def zk_M_readNumber : List (Nat × List Bool) := []
/-- JobTextModel.readProperty(II)Z -/
abbrev m_M_readProperty : Nat := 181
def zk_M_readProperty : List (Nat × List Bool) := [(127, [true, true, true, true]), (128, [true, true, true, true])]
/-- JobTextModel.readRest(IZ)Z -/
abbrev m_M_readRest : Nat := 182
def zk_M_readRest : List (Nat × List Bool) := [(19, [true, true, true, true, true, true, true, false, false])]
/-- JobTextModel.readSource()Z -/
abbrev m_M_readSource : Nat := 183
def zk_M_readSource : List (Nat × List Bool) := []
/-- JobTextModel.readOperator()Z -/
abbrev m_M_readOperator : Nat := 184
def zk_M_readOperator : List (Nat × List Bool) := []
/-- JobTextModel.readText(I)Z -/
abbrev m_M_readText : Nat := 185
def zk_M_readText : List (Nat × List Bool) := [(23, [true, true, false])]
/-- JobTextModel.sideOf(IJ)I -/
abbrev m_M_sideOf : Nat := 186
def zk_M_sideOf : List (Nat × List Bool) := [(3, [true, true, true, false, true])]
/-- JobTextModel.judgeInput(I)Z -/
abbrev m_M_judgeInput : Nat := 187
def zk_M_judgeInput : List (Nat × List Bool) := [(109, [true, true, true])]
/-- JobTextModel.judgeOperators()Z -/
abbrev m_M_judgeOperators : Nat := 188
def zk_M_judgeOperators : List (Nat × List Bool) := [(3, [true, true, false, false]), (18, [true, true, true, false]), (117, [true, true, true, false]), (122, [true, true, true, false])]
/-- JobTextModel.judgeLoops()Z -/
abbrev m_M_judgeLoops : Nat := 189
def zk_M_judgeLoops : List (Nat × List Bool) := [(2, [true, true, false, false]), (21, [true, true, true, true])]
/-- JobTextModel.findComes()V -/
abbrev m_M_findComes : Nat := 190
def zk_M_findComes : List (Nat × List Bool) := [(9, [true, true, true, false, false]), (31, [true, true, true, false, false]), (38, [true, true, true, true, false]), (89, [true, true, true, false, false]), (96, [true, true, true, true, false]), (104, [true, true, true, true, true])]
/-- JobTextModel.judgeRings()Z -/
abbrev m_M_judgeRings : Nat := 191
def zk_M_judgeRings : List (Nat × List Bool) := [(6, [true, true, false]), (61, [true, true, false])]
/-- JobTextModel.isReady(I)Z -/
abbrev m_M_isReady : Nat := 192
def zk_M_isReady : List (Nat × List Bool) := [(4, [true, true, true, true])]
/-- JobTextModel.layOut()V -/
abbrev m_M_layOut : Nat := 193
def zk_M_layOut : List (Nat × List Bool) := [(12, [true, true, true, true, false, false, false]), (35, [true, true, true, true, false, false, false]), (43, [true, true, true, true, true, false, false]), (99, [true, true, true, true, true, true, false])]
/-- JobTextModel.keyedAt(II)J -/
abbrev m_M_keyedAt : Nat := 194
def zk_M_keyedAt : List (Nat × List Bool) := []
/-- JobTextModel.findKey(I)V -/
abbrev m_M_findKey : Nat := 195
def zk_M_findKey : List (Nat × List Bool) := [(83, [true, true, true, true, false, true])]
/-- JobTextModel.judgeKeys()Z -/
abbrev m_M_judgeKeys : Nat := 196
def zk_M_judgeKeys : List (Nat × List Bool) := [(2, [true, true, false, false, false]), (65, [true, true, true, true, true]), (109, [true, true, true, true, true])]
/-- JobTextModel.big()V -/
abbrev m_M_big : Nat := 197
def zk_M_big : List (Nat × List Bool) := []
/-- JobTextModel.fraction(JJ)V -/
abbrev m_M_fraction : Nat := 198
def zk_M_fraction : List (Nat × List Bool) := [(6, [true, true, false, true, false, true, false, true, false, false, false])]
/-- JobTextModel.comesTo(I)V -/
abbrev m_M_comesTo : Nat := 199
def zk_M_comesTo : List (Nat × List Bool) := [(8, [true, true, true, false, true, false, true, false, false, false, false, false, false, false]), (54, [true, true, true, false, true, false, true, true, false, false, false, false, false, false]), (78, [true, true, true, false, true, false, true, true, true, false, false, false, false, false]), (102, [true, true, true, false, true, false, true, true, true, true, false, false, false, false]), (172, [true, true, true, false, true, false, true, true, true, true, false, true, false, false]), (186, [true, true, true, false, true, false, true, true, true, true, false, true, false, true]), (202, [true, true, true, false, true, false, true, true, true, true, false, true, false, true])]
/-- JobTextModel.findFlow(I)V -/
abbrev m_M_findFlow : Nat := 200
def zk_M_findFlow : List (Nat × List Bool) := [(46, [true, true, false, false, false, false, false, false, false, false]), (77, [true, true, true, false, true, false, false, false, false, false]), (99, [true, true, true, false, true, false, true, false, false, false]), (120, [true, true, true, false, true, false, true, false, true, false]), (181, [true, true, true, false, true, false, true, false, true, false])]
/-- JobTextModel.parOf(I)I -/
abbrev m_M_parOf : Nat := 201
def zk_M_parOf : List (Nat × List Bool) := []
/-- JobTextModel.readersOf(IIZ)I -/
abbrev m_M_readersOf : Nat := 202
def zk_M_readersOf : List (Nat × List Bool) := [(9, [true, true, true, true, true, true, false]), (28, [true, true, true, true, true, true, true]), (100, [true, true, true, true, true, true, false])]
/-- JobTextModel.findFused(I)V -/
abbrev m_M_findFused : Nat := 203
def zk_M_findFused : List (Nat × List Bool) := [(16, [true, true, true, false, false]), (22, [true, true, true, false, false]), (58, [true, true, true, false, false]), (59, [true, true, true, false, false]), (76, [true, true, true, true, false])]
/-- JobTextModel.channelsOf(II)I -/
abbrev m_M_channelsOf : Nat := 204
def zk_M_channelsOf : List (Nat × List Bool) := []
/-- JobTextModel.findChains()V -/
abbrev m_M_findChains : Nat := 205
def zk_M_findChains : List (Nat × List Bool) := [(23, [true, true, false, false, false]), (126, [true, true, true, true, true]), (176, [true, true, false, false, false])]
/-- JobTextModel.judge()Z -/
abbrev m_M_judge : Nat := 206
def zk_M_judge : List (Nat × List Bool) := [(38, [true, true])]
/-- JobTextModel.numberOf(J)I -/
abbrev m_M_numberOf : Nat := 207
def zk_M_numberOf : List (Nat × List Bool) := [(2, [true, true, false, true])]
/-- JobTextModel.keepInputs(II)V -/
abbrev m_M_keepInputs : Nat := 208
def zk_M_keepInputs : List (Nat × List Bool) := [(2, [true, true, true, true]), (95, [true, true, true, true])]
/-- JobTextModel.keepOperator(II)V -/
abbrev m_M_keepOperator : Nat := 209
def zk_M_keepOperator : List (Nat × List Bool) := []
/-- JobTextModel.keep(I)V -/
abbrev m_M_keep : Nat := 210
def zk_M_keep : List (Nat × List Bool) := [(98, [true, true, true]), (166, [true, true, true]), (203, [true, true, true]), (357, [true, true, true])]
/-- JobTextModel.read(II)I -/
abbrev m_M_read : Nat := 211
def zk_M_read : List (Nat × List Bool) := [(65, [true, true, true, true, true]), (125, [true, true, true, true, true])]
/-- JobTextModel.against(IZ)I -/
abbrev m_M_against : Nat := 212
def zk_M_against : List (Nat × List Bool) := []
/-- JobTextModel.drop(I)I -/
abbrev m_M_drop : Nat := 213
def zk_M_drop : List (Nat × List Bool) := []
/-- JobTextModel.fault(I)I -/
abbrev m_M_fault : Nat := 214
def zk_M_fault : List (Nat × List Bool) := []
/-- JobTextModel.count(II)I -/
abbrev m_M_count : Nat := 215
def zk_M_count : List (Nat × List Bool) := [(28, [true, true, true, true, true, true])]
/-- JobTextModel.countOf([II)I -/
abbrev m_M_countOf : Nat := 216
def zk_M_countOf : List (Nat × List Bool) := []
/-- JobTextModel.againstOne(IZII)I -/
abbrev m_M_againstOne : Nat := 217
def zk_M_againstOne : List (Nat × List Bool) := []
/-- JobTextModel.operator(III)I -/
abbrev m_M_operator : Nat := 218
def zk_M_operator : List (Nat × List Bool) := []
/-- JobTextModel.lengthOf(J)I -/
abbrev m_M_lengthOf : Nat := 219
def zk_M_lengthOf : List (Nat × List Bool) := [(4, [true, false, true, true, false])]
/-- JobTextModel.letterAt(JI)I -/
abbrev m_M_letterAt : Nat := 220
def zk_M_letterAt : List (Nat × List Bool) := [(27, [true, false, true, true, true, false, true])]
/-- JobTextModel.letter(IIII)I -/
abbrev m_M_letter : Nat := 221
def zk_M_letter : List (Nat × List Bool) := [(73, [true, true, true, true, true, true, true, false, false]), (74, [true, true, true, true, true, true, true, false, false])]
/-- JobTextModel.input(IIII)I -/
abbrev m_M_input : Nat := 222
def zk_M_input : List (Nat × List Bool) := []
/-- JobTextModel.flow(III)I -/
abbrev m_M_flow : Nat := 223
def zk_M_flow : List (Nat × List Bool) := []
/-- JobTextModel.set(III)I -/
abbrev m_M_set : Nat := 224
def zk_M_set : List (Nat × List Bool) := []
/-- JobTextModel.setLetter(IIZI)I -/
abbrev m_M_setLetter : Nat := 225
def zk_M_setLetter : List (Nat × List Bool) := []
/-- JobTextModel.loop(III)I -/
abbrev m_M_loop : Nat := 226
def zk_M_loop : List (Nat × List Bool) := []
/-- JobTextModel.put(I)V -/
abbrev m_M_put : Nat := 227
def zk_M_put : List (Nat × List Bool) := []
/-- JobTextModel.putComments(II)V -/
abbrev m_M_putComments : Nat := 228
def zk_M_putComments : List (Nat × List Bool) := [(5, [true, true, true, true, false]), (57, [true, true, true, true, true])]
/-- JobTextModel.putName(J)V -/
abbrev m_M_putName : Nat := 229
def zk_M_putName : List (Nat × List Bool) := [(8, [true, true, false, true, true])]
/-- JobTextModel.putKey(I)V -/
abbrev m_M_putKey : Nat := 230
def zk_M_putKey : List (Nat × List Bool) := []
/-- JobTextModel.putNumber(I)V -/
abbrev m_M_putNumber : Nat := 231
def zk_M_putNumber : List (Nat × List Bool) := [(2, [true, true, true, false]), (20, [true, true, true, true])]
/-- JobTextModel.putNumberProperty(II)V -/
abbrev m_M_putNumberProperty : Nat := 232
def zk_M_putNumberProperty : List (Nat × List Bool) := []
/-- JobTextModel.putProperties(I)V -/
abbrev m_M_putProperties : Nat := 233
def zk_M_putProperties : List (Nat × List Bool) := [(77, [true, true, false]), (130, [true, true, true])]
/-- JobTextModel.putOperator(I)V -/
abbrev m_M_putOperator : Nat := 234
def zk_M_putOperator : List (Nat × List Bool) := [(86, [true, true, true])]
/-- JobTextModel.putStatement(II)V -/
abbrev m_M_putStatement : Nat := 235
def zk_M_putStatement : List (Nat × List Bool) := []
/-- JobTextModel.print(I)I -/
abbrev m_M_print : Nat := 236
def zk_M_print : List (Nat × List Bool) := [(20, [true, true, true, true])]
/-- JobTextModel.out(I)I -/
abbrev m_M_out : Nat := 237
def zk_M_out : List (Nat × List Bool) := []
/-- JobTextModel.take()I -/
abbrev m_M_take : Nat := 238
def zk_M_take : List (Nat × List Bool) := [(26, [true, true])]
/-- JobTextModel.haveLikeInputs(II)Z -/
abbrev m_M_haveLikeInputs : Nat := 239
def zk_M_haveLikeInputs : List (Nat × List Bool) := [(24, [true, true, true, true, true])]
/-- JobTextModel.haveLikeSides(II)Z -/
abbrev m_M_haveLikeSides : Nat := 240
def zk_M_haveLikeSides : List (Nat × List Bool) := [(24, [true, true, true, true, true])]
/-- JobTextModel.bitsOf(II)I -/
abbrev m_M_bitsOf : Nat := 241
def zk_M_bitsOf : List (Nat × List Bool) := [(36, [true, true, true, true]), (59, [true, true, true, true]), (83, [true, true, true, true]), (116, [true, true, true, true]), (122, [true, true, true, true]), (147, [true, true, true, true])]
/-- JobTextModel.note(III)V -/
abbrev m_M_note : Nat := 242
def zk_M_note : List (Nat × List Bool) := []
/-- JobTextModel.differ()I -/
abbrev m_M_differ : Nat := 243
def zk_M_differ : List (Nat × List Bool) := [(28, [true, true, false, false]), (67, [true, true, true, false]), (76, [true, true, true, true]), (99, [true, true, false, false])]
/-- JobTextModel.difference(II)I -/
abbrev m_M_difference : Nat := 244
def zk_M_difference : List (Nat × List Bool) := []
/-- JobTextModel.numbers()I -/
abbrev m_M_numbers : Nat := 245
def zk_M_numbers : List (Nat × List Bool) := []
/-- JobTextModel.numbered(II)I -/
abbrev m_M_numbered : Nat := 246
def zk_M_numbered : List (Nat × List Bool) := []
