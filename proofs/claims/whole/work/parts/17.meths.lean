def e_m0 : eM := (⟨"MaySheep", "<init>", "()V"⟩, prog_1_method_1_code, 1, (Option.none : Option FieldType), 1)
def e_m1 : eM := (⟨"MaySheep$Tape", "<init>", "()V"⟩, prog_11_method_1_code, 1, (Option.none : Option FieldType), 1)
def e_m2 : eM := (⟨"MaySheep$World", "<init>", "()V"⟩, prog_12_method_1_code, 1, (Option.none : Option FieldType), 1)
def e_m3 : eM := (⟨"MaySheep$Hill", "<init>", "()V"⟩, prog_4_method_1_code, 1, (Option.none : Option FieldType), 1)
def e_m4 : eM := (⟨"MaySheep$State", "<init>", "()V"⟩, prog_10_method_1_code, 1, (Option.none : Option FieldType), 1)
def e_m5 : eM := (⟨"MaySheep$Notes", "<init>", "()V"⟩, prog_7_method_1_code, 1, (Option.none : Option FieldType), 1)
def e_m6 : eM := (⟨"MaySheep$RuleReader", "<init>", "()V"⟩, prog_9_method_1_code, 1, (Option.none : Option FieldType), 1)
def e_m7 : eM := (⟨"MaySheep$Acts", "<init>", "()V"⟩, prog_2_method_1_code, 1, (Option.none : Option FieldType), 1)
def e_m8 : eM := (⟨"MaySheep$Leaders", "<init>", "()V"⟩, prog_5_method_1_code, 1, (Option.none : Option FieldType), 1)
def e_m9 : eM := (⟨"MaySheep$Mays", "<init>", "()V"⟩, prog_6_method_1_code, 1, (Option.none : Option FieldType), 1)
def e_m10 : eM := (⟨"MaySheep$Asked", "<init>", "()V"⟩, prog_3_method_1_code, 1, (Option.none : Option FieldType), 1)
def e_m11 : eM := (⟨"MaySheep", "feed", "(IIIII)I"⟩, prog_1_method_2_code, 6, (Option.some FieldType.int), 31)
def e_m12 : eM := (⟨"MaySheep$Tape", "hasRoom", "()Z"⟩, prog_11_method_2_code, 1, (Option.some FieldType.boolean), 29)
def e_m13 : eM := (⟨"MaySheep$Tape", "add", "(I)V"⟩, prog_11_method_3_code, 3, (Option.none : Option FieldType), 29)
def e_m14 : eM := (⟨"MaySheep", "end", "(I)I"⟩, prog_1_method_3_code, 2, (Option.some FieldType.int), 31)
def e_m15 : eM := (⟨"MaySheep", "within", "(III)Z"⟩, prog_1_method_33_code, 3, (Option.some FieldType.boolean), 0)
def e_m16 : eM := (⟨"MaySheep", "hill", "()I"⟩, prog_1_method_4_code, 1, (Option.some FieldType.int), 31)
def e_m17 : eM := (⟨"MaySheep$Hill", "read", "(LMaySheep$Tape;)V"⟩, prog_4_method_3_code, 3, (Option.none : Option FieldType), 22)
def e_m18 : eM := (⟨"MaySheep$State", "clear", "()V"⟩, prog_10_method_2_code, 2, (Option.none : Option FieldType), 28)
def e_m19 : eM := (⟨"java/util/Arrays", "fill", "([II)V"⟩, prog_22_method_103_code, 4, (Option.none : Option FieldType), 0)
def e_m20 : eM := (⟨"MaySheep$Tape", "beginReading", "()V"⟩, prog_11_method_4_code, 2, (Option.none : Option FieldType), 29)
def e_m21 : eM := (⟨"MaySheep$Tape", "scan", "(I)I"⟩, prog_11_method_5_code, 4, (Option.some FieldType.int), 29)
def e_m22 : eM := (⟨"MaySheep$Tape", "isLetter", "(I)Z"⟩, prog_11_method_10_code, 1, (Option.some FieldType.boolean), 0)
def e_m23 : eM := (⟨"MaySheep$Tape", "scanWord", "(I)I"⟩, prog_11_method_6_code, 3, (Option.some FieldType.int), 29)
def e_m24 : eM := (⟨"MaySheep$Tape", "wordKind", "(II)I"⟩, prog_11_method_7_code, 8, (Option.some FieldType.int), 29)
def e_m25 : eM := (⟨"java/lang/String", "length", "()I"⟩, prog_18_method_54_code, 1, (Option.some FieldType.int), 33)
def e_m26 : eM := (⟨"java/lang/String", "coder", "()B"⟩, prog_18_method_152_code, 1, (Option.some FieldType.byte), 33)
def e_m27 : eM := (⟨"java/lang/String", "charAt", "(I)C"⟩, prog_18_method_56_code, 2, (Option.some FieldType.char), 33)
def e_m28 : eM := (⟨"java/lang/String", "isLatin1", "()Z"⟩, prog_18_method_154_code, 1, (Option.some FieldType.boolean), 33)
def e_m29 : eM := (⟨"java/lang/StringLatin1", "charAt", "([BI)C"⟩, prog_19_method_2_code, 2, (Option.some FieldType.char), 0)
def e_m30 : eM := (⟨"java/lang/String", "checkIndex", "(II)V"⟩, prog_18_method_155_code, 2, (Option.none : Option FieldType), 0)
def e_m31 : eM := (⟨"jdk/internal/util/Preconditions", "checkIndex", "(IILjava/util/function/BiFunction;)I"⟩, prog_23_method_11_code, 3, (Option.some FieldType.int), 0)
def e_m32 : eM := (⟨"java/lang/StringUTF16", "charAt", "([BI)C"⟩, prog_20_method_83_code, 2, (Option.some FieldType.char), 0)
def e_m33 : eM := (⟨"java/lang/StringUTF16", "checkIndex", "(I[B)V"⟩, prog_20_method_91_code, 2, (Option.none : Option FieldType), 0)
def e_m34 : eM := (⟨"java/lang/StringUTF16", "length", "([B)I"⟩, prog_20_method_6_code, 1, (Option.some FieldType.int), 0)
def e_m35 : eM := (⟨"java/lang/StringUTF16", "getChar", "([BI)C"⟩, prog_20_method_5_code, 2, (Option.some FieldType.char), 0)
def e_m36 : eM := (⟨"MaySheep$Tape", "keepToken", "(III)V"⟩, prog_11_method_9_code, 4, (Option.none : Option FieldType), 29)
def e_m37 : eM := (⟨"MaySheep$Tape", "isDigit", "(I)Z"⟩, prog_11_method_11_code, 1, (Option.some FieldType.boolean), 0)
def e_m38 : eM := (⟨"MaySheep$Tape", "scanNumber", "(I)I"⟩, prog_11_method_8_code, 4, (Option.some FieldType.int), 29)
def e_m39 : eM := (⟨"MaySheep$Hill", "readClause", "(LMaySheep$Tape;I)V"⟩, prog_4_method_4_code, 5, (Option.none : Option FieldType), 22)
def e_m40 : eM := (⟨"MaySheep$Tape", "nextPlace", "()I"⟩, prog_11_method_13_code, 1, (Option.some FieldType.int), 29)
def e_m41 : eM := (⟨"MaySheep$Tape", "nextKind", "()I"⟩, prog_11_method_12_code, 1, (Option.some FieldType.int), 29)
def e_m42 : eM := (⟨"MaySheep$Hill", "isClause", "(I)Z"⟩, prog_4_method_5_code, 1, (Option.some FieldType.boolean), 0)
def e_m43 : eM := (⟨"MaySheep$Tape", "blame", "(II)V"⟩, prog_11_method_15_code, 3, (Option.none : Option FieldType), 29)
def e_m44 : eM := (⟨"MaySheep$Hill", "isTooMany", "(II)Z"⟩, prog_4_method_6_code, 4, (Option.some FieldType.boolean), 22)
def e_m45 : eM := (⟨"MaySheep$Tape", "pass", "(I)Z"⟩, prog_11_method_14_code, 2, (Option.some FieldType.boolean), 29)
def e_m46 : eM := (⟨"MaySheep$Hill", "readNumbers", "(LMaySheep$Tape;I)V"⟩, prog_4_method_7_code, 3, (Option.none : Option FieldType), 22)
def e_m47 : eM := (⟨"MaySheep$Tape", "takeNumber", "(II)I"⟩, prog_11_method_16_code, 4, (Option.some FieldType.int), 29)
def e_m48 : eM := (⟨"MaySheep$Hill", "readSheep", "(LMaySheep$Tape;)V"⟩, prog_4_method_8_code, 3, (Option.none : Option FieldType), 22)
def e_m49 : eM := (⟨"MaySheep$Hill", "readMan", "(LMaySheep$Tape;)V"⟩, prog_4_method_9_code, 4, (Option.none : Option FieldType), 22)
def e_m50 : eM := (⟨"MaySheep$Hill", "readLikes", "(LMaySheep$Tape;)V"⟩, prog_4_method_10_code, 5, (Option.none : Option FieldType), 22)
def e_m51 : eM := (⟨"MaySheep$Hill", "readFollows", "(LMaySheep$Tape;)V"⟩, prog_4_method_11_code, 5, (Option.none : Option FieldType), 22)
def e_m52 : eM := (⟨"MaySheep$Tape", "hasMore", "()Z"⟩, prog_11_method_17_code, 1, (Option.some FieldType.boolean), 29)
def e_m53 : eM := (⟨"MaySheep$World", "tell", "(LMaySheep$Hill;)V"⟩, prog_12_method_2_code, 2, (Option.none : Option FieldType), 30)
def e_m54 : eM := (⟨"MaySheep$Hill", "take", "(LMaySheep$Hill;)V"⟩, prog_4_method_2_code, 2, (Option.none : Option FieldType), 22)
def e_m55 : eM := (⟨"MaySheep$State", "take", "(LMaySheep$State;)V"⟩, prog_10_method_3_code, 3, (Option.none : Option FieldType), 28)
def e_m56 : eM := (⟨"MaySheep$Acts", "forget", "()V"⟩, prog_2_method_2_code, 1, (Option.none : Option FieldType), 20)
def e_m57 : eM := (⟨"MaySheep", "rule", "()I"⟩, prog_1_method_5_code, 1, (Option.some FieldType.int), 31)
def e_m58 : eM := (⟨"MaySheep$RuleReader", "read", "(LMaySheep$Tape;)V"⟩, prog_9_method_2_code, 4, (Option.none : Option FieldType), 27)
def e_m59 : eM := (⟨"MaySheep$RuleReader", "readSum", "(LMaySheep$Tape;)V"⟩, prog_9_method_8_code, 6, (Option.none : Option FieldType), 27)
def e_m60 : eM := (⟨"MaySheep$RuleReader", "readValue", "(LMaySheep$Tape;)V"⟩, prog_9_method_11_code, 5, (Option.none : Option FieldType), 27)
def e_m61 : eM := (⟨"MaySheep$RuleReader", "write", "(II)V"⟩, prog_9_method_13_code, 3, (Option.none : Option FieldType), 27)
def e_m62 : eM := (⟨"MaySheep$RuleReader", "isOneTooMany", "()Z"⟩, prog_9_method_12_code, 1, (Option.some FieldType.boolean), 27)
def e_m63 : eM := (⟨"MaySheep$RuleReader", "joiningStep", "(I)I"⟩, prog_9_method_10_code, 1, (Option.some FieldType.int), 0)
def e_m64 : eM := (⟨"MaySheep$RuleReader", "isOfTerms", "(I)Z"⟩, prog_9_method_9_code, 1, (Option.some FieldType.boolean), 0)
def e_m65 : eM := (⟨"MaySheep$RuleReader", "readTest", "(LMaySheep$Tape;I)V"⟩, prog_9_method_4_code, 5, (Option.none : Option FieldType), 27)
def e_m66 : eM := (⟨"MaySheep$RuleReader", "readFact", "(LMaySheep$Tape;I)V"⟩, prog_9_method_5_code, 7, (Option.none : Option FieldType), 27)
def e_m67 : eM := (⟨"MaySheep$RuleReader", "passComparing", "(LMaySheep$Tape;)I"⟩, prog_9_method_6_code, 5, (Option.some FieldType.int), 27)
def e_m68 : eM := (⟨"MaySheep$RuleReader", "comparingStep", "(I)I"⟩, prog_9_method_7_code, 1, (Option.some FieldType.int), 0)
def e_m69 : eM := (⟨"MaySheep$RuleReader", "written", "()[I"⟩, prog_9_method_3_code, 1, (Option.some (FieldType.array FieldType.int)), 27)
def e_m70 : eM := (⟨"java/util/Arrays", "copyOf", "([II)[I"⟩, prog_22_method_123_code, 3, (Option.some (FieldType.array FieldType.int)), 0)
def e_m71 : eM := (⟨"MaySheep$Rule", "<init>", "([I)V"⟩, prog_8_method_1_code, 2, (Option.none : Option FieldType), 1)
def e_m72 : eM := (⟨"MaySheep", "force", "(I)I"⟩, prog_1_method_6_code, 3, (Option.some FieldType.int), 31)
def e_m73 : eM := (⟨"MaySheep", "sheep", "(II)I"⟩, prog_1_method_7_code, 3, (Option.some FieldType.int), 31)
def e_m74 : eM := (⟨"MaySheep", "isSheep", "(I)Z"⟩, prog_1_method_34_code, 2, (Option.some FieldType.boolean), 31)
def e_m75 : eM := (⟨"MaySheep$Leaders", "find", "(LMaySheep$Hill;LMaySheep$State;)V"⟩, prog_5_method_2_code, 5, (Option.none : Option FieldType), 23)
def e_m76 : eM := (⟨"MaySheep$Leaders", "leaderOf", "(I[I)I"⟩, prog_5_method_4_code, 5, (Option.some FieldType.int), 0)
def e_m77 : eM := (⟨"MaySheep", "man", "(II)I"⟩, prog_1_method_8_code, 3, (Option.some FieldType.int), 31)
def e_m78 : eM := (⟨"MaySheep", "isMan", "(I)Z"⟩, prog_1_method_35_code, 2, (Option.some FieldType.boolean), 31)
def e_m79 : eM := (⟨"MaySheep", "flockBits", "(I)I"⟩, prog_1_method_37_code, 4, (Option.some FieldType.int), 31)
def e_m80 : eM := (⟨"MaySheep", "likes", "(II)I"⟩, prog_1_method_9_code, 3, (Option.some FieldType.int), 31)
def e_m81 : eM := (⟨"MaySheep", "may", "()I"⟩, prog_1_method_10_code, 3, (Option.some FieldType.int), 31)
def e_m82 : eM := (⟨"MaySheep$Acts", "keep", "(LMaySheep$State;)V"⟩, prog_2_method_3_code, 2, (Option.none : Option FieldType), 20)
def e_m83 : eM := (⟨"MaySheep", "inForce", "()LMaySheep$Rule;"⟩, prog_1_method_36_code, 1, (Option.some (FieldType.object "MaySheep$Rule")), 31)
def e_m84 : eM := (⟨"MaySheep$Mays", "begin", "(LMaySheep$Hill;LMaySheep$State;LMaySheep$Rule;)V"⟩, prog_6_method_2_code, 5, (Option.none : Option FieldType), 24)
def e_m85 : eM := (⟨"MaySheep$Mays", "goOn", "(I)V"⟩, prog_6_method_3_code, 4, (Option.none : Option FieldType), 24)
def e_m86 : eM := (⟨"MaySheep$Mays", "choose", "()V"⟩, prog_6_method_4_code, 2, (Option.none : Option FieldType), 24)
def e_m87 : eM := (⟨"MaySheep$Mays", "countFlocks", "()V"⟩, prog_6_method_6_code, 2, (Option.none : Option FieldType), 24)
def e_m88 : eM := (⟨"MaySheep$State", "flock", "(II)I"⟩, prog_10_method_5_code, 5, (Option.some FieldType.int), 28)
def e_m89 : eM := (⟨"MaySheep$Leaders", "leads", "(I)Z"⟩, prog_5_method_3_code, 2, (Option.some FieldType.boolean), 23)
def e_m90 : eM := (⟨"MaySheep$Mays", "choiceOf", "(I)I"⟩, prog_6_method_5_code, 8, (Option.some FieldType.int), 24)
def e_m91 : eM := (⟨"MaySheep$Mays", "tellWords", "(II)V"⟩, prog_6_method_7_code, 3, (Option.none : Option FieldType), 24)
def e_m92 : eM := (⟨"MaySheep$Rule", "sum", "([J[J)J"⟩, prog_8_method_2_code, 7, (Option.some FieldType.long), 26)
def e_m93 : eM := (⟨"MaySheep$Rule", "waiting", "(I)I"⟩, prog_8_method_3_code, 1, (Option.some FieldType.int), 0)
def e_m94 : eM := (⟨"MaySheep$Rule", "joined", "(IJJ)J"⟩, prog_8_method_4_code, 5, (Option.some FieldType.long), 0)
def e_m95 : eM := (⟨"MaySheep$Mays", "shear", "(I)V"⟩, prog_6_method_8_code, 5, (Option.none : Option FieldType), 24)
def e_m96 : eM := (⟨"MaySheep$Mays", "remember", "(I)V"⟩, prog_6_method_9_code, 6, (Option.none : Option FieldType), 24)
def e_m97 : eM := (⟨"MaySheep$State", "like", "(III)V"⟩, prog_10_method_4_code, 4, (Option.none : Option FieldType), 28)
def e_m98 : eM := (⟨"MaySheep", "salt", "(III)I"⟩, prog_1_method_11_code, 4, (Option.some FieldType.int), 31)
def e_m99 : eM := (⟨"MaySheep", "teach", "(II)I"⟩, prog_1_method_12_code, 4, (Option.some FieldType.int), 31)
def e_m100 : eM := (⟨"MaySheep", "lead", "(II)I"⟩, prog_1_method_13_code, 4, (Option.some FieldType.int), 31)
def e_m101 : eM := (⟨"MaySheep", "undo", "()I"⟩, prog_1_method_14_code, 1, (Option.some FieldType.int), 31)
def e_m102 : eM := (⟨"MaySheep$Acts", "takeBack", "(LMaySheep$State;)Z"⟩, prog_2_method_4_code, 3, (Option.some FieldType.boolean), 20)
def e_m103 : eM := (⟨"MaySheep", "ahead", "(III)I"⟩, prog_1_method_15_code, 5, (Option.some FieldType.int), 31)
def e_m104 : eM := (⟨"MaySheep", "won", "(III)I"⟩, prog_1_method_16_code, 4, (Option.some FieldType.int), 31)
def e_m105 : eM := (⟨"MaySheep$Asked", "askWon", "(LMaySheep$World;LMaySheep$Rule;II)V"⟩, prog_3_method_3_code, 7, (Option.none : Option FieldType), 21)
def e_m106 : eM := (⟨"MaySheep$Asked", "ledTo", "(II)I"⟩, prog_3_method_4_code, 4, (Option.some FieldType.int), 21)
def e_m107 : eM := (⟨"MaySheep$Asked", "askCheapest", "(II)V"⟩, prog_3_method_7_code, 8, (Option.none : Option FieldType), 21)
def e_m108 : eM := (⟨"MaySheep$Asked", "answer", "(III)V"⟩, prog_3_method_2_code, 4, (Option.none : Option FieldType), 21)
def e_m109 : eM := (⟨"MaySheep", "least", "(III)I"⟩, prog_1_method_17_code, 4, (Option.some FieldType.int), 31)
def e_m110 : eM := (⟨"MaySheep$Asked", "askLeast", "(LMaySheep$World;II)V"⟩, prog_3_method_5_code, 8, (Option.none : Option FieldType), 21)
def e_m111 : eM := (⟨"MaySheep$Asked", "likingNeeded", "(LMaySheep$World;II)I"⟩, prog_3_method_6_code, 6, (Option.some FieldType.int), 0)
def e_m112 : eM := (⟨"MaySheep", "men", "(I)I"⟩, prog_1_method_18_code, 2, (Option.some FieldType.int), 31)
def e_m113 : eM := (⟨"MaySheep$Asked", "askMen", "(LMaySheep$Hill;)V"⟩, prog_3_method_8_code, 5, (Option.none : Option FieldType), 21)
def e_m114 : eM := (⟨"java/lang/Integer", "bitCount", "(I)I"⟩, prog_16_method_49_code, 1, (Option.some FieldType.int), 0)
def e_m115 : eM := (⟨"MaySheep", "rests", "(IIII)I"⟩, prog_1_method_19_code, 5, (Option.some FieldType.int), 31)
def e_m116 : eM := (⟨"MaySheep$Asked", "askRests", "(LMaySheep$World;LMaySheep$Rule;III)V"⟩, prog_3_method_9_code, 9, (Option.none : Option FieldType), 21)
def e_m117 : eM := (⟨"MaySheep$Asked", "isRest", "(II)Z"⟩, prog_3_method_10_code, 5, (Option.some FieldType.boolean), 21)
def e_m118 : eM := (⟨"MaySheep", "stranger", "(II)I"⟩, prog_1_method_20_code, 3, (Option.some FieldType.int), 31)
def e_m119 : eM := (⟨"MaySheep$Asked", "askStranger", "(LMaySheep$World;I)V"⟩, prog_3_method_11_code, 4, (Option.none : Option FieldType), 21)
def e_m120 : eM := (⟨"MaySheep$Asked", "mostLiked", "(LMaySheep$World;I)I"⟩, prog_3_method_12_code, 4, (Option.some FieldType.int), 0)
def e_m121 : eM := (⟨"MaySheep", "settled", "(I)I"⟩, prog_1_method_21_code, 2, (Option.some FieldType.int), 31)
def e_m122 : eM := (⟨"MaySheep$Asked", "askSettled", "(LMaySheep$World;LMaySheep$Rule;)V"⟩, prog_3_method_13_code, 5, (Option.none : Option FieldType), 21)
def e_m123 : eM := (⟨"MaySheep$State", "allWhose", "(I)I"⟩, prog_10_method_7_code, 4, (Option.some FieldType.int), 28)
def e_m124 : eM := (⟨"MaySheep", "shared", "(I)I"⟩, prog_1_method_22_code, 2, (Option.some FieldType.int), 31)
def e_m125 : eM := (⟨"MaySheep$Asked", "askShared", "(LMaySheep$World;)V"⟩, prog_3_method_14_code, 8, (Option.none : Option FieldType), 21)
def e_m126 : eM := (⟨"MaySheep", "taught", "(II)I"⟩, prog_1_method_23_code, 3, (Option.some FieldType.int), 31)
def e_m127 : eM := (⟨"MaySheep$Asked", "askTaught", "(LMaySheep$World;LMaySheep$Rule;I)V"⟩, prog_3_method_15_code, 8, (Option.none : Option FieldType), 21)
def e_m128 : eM := (⟨"MaySheep$Asked", "hasIfTaught", "(LMaySheep$World;LMaySheep$Rule;III)I"⟩, prog_3_method_16_code, 6, (Option.some FieldType.int), 21)
def e_m129 : eM := (⟨"MaySheep", "worth", "(III)I"⟩, prog_1_method_24_code, 5, (Option.some FieldType.int), 31)
def e_m130 : eM := (⟨"MaySheep", "note", "(III)I"⟩, prog_1_method_25_code, 4, (Option.some FieldType.int), 31)
def e_m131 : eM := (⟨"MaySheep$Notes", "hasRoom", "()Z"⟩, prog_7_method_2_code, 1, (Option.some FieldType.boolean), 25)
def e_m132 : eM := (⟨"MaySheep$Notes", "add", "(III)V"⟩, prog_7_method_3_code, 4, (Option.none : Option FieldType), 25)
def e_m133 : eM := (⟨"MaySheep", "ruled", "(I)I"⟩, prog_1_method_26_code, 2, (Option.some FieldType.int), 31)
def e_m134 : eM := (⟨"MaySheep$Asked", "askRuled", "(LMaySheep$World;[LMaySheep$Rule;I)V"⟩, prog_3_method_17_code, 5, (Option.none : Option FieldType), 21)
def e_m135 : eM := (⟨"MaySheep$Asked", "whoseBehind", "(LMaySheep$World;LMaySheep$Rule;I)I"⟩, prog_3_method_20_code, 7, (Option.some FieldType.int), 21)
def e_m136 : eM := (⟨"MaySheep$Notes", "lastMay", "()I"⟩, prog_7_method_5_code, 3, (Option.some FieldType.int), 25)
def e_m137 : eM := (⟨"MaySheep$Notes", "areSo", "(ILMaySheep$State;)Z"⟩, prog_7_method_6_code, 4, (Option.some FieldType.boolean), 25)
def e_m138 : eM := (⟨"MaySheep", "look", "(II)I"⟩, prog_1_method_27_code, 3, (Option.some FieldType.int), 31)
def e_m139 : eM := (⟨"MaySheep$Asked", "askLook", "(LMaySheep$World;[LMaySheep$Rule;II)V"⟩, prog_3_method_18_code, 8, (Option.none : Option FieldType), 21)
def e_m140 : eM := (⟨"MaySheep$Asked", "mostAlike", "(II)I"⟩, prog_3_method_19_code, 6, (Option.some FieldType.int), 21)
def e_m141 : eM := (⟨"MaySheep$State", "whoseIn", "(II)I"⟩, prog_10_method_8_code, 2, (Option.some FieldType.int), 0)
def e_m142 : eM := (⟨"MaySheep", "seed", "(I)I"⟩, prog_1_method_28_code, 3, (Option.some FieldType.int), 31)
def e_m143 : eM := (⟨"MaySheep", "frights", "(IIII)I"⟩, prog_1_method_29_code, 5, (Option.some FieldType.int), 31)
def e_m144 : eM := (⟨"MaySheep$Asked", "askFrights", "(LMaySheep$World;LMaySheep$Rule;III)V"⟩, prog_3_method_21_code, 12, (Option.none : Option FieldType), 21)
def e_m145 : eM := (⟨"MaySheep$Asked", "frighten", "(IJI)J"⟩, prog_3_method_22_code, 8, (Option.some FieldType.long), 21)
def e_m146 : eM := (⟨"MaySheep$State", "allCoins", "(I)I"⟩, prog_10_method_6_code, 4, (Option.some FieldType.int), 28)
def e_m147 : eM := (⟨"MaySheep", "count", "(I)I"⟩, prog_1_method_30_code, 2, (Option.some FieldType.int), 31)
def e_m148 : eM := (⟨"MaySheep", "leaderBits", "()I"⟩, prog_1_method_38_code, 3, (Option.some FieldType.int), 31)
def e_m149 : eM := (⟨"MaySheep", "image", "(I)I"⟩, prog_1_method_31_code, 2, (Option.some FieldType.int), 31)
def e_m150 : eM := (⟨"MaySheep$World", "take", "(LMaySheep$World;)V"⟩, prog_12_method_3_code, 2, (Option.none : Option FieldType), 30)
def e_m151 : eM := (⟨"MaySheep$Notes", "take", "(LMaySheep$Notes;)V"⟩, prog_7_method_4_code, 2, (Option.none : Option FieldType), 25)
def e_m152 : eM := (⟨"MaySheep", "back", "(I)I"⟩, prog_1_method_32_code, 2, (Option.some FieldType.int), 31)
def e_m153 : eM := (⟨"MaySheepModel", "<init>", "()V"⟩, prog_14_method_1_code, 1, (Option.none : Option FieldType), 1)
def e_m154 : eM := (⟨"MaySheepModel", "feed", "(IIIII)I"⟩, prog_14_method_7_code, 6, (Option.some FieldType.int), 32)
def e_m155 : eM := (⟨"MaySheepModel", "four", "(I)V"⟩, prog_14_method_6_code, 3, (Option.none : Option FieldType), 32)
def e_m156 : eM := (⟨"MaySheepModel", "end", "(I)I"⟩, prog_14_method_8_code, 2, (Option.some FieldType.int), 32)
def e_m157 : eM := (⟨"MaySheepModel", "rule", "()I"⟩, prog_14_method_42_code, 1, (Option.some FieldType.int), 32)
def e_m158 : eM := (⟨"MaySheepModel", "readsAll", "()Z"⟩, prog_14_method_41_code, 2, (Option.some FieldType.boolean), 32)
def e_m159 : eM := (⟨"MaySheepModel", "clauseHere", "()Z"⟩, prog_14_method_40_code, 3, (Option.some FieldType.boolean), 32)
def e_m160 : eM := (⟨"MaySheepModel", "see", "()I"⟩, prog_14_method_10_code, 1, (Option.some FieldType.int), 32)
def e_m161 : eM := (⟨"MaySheepModel", "isHillWord", "()Z"⟩, prog_14_method_39_code, 1, (Option.some FieldType.boolean), 32)
def e_m162 : eM := (⟨"MaySheepModel", "isWord", "(J)Z"⟩, prog_14_method_13_code, 6, (Option.some FieldType.boolean), 32)
def e_m163 : eM := (⟨"MaySheepModel", "isLetter", "(I)Z"⟩, prog_14_method_12_code, 2, (Option.some FieldType.boolean), 32)
def e_m164 : eM := (⟨"MaySheepModel", "fails", "(II)Z"⟩, prog_14_method_9_code, 3, (Option.some FieldType.boolean), 32)
def e_m165 : eM := (⟨"MaySheepModel", "hillLineHere", "(I)Z"⟩, prog_14_method_38_code, 2, (Option.some FieldType.boolean), 32)
def e_m166 : eM := (⟨"MaySheepModel", "isHillHere", "(I)Z"⟩, prog_14_method_33_code, 3, (Option.some FieldType.boolean), 32)
def e_m167 : eM := (⟨"MaySheepModel", "passWord", "()V"⟩, prog_14_method_14_code, 1, (Option.none : Option FieldType), 32)
def e_m168 : eM := (⟨"MaySheepModel", "cellHere", "(III)Z"⟩, prog_14_method_32_code, 4, (Option.some FieldType.boolean), 32)
def e_m169 : eM := (⟨"MaySheepModel", "numberHere", "(II)Z"⟩, prog_14_method_16_code, 5, (Option.some FieldType.boolean), 32)
def e_m170 : eM := (⟨"MaySheepModel", "isDigit", "(I)Z"⟩, prog_14_method_11_code, 2, (Option.some FieldType.boolean), 32)
def e_m171 : eM := (⟨"MaySheepModel", "in", "(JJJ)Z"⟩, prog_14_method_2_code, 6, (Option.some FieldType.boolean), 0)
def e_m172 : eM := (⟨"MaySheepModel", "isSheepHere", "(I)Z"⟩, prog_14_method_34_code, 2, (Option.some FieldType.boolean), 32)
def e_m173 : eM := (⟨"MaySheepModel", "isManHere", "(I)Z"⟩, prog_14_method_35_code, 2, (Option.some FieldType.boolean), 32)
def e_m174 : eM := (⟨"MaySheepModel", "areLikesHere", "()Z"⟩, prog_14_method_36_code, 2, (Option.some FieldType.boolean), 32)
def e_m175 : eM := (⟨"MaySheepModel", "isFollowsHere", "()Z"⟩, prog_14_method_37_code, 3, (Option.some FieldType.boolean), 32)
def e_m176 : eM := (⟨"MaySheepModel", "isGoHere", "()Z"⟩, prog_14_method_31_code, 2, (Option.some FieldType.boolean), 32)
def e_m177 : eM := (⟨"MaySheepModel", "sum", "()Z"⟩, prog_14_method_25_code, 2, (Option.some FieldType.boolean), 32)
def e_m178 : eM := (⟨"MaySheepModel", "term", "()Z"⟩, prog_14_method_24_code, 2, (Option.some FieldType.boolean), 32)
def e_m179 : eM := (⟨"MaySheepModel", "value", "()Z"⟩, prog_14_method_23_code, 3, (Option.some FieldType.boolean), 32)
def e_m180 : eM := (⟨"MaySheepModel", "makes", "(I)Z"⟩, prog_14_method_19_code, 2, (Option.some FieldType.boolean), 32)
def e_m181 : eM := (⟨"MaySheepModel", "puts", "(II)V"⟩, prog_14_method_18_code, 3, (Option.none : Option FieldType), 32)
def e_m182 : eM := (⟨"MaySheepModel", "wordHere", "()I"⟩, prog_14_method_17_code, 1, (Option.some FieldType.int), 32)
def e_m183 : eM := (⟨"MaySheepModel", "takesWord", "(J)Z"⟩, prog_14_method_15_code, 3, (Option.some FieldType.boolean), 32)
def e_m184 : eM := (⟨"MaySheepModel", "tested", "()Z"⟩, prog_14_method_30_code, 3, (Option.some FieldType.boolean), 32)
def e_m185 : eM := (⟨"MaySheepModel", "fact", "()Z"⟩, prog_14_method_27_code, 3, (Option.some FieldType.boolean), 32)
def e_m186 : eM := (⟨"MaySheepModel", "opens", "(I)Z"⟩, prog_14_method_20_code, 2, (Option.some FieldType.boolean), 32)
def e_m187 : eM := (⟨"MaySheepModel", "compare", "()Z"⟩, prog_14_method_26_code, 5, (Option.some FieldType.boolean), 32)
def e_m188 : eM := (⟨"MaySheepModel", "closes", "()V"⟩, prog_14_method_29_code, 1, (Option.none : Option FieldType), 32)
def e_m189 : eM := (⟨"MaySheepModel", "settles", "(I)V"⟩, prog_14_method_22_code, 2, (Option.none : Option FieldType), 32)
def e_m190 : eM := (⟨"MaySheepModel", "strength", "(I)I"⟩, prog_14_method_21_code, 1, (Option.some FieldType.int), 0)
def e_m191 : eM := (⟨"MaySheepModel", "isInside", "()Z"⟩, prog_14_method_28_code, 2, (Option.some FieldType.boolean), 32)
def e_m192 : eM := (⟨"MaySheepModel", "hill", "()I"⟩, prog_14_method_43_code, 2, (Option.some FieldType.int), 32)
def e_m193 : eM := (⟨"MaySheepModel", "begins", "()V"⟩, prog_14_method_59_code, 2, (Option.none : Option FieldType), 32)
def e_m194 : eM := (⟨"MaySheepModel", "force", "(I)I"⟩, prog_14_method_60_code, 3, (Option.some FieldType.int), 32)
def e_m195 : eM := (⟨"MaySheepModel", "isRule", "(I)Z"⟩, prog_14_method_44_code, 2, (Option.some FieldType.boolean), 32)
def e_m196 : eM := (⟨"MaySheepModel", "sheep", "(II)I"⟩, prog_14_method_61_code, 3, (Option.some FieldType.int), 32)
def e_m197 : eM := (⟨"MaySheepModel", "isSheep", "(I)Z"⟩, prog_14_method_50_code, 2, (Option.some FieldType.boolean), 32)
def e_m198 : eM := (⟨"MaySheepModel", "leaderOf", "(I)I"⟩, prog_14_method_54_code, 5, (Option.some FieldType.int), 32)
def e_m199 : eM := (⟨"MaySheepModel", "ledBy", "(I)I"⟩, prog_14_method_55_code, 4, (Option.some FieldType.int), 32)
def e_m200 : eM := (⟨"MaySheepModel", "bits", "(I)I"⟩, prog_14_method_4_code, 3, (Option.some FieldType.int), 0)
def e_m201 : eM := (⟨"MaySheepModel", "man", "(II)I"⟩, prog_14_method_62_code, 3, (Option.some FieldType.int), 32)
def e_m202 : eM := (⟨"MaySheepModel", "isMan", "(I)Z"⟩, prog_14_method_51_code, 2, (Option.some FieldType.boolean), 32)
def e_m203 : eM := (⟨"MaySheepModel", "flockOf", "(I)I"⟩, prog_14_method_53_code, 4, (Option.some FieldType.int), 32)
def e_m204 : eM := (⟨"MaySheepModel", "likes", "(II)I"⟩, prog_14_method_63_code, 3, (Option.some FieldType.int), 32)
def e_m205 : eM := (⟨"MaySheepModel", "likesOf", "(II)I"⟩, prog_14_method_52_code, 3, (Option.some FieldType.int), 32)
def e_m206 : eM := (⟨"MaySheepModel", "undo", "()I"⟩, prog_14_method_71_code, 2, (Option.some FieldType.int), 32)
def e_m207 : eM := (⟨"MaySheepModel", "may", "()I"⟩, prog_14_method_72_code, 1, (Option.some FieldType.int), 32)
def e_m208 : eM := (⟨"MaySheepModel", "isHill", "()Z"⟩, prog_14_method_49_code, 1, (Option.some FieldType.boolean), 32)
def e_m209 : eM := (⟨"MaySheepModel", "keepsAct", "()V"⟩, prog_14_method_70_code, 2, (Option.none : Option FieldType), 32)
def e_m210 : eM := (⟨"MaySheepModel", "passes", "()I"⟩, prog_14_method_69_code, 4, (Option.some FieldType.int), 32)
def e_m211 : eM := (⟨"MaySheepModel", "isLeader", "(I)Z"⟩, prog_14_method_56_code, 2, (Option.some FieldType.boolean), 32)
def e_m212 : eM := (⟨"MaySheepModel", "isOf", "(II)Z"⟩, prog_14_method_3_code, 2, (Option.some FieldType.boolean), 0)
def e_m213 : eM := (⟨"MaySheepModel", "choice", "(I)I"⟩, prog_14_method_66_code, 8, (Option.some FieldType.int), 32)
def e_m214 : eM := (⟨"MaySheepModel", "words", "(II)V"⟩, prog_14_method_65_code, 3, (Option.none : Option FieldType), 32)
def e_m215 : eM := (⟨"MaySheepModel", "woolOf", "(I)I"⟩, prog_14_method_57_code, 4, (Option.some FieldType.int), 32)
def e_m216 : eM := (⟨"MaySheepModel", "summedBy", "(I)J"⟩, prog_14_method_64_code, 4, (Option.some FieldType.long), 32)
def e_m217 : eM := (⟨"MaySheepModel", "reckons", "(III)J"⟩, prog_14_method_48_code, 11, (Option.some FieldType.long), 32)
def e_m218 : eM := (⟨"MaySheepModel", "push", "(J)V"⟩, prog_14_method_45_code, 3, (Option.none : Option FieldType), 32)
def e_m219 : eM := (⟨"MaySheepModel", "pop", "()J"⟩, prog_14_method_46_code, 1, (Option.some FieldType.long), 32)
def e_m220 : eM := (⟨"MaySheepModel", "one", "(IJJ)J"⟩, prog_14_method_47_code, 5, (Option.some FieldType.long), 0)
def e_m221 : eM := (⟨"MaySheepModel", "shears", "(I)V"⟩, prog_14_method_67_code, 4, (Option.none : Option FieldType), 32)
def e_m222 : eM := (⟨"MaySheepModel", "atMost", "(II)I"⟩, prog_14_method_5_code, 2, (Option.some FieldType.int), 0)
def e_m223 : eM := (⟨"MaySheepModel", "remembers", "(I)V"⟩, prog_14_method_68_code, 6, (Option.none : Option FieldType), 32)
def e_m224 : eM := (⟨"MaySheepModel", "salt", "(III)I"⟩, prog_14_method_73_code, 4, (Option.some FieldType.int), 32)
def e_m225 : eM := (⟨"MaySheepModel", "teach", "(II)I"⟩, prog_14_method_75_code, 4, (Option.some FieldType.int), 32)
def e_m226 : eM := (⟨"MaySheepModel", "canFollow", "(II)Z"⟩, prog_14_method_74_code, 3, (Option.some FieldType.boolean), 32)
def e_m227 : eM := (⟨"MaySheepModel", "lead", "(II)I"⟩, prog_14_method_76_code, 4, (Option.some FieldType.int), 32)
def e_m228 : eM := (⟨"MaySheepModel", "ahead", "(III)I"⟩, prog_14_method_79_code, 5, (Option.some FieldType.int), 32)
def e_m229 : eM := (⟨"MaySheepModel", "keeps", "()V"⟩, prog_14_method_77_code, 2, (Option.none : Option FieldType), 32)
def e_m230 : eM := (⟨"MaySheepModel", "laysBack", "()V"⟩, prog_14_method_78_code, 2, (Option.none : Option FieldType), 32)
def e_m231 : eM := (⟨"MaySheepModel", "won", "(III)I"⟩, prog_14_method_81_code, 7, (Option.some FieldType.int), 32)
def e_m232 : eM := (⟨"MaySheepModel", "hisThen", "(I)I"⟩, prog_14_method_80_code, 3, (Option.some FieldType.int), 32)
def e_m233 : eM := (⟨"MaySheepModel", "least", "(III)I"⟩, prog_14_method_85_code, 7, (Option.some FieldType.int), 32)
def e_m234 : eM := (⟨"MaySheepModel", "lacks", "(II)I"⟩, prog_14_method_82_code, 6, (Option.some FieldType.int), 32)
def e_m235 : eM := (⟨"MaySheepModel", "costOf", "(I)I"⟩, prog_14_method_83_code, 4, (Option.some FieldType.int), 32)
def e_m236 : eM := (⟨"MaySheepModel", "wonBy", "(I)I"⟩, prog_14_method_84_code, 4, (Option.some FieldType.int), 32)
def e_m237 : eM := (⟨"MaySheepModel", "men", "(I)I"⟩, prog_14_method_87_code, 4, (Option.some FieldType.int), 32)
def e_m238 : eM := (⟨"MaySheepModel", "fedBy", "(I)I"⟩, prog_14_method_86_code, 4, (Option.some FieldType.int), 32)
def e_m239 : eM := (⟨"MaySheepModel", "rests", "(IIII)I"⟩, prog_14_method_89_code, 10, (Option.some FieldType.int), 32)
def e_m240 : eM := (⟨"MaySheepModel", "isRest", "(II)Z"⟩, prog_14_method_88_code, 4, (Option.some FieldType.boolean), 32)
def e_m241 : eM := (⟨"MaySheepModel", "stranger", "(II)I"⟩, prog_14_method_90_code, 7, (Option.some FieldType.int), 32)
def e_m242 : eM := (⟨"MaySheepModel", "settled", "(I)I"⟩, prog_14_method_92_code, 4, (Option.some FieldType.int), 32)
def e_m243 : eM := (⟨"MaySheepModel", "areAlike", "(II)Z"⟩, prog_14_method_91_code, 4, (Option.some FieldType.boolean), 32)
def e_m244 : eM := (⟨"MaySheepModel", "shared", "(I)I"⟩, prog_14_method_95_code, 4, (Option.some FieldType.int), 32)
def e_m245 : eM := (⟨"MaySheepModel", "isPart", "(I)Z"⟩, prog_14_method_93_code, 3, (Option.some FieldType.boolean), 32)
def e_m246 : eM := (⟨"MaySheepModel", "apartBy", "(I)I"⟩, prog_14_method_94_code, 3, (Option.some FieldType.int), 32)
def e_m247 : eM := (⟨"MaySheepModel", "taught", "(II)I"⟩, prog_14_method_96_code, 9, (Option.some FieldType.int), 32)
def e_m248 : eM := (⟨"MaySheepModel", "worth", "(III)I"⟩, prog_14_method_98_code, 5, (Option.some FieldType.int), 32)
def e_m249 : eM := (⟨"MaySheepModel", "coinsIn", "(II)I"⟩, prog_14_method_97_code, 4, (Option.some FieldType.int), 32)
def e_m250 : eM := (⟨"MaySheepModel", "note", "(III)I"⟩, prog_14_method_99_code, 5, (Option.some FieldType.int), 32)
def e_m251 : eM := (⟨"MaySheepModel", "ruled", "(I)I"⟩, prog_14_method_102_code, 5, (Option.some FieldType.int), 32)
def e_m252 : eM := (⟨"MaySheepModel", "fillsFits", "(I)V"⟩, prog_14_method_101_code, 7, (Option.none : Option FieldType), 32)
def e_m253 : eM := (⟨"MaySheepModel", "areNotesSo", "(I)Z"⟩, prog_14_method_100_code, 3, (Option.some FieldType.boolean), 32)
def e_m254 : eM := (⟨"MaySheepModel", "look", "(II)I"⟩, prog_14_method_104_code, 7, (Option.some FieldType.int), 32)
def e_m255 : eM := (⟨"MaySheepModel", "alikeAt", "(I)I"⟩, prog_14_method_103_code, 6, (Option.some FieldType.int), 32)
def e_m256 : eM := (⟨"MaySheepModel", "seed", "(I)I"⟩, prog_14_method_105_code, 3, (Option.some FieldType.int), 32)
def e_m257 : eM := (⟨"MaySheepModel", "frights", "(IIII)I"⟩, prog_14_method_107_code, 10, (Option.some FieldType.int), 32)
def e_m258 : eM := (⟨"MaySheepModel", "draw", "(I)I"⟩, prog_14_method_106_code, 2, (Option.some FieldType.int), 32)
def e_m259 : eM := (⟨"MaySheepModel", "coinsAll", "()I"⟩, prog_14_method_58_code, 3, (Option.some FieldType.int), 32)
def e_m260 : eM := (⟨"MaySheepModel", "count", "(I)I"⟩, prog_14_method_108_code, 4, (Option.some FieldType.int), 32)
def e_m261 : eM := (⟨"MaySheepModel", "image", "(I)I"⟩, prog_14_method_109_code, 3, (Option.some FieldType.int), 32)
def e_m262 : eM := (⟨"MaySheepModel", "back", "(I)I"⟩, prog_14_method_110_code, 3, (Option.some FieldType.int), 32)
def e_ms : List eM := [e_m0, e_m1, e_m2, e_m3, e_m4, e_m5, e_m6, e_m7, e_m8, e_m9, e_m10, e_m11, e_m12, e_m13, e_m14, e_m15, e_m16, e_m17, e_m18, e_m19, e_m20, e_m21, e_m22, e_m23, e_m24, e_m25, e_m26, e_m27, e_m28, e_m29, e_m30, e_m31, e_m32, e_m33, e_m34, e_m35, e_m36, e_m37, e_m38, e_m39, e_m40, e_m41, e_m42, e_m43, e_m44, e_m45, e_m46, e_m47, e_m48, e_m49, e_m50, e_m51, e_m52, e_m53, e_m54, e_m55, e_m56, e_m57, e_m58, e_m59, e_m60, e_m61, e_m62, e_m63, e_m64, e_m65, e_m66, e_m67, e_m68, e_m69, e_m70, e_m71, e_m72, e_m73, e_m74, e_m75, e_m76, e_m77, e_m78, e_m79, e_m80, e_m81, e_m82, e_m83, e_m84, e_m85, e_m86, e_m87, e_m88, e_m89, e_m90, e_m91, e_m92, e_m93, e_m94, e_m95, e_m96, e_m97, e_m98, e_m99, e_m100, e_m101, e_m102, e_m103, e_m104, e_m105, e_m106, e_m107, e_m108, e_m109, e_m110, e_m111, e_m112, e_m113, e_m114, e_m115, e_m116, e_m117, e_m118, e_m119, e_m120, e_m121, e_m122, e_m123, e_m124, e_m125, e_m126, e_m127, e_m128, e_m129, e_m130, e_m131, e_m132, e_m133, e_m134, e_m135, e_m136, e_m137, e_m138, e_m139, e_m140, e_m141, e_m142, e_m143, e_m144, e_m145, e_m146, e_m147, e_m148, e_m149, e_m150, e_m151, e_m152, e_m153, e_m154, e_m155, e_m156, e_m157, e_m158, e_m159, e_m160, e_m161, e_m162, e_m163, e_m164, e_m165, e_m166, e_m167, e_m168, e_m169, e_m170, e_m171, e_m172, e_m173, e_m174, e_m175, e_m176, e_m177, e_m178, e_m179, e_m180, e_m181, e_m182, e_m183, e_m184, e_m185, e_m186, e_m187, e_m188, e_m189, e_m190, e_m191, e_m192, e_m193, e_m194, e_m195, e_m196, e_m197, e_m198, e_m199, e_m200, e_m201, e_m202, e_m203, e_m204, e_m205, e_m206, e_m207, e_m208, e_m209, e_m210, e_m211, e_m212, e_m213, e_m214, e_m215, e_m216, e_m217, e_m218, e_m219, e_m220, e_m221, e_m222, e_m223, e_m224, e_m225, e_m226, e_m227, e_m228, e_m229, e_m230, e_m231, e_m232, e_m233, e_m234, e_m235, e_m236, e_m237, e_m238, e_m239, e_m240, e_m241, e_m242, e_m243, e_m244, e_m245, e_m246, e_m247, e_m248, e_m249, e_m250, e_m251, e_m252, e_m253, e_m254, e_m255, e_m256, e_m257, e_m258, e_m259, e_m260, e_m261, e_m262]
def e_fin : List (List Nat) := [[0, 0, 1], [1, 1, 1, 1, 1, 1, 1, 1, 1, 1], [0, 0, 0, 0, 0, 1, 1, 1, 1], [1, 1, 1], [1, 1, 1, 1, 0, 1, 1, 1, 1], [0, 1, 1, 1], [1], [1, 0, 0], [1, 1, 1, 1, 0], [0, 0, 1, 1, 1, 1, 0, 0], [1, 1, 1, 0, 0], [1, 1, 1, 1, 1, 1, 0, 1, 1, 1, 1], [1, 0, 0, 1, 1, 1, 1, 1, 0, 0, 0, 0, 0, 0, 0, 1, 0, 1, 0, 1, 1, 0, 0, 0, 1, 1, 0, 1, 1, 1, 1, 1, 1, 1, 0, 1, 1, 1, 1]]
theorem e_tk0 : ∀ k, k < 3 → e_tyk (e_ft 0 k) (tyX0 k)
  | 0, _ => Or.inl ⟨rfl, rfl⟩
  | 1, _ => Or.inl ⟨rfl, rfl⟩
  | 2, _ => Or.inr (Or.inr (Or.inr ⟨rfl, Or.inr ⟨_, rfl⟩⟩))
  | k + 3, h => absurd h (by omega)
theorem e_uw0 : ∀ k, k < 3 → u_lay RX0 TX0 k ∈ lw_good
  | 0, _ => lw_g2 14 (by decide +kernel) (by decide +kernel)
  | 1, _ => lw_g2 16 (by decide +kernel) (by decide +kernel)
  | 2, _ => lw_g2 18 (by decide +kernel) (by decide +kernel)
  | k + 3, h => absurd h (by omega)
theorem e_cl0 : e_cl 0 (RX0, TX0, 3) tyX0 := ⟨tyX0_ok, nmX0, e_tk0, rfl, fun w hw => by obtain ⟨k, hk, rfl⟩ := List.mem_map.mp hw; exact e_uw0 k (List.mem_range.mp hk), lw_g2 3 (by decide +kernel) (by decide +kernel), lw_g1 8 (by decide +kernel) (by decide +kernel)⟩
theorem e_tk1 : ∀ k, k < 10 → e_tyk (e_ft 1 k) (tyX1 k)
  | 0, _ => Or.inr (Or.inr (Or.inr ⟨rfl, Or.inr ⟨_, rfl⟩⟩))
  | 1, _ => Or.inr (Or.inr (Or.inr ⟨rfl, Or.inl ⟨_, rfl⟩⟩))
  | 2, _ => Or.inr (Or.inr (Or.inr ⟨rfl, Or.inr ⟨_, rfl⟩⟩))
  | 3, _ => Or.inr (Or.inr (Or.inr ⟨rfl, Or.inr ⟨_, rfl⟩⟩))
  | 4, _ => Or.inr (Or.inr (Or.inr ⟨rfl, Or.inr ⟨_, rfl⟩⟩))
  | 5, _ => Or.inr (Or.inr (Or.inr ⟨rfl, Or.inr ⟨_, rfl⟩⟩))
  | 6, _ => Or.inr (Or.inr (Or.inr ⟨rfl, Or.inr ⟨_, rfl⟩⟩))
  | 7, _ => Or.inr (Or.inr (Or.inr ⟨rfl, Or.inr ⟨_, rfl⟩⟩))
  | 8, _ => Or.inr (Or.inr (Or.inr ⟨rfl, Or.inr ⟨_, rfl⟩⟩))
  | 9, _ => Or.inr (Or.inr (Or.inr ⟨rfl, Or.inr ⟨_, rfl⟩⟩))
  | k + 10, h => absurd h (by omega)
theorem e_uw1 : ∀ k, k < 10 → u_lay RX1 TX1 k ∈ lw_good
  | 0, _ => lw_g2 111 (by decide +kernel) (by decide +kernel)
  | 1, _ => lw_g2 113 (by decide +kernel) (by decide +kernel)
  | 2, _ => lw_g2 115 (by decide +kernel) (by decide +kernel)
  | 3, _ => lw_g2 117 (by decide +kernel) (by decide +kernel)
  | 4, _ => lw_g2 119 (by decide +kernel) (by decide +kernel)
  | 5, _ => lw_g2 121 (by decide +kernel) (by decide +kernel)
  | 6, _ => lw_g2 123 (by decide +kernel) (by decide +kernel)
  | 7, _ => lw_g2 125 (by decide +kernel) (by decide +kernel)
  | 8, _ => lw_g2 127 (by decide +kernel) (by decide +kernel)
  | 9, _ => lw_g2 129 (by decide +kernel) (by decide +kernel)
  | k + 10, h => absurd h (by omega)
theorem e_cl1 : e_cl 1 (RX1, TX1, 10) tyX1 := ⟨tyX1_ok, nmX1, e_tk1, rfl, fun w hw => by obtain ⟨k, hk, rfl⟩ := List.mem_map.mp hw; exact e_uw1 k (List.mem_range.mp hk), lw_g2 93 (by decide +kernel) (by decide +kernel), lw_g1 11 (by decide +kernel) (by decide +kernel)⟩
theorem e_tk2 : ∀ k, k < 9 → e_tyk (e_ft 2 k) (tyX2 k)
  | 0, _ => Or.inr (Or.inl ⟨rfl, rfl⟩)
  | 1, _ => Or.inl ⟨rfl, rfl⟩
  | 2, _ => Or.inl ⟨rfl, rfl⟩
  | 3, _ => Or.inl ⟨rfl, rfl⟩
  | 4, _ => Or.inl ⟨rfl, rfl⟩
  | 5, _ => Or.inr (Or.inr (Or.inr ⟨rfl, Or.inr ⟨_, rfl⟩⟩))
  | 6, _ => Or.inr (Or.inr (Or.inr ⟨rfl, Or.inr ⟨_, rfl⟩⟩))
  | 7, _ => Or.inr (Or.inr (Or.inr ⟨rfl, Or.inr ⟨_, rfl⟩⟩))
  | 8, _ => Or.inr (Or.inr (Or.inr ⟨rfl, Or.inl ⟨_, rfl⟩⟩))
  | k + 9, h => absurd h (by omega)
theorem e_uw2 : ∀ k, k < 9 → u_lay RX2 TX2 k ∈ lw_good
  | 0, _ => lw_g1 154 (by decide +kernel) (by decide +kernel)
  | 1, _ => lw_g1 156 (by decide +kernel) (by decide +kernel)
  | 2, _ => lw_g1 158 (by decide +kernel) (by decide +kernel)
  | 3, _ => lw_g1 160 (by decide +kernel) (by decide +kernel)
  | 4, _ => lw_g1 162 (by decide +kernel) (by decide +kernel)
  | 5, _ => lw_g1 164 (by decide +kernel) (by decide +kernel)
  | 6, _ => lw_g1 166 (by decide +kernel) (by decide +kernel)
  | 7, _ => lw_g1 168 (by decide +kernel) (by decide +kernel)
  | 8, _ => lw_g1 170 (by decide +kernel) (by decide +kernel)
  | k + 9, h => absurd h (by omega)
theorem e_cl2 : e_cl 2 (RX2, TX2, 9) tyX2 := ⟨tyX2_ok, nmX2, e_tk2, rfl, fun w hw => by obtain ⟨k, hk, rfl⟩ := List.mem_map.mp hw; exact e_uw2 k (List.mem_range.mp hk), lw_g1 74 (by decide +kernel) (by decide +kernel), lw_g1 4 (by decide +kernel) (by decide +kernel)⟩
theorem e_tk3 : ∀ k, k < 3 → e_tyk (e_ft 3 k) (tyX3 k)
  | 0, _ => Or.inr (Or.inr (Or.inr ⟨rfl, Or.inr ⟨_, rfl⟩⟩))
  | 1, _ => Or.inr (Or.inr (Or.inr ⟨rfl, Or.inr ⟨_, rfl⟩⟩))
  | 2, _ => Or.inr (Or.inr (Or.inr ⟨rfl, Or.inr ⟨_, rfl⟩⟩))
  | k + 3, h => absurd h (by omega)
theorem e_uw3 : ∀ k, k < 3 → u_lay RX3 TX3 k ∈ lw_good
  | 0, _ => lw_g2 38 (by decide +kernel) (by decide +kernel)
  | 1, _ => lw_g2 40 (by decide +kernel) (by decide +kernel)
  | 2, _ => lw_g2 42 (by decide +kernel) (by decide +kernel)
  | k + 3, h => absurd h (by omega)
theorem e_cl3 : e_cl 3 (RX3, TX3, 3) tyX3 := ⟨tyX3_ok, nmX3, e_tk3, rfl, fun w hw => by obtain ⟨k, hk, rfl⟩ := List.mem_map.mp hw; exact e_uw3 k (List.mem_range.mp hk), lw_g2 22 (by decide +kernel) (by decide +kernel), lw_g1 9 (by decide +kernel) (by decide +kernel)⟩
theorem e_tk4 : ∀ k, k < 9 → e_tyk (e_ft 4 k) (tyX4 k)
  | 0, _ => Or.inr (Or.inr (Or.inr ⟨rfl, Or.inl ⟨_, rfl⟩⟩))
  | 1, _ => Or.inr (Or.inr (Or.inr ⟨rfl, Or.inl ⟨_, rfl⟩⟩))
  | 2, _ => Or.inr (Or.inr (Or.inr ⟨rfl, Or.inl ⟨_, rfl⟩⟩))
  | 3, _ => Or.inr (Or.inr (Or.inr ⟨rfl, Or.inr ⟨_, rfl⟩⟩))
  | 4, _ => Or.inr (Or.inr (Or.inr ⟨rfl, Or.inl ⟨_, rfl⟩⟩))
  | 5, _ => Or.inr (Or.inr (Or.inr ⟨rfl, Or.inr ⟨_, rfl⟩⟩))
  | 6, _ => Or.inr (Or.inr (Or.inr ⟨rfl, Or.inr ⟨_, rfl⟩⟩))
  | 7, _ => Or.inr (Or.inr (Or.inr ⟨rfl, Or.inr ⟨_, rfl⟩⟩))
  | 8, _ => Or.inr (Or.inr (Or.inr ⟨rfl, Or.inr ⟨_, rfl⟩⟩))
  | k + 9, h => absurd h (by omega)
theorem e_uw4 : ∀ k, k < 9 → u_lay RX4 TX4 k ∈ lw_good
  | 0, _ => lw_g2 71 (by decide +kernel) (by decide +kernel)
  | 1, _ => lw_g2 73 (by decide +kernel) (by decide +kernel)
  | 2, _ => lw_g2 75 (by decide +kernel) (by decide +kernel)
  | 3, _ => lw_g2 77 (by decide +kernel) (by decide +kernel)
  | 4, _ => lw_g2 79 (by decide +kernel) (by decide +kernel)
  | 5, _ => lw_g2 81 (by decide +kernel) (by decide +kernel)
  | 6, _ => lw_g2 83 (by decide +kernel) (by decide +kernel)
  | 7, _ => lw_g2 85 (by decide +kernel) (by decide +kernel)
  | 8, _ => lw_g2 87 (by decide +kernel) (by decide +kernel)
  | k + 9, h => absurd h (by omega)
theorem e_cl4 : e_cl 4 (RX4, TX4, 9) tyX4 := ⟨tyX4_ok, nmX4, e_tk4, rfl, fun w hw => by obtain ⟨k, hk, rfl⟩ := List.mem_map.mp hw; exact e_uw4 k (List.mem_range.mp hk), lw_g2 46 (by decide +kernel) (by decide +kernel), lw_g1 10 (by decide +kernel) (by decide +kernel)⟩
theorem e_tk5 : ∀ k, k < 4 → e_tyk (e_ft 5 k) (tyX5 k)
  | 0, _ => Or.inl ⟨rfl, rfl⟩
  | 1, _ => Or.inr (Or.inr (Or.inr ⟨rfl, Or.inr ⟨_, rfl⟩⟩))
  | 2, _ => Or.inr (Or.inr (Or.inr ⟨rfl, Or.inr ⟨_, rfl⟩⟩))
  | 3, _ => Or.inr (Or.inr (Or.inr ⟨rfl, Or.inr ⟨_, rfl⟩⟩))
  | k + 4, h => absurd h (by omega)
theorem e_uw5 : ∀ k, k < 4 → u_lay RX5 TX5 k ∈ lw_good
  | 0, _ => lw_g1 187 (by decide +kernel) (by decide +kernel)
  | 1, _ => lw_g1 189 (by decide +kernel) (by decide +kernel)
  | 2, _ => lw_g1 191 (by decide +kernel) (by decide +kernel)
  | 3, _ => lw_g1 193 (by decide +kernel) (by decide +kernel)
  | k + 4, h => absurd h (by omega)
theorem e_cl5 : e_cl 5 (RX5, TX5, 4) tyX5 := ⟨tyX5_ok, nmX5, e_tk5, rfl, fun w hw => by obtain ⟨k, hk, rfl⟩ := List.mem_map.mp hw; exact e_uw5 k (List.mem_range.mp hk), lw_g1 176 (by decide +kernel) (by decide +kernel), lw_g1 6 (by decide +kernel) (by decide +kernel)⟩
theorem e_tk6 : ∀ k, k < 1 → e_tyk (e_ft 6 k) (tyX6 k)
  | 0, _ => Or.inr (Or.inr (Or.inr ⟨rfl, Or.inr ⟨_, rfl⟩⟩))
  | k + 1, h => absurd h (by omega)
theorem e_uw6 : ∀ k, k < 1 → u_lay RX6 TX6 k ∈ lw_good
  | 0, _ => lw_g3 199 (by decide +kernel) (by decide +kernel)
  | k + 1, h => absurd h (by omega)
theorem e_cl6 : e_cl 6 (RX6, TX6, 1) tyX6 := ⟨tyX6_ok, nmX6, e_tk6, rfl, fun w hw => by obtain ⟨k, hk, rfl⟩ := List.mem_map.mp hw; exact e_uw6 k (List.mem_range.mp hk), lw_g3 175 (by decide +kernel) (by decide +kernel), lw_g1 20 (by decide +kernel) (by decide +kernel)⟩
theorem e_tk7 : ∀ k, k < 3 → e_tyk (e_ft 7 k) (tyX7 k)
  | 0, _ => Or.inr (Or.inr (Or.inr ⟨rfl, Or.inr ⟨_, rfl⟩⟩))
  | 1, _ => Or.inl ⟨rfl, rfl⟩
  | 2, _ => Or.inl ⟨rfl, rfl⟩
  | k + 3, h => absurd h (by omega)
theorem e_uw7 : ∀ k, k < 3 → u_lay RX7 TX7 k ∈ lw_good
  | 0, _ => lw_g1 233 (by decide +kernel) (by decide +kernel)
  | 1, _ => lw_g1 235 (by decide +kernel) (by decide +kernel)
  | 2, _ => lw_g1 237 (by decide +kernel) (by decide +kernel)
  | k + 3, h => absurd h (by omega)
theorem e_cl7 : e_cl 7 (RX7, TX7, 3) tyX7 := ⟨tyX7_ok, nmX7, e_tk7, rfl, fun w hw => by obtain ⟨k, hk, rfl⟩ := List.mem_map.mp hw; exact e_uw7 k (List.mem_range.mp hk), lw_g1 225 (by decide +kernel) (by decide +kernel), lw_g1 7 (by decide +kernel) (by decide +kernel)⟩
theorem e_tk8 : ∀ k, k < 5 → e_tyk (e_ft 8 k) (tyX8 k)
  | 0, _ => Or.inr (Or.inr (Or.inr ⟨rfl, Or.inr ⟨_, rfl⟩⟩))
  | 1, _ => Or.inr (Or.inr (Or.inr ⟨rfl, Or.inr ⟨_, rfl⟩⟩))
  | 2, _ => Or.inr (Or.inr (Or.inr ⟨rfl, Or.inr ⟨_, rfl⟩⟩))
  | 3, _ => Or.inr (Or.inr (Or.inr ⟨rfl, Or.inr ⟨_, rfl⟩⟩))
  | 4, _ => Or.inl ⟨rfl, rfl⟩
  | k + 5, h => absurd h (by omega)
theorem e_uw8 : ∀ k, k < 5 → u_lay RX8 TX8 k ∈ lw_good
  | 0, _ => lw_g1 109 (by decide +kernel) (by decide +kernel)
  | 1, _ => lw_g1 111 (by decide +kernel) (by decide +kernel)
  | 2, _ => lw_g1 113 (by decide +kernel) (by decide +kernel)
  | 3, _ => lw_g1 115 (by decide +kernel) (by decide +kernel)
  | 4, _ => lw_g1 117 (by decide +kernel) (by decide +kernel)
  | k + 5, h => absurd h (by omega)
theorem e_cl8 : e_cl 8 (RX8, TX8, 5) tyX8 := ⟨tyX8_ok, nmX8, e_tk8, rfl, fun w hw => by obtain ⟨k, hk, rfl⟩ := List.mem_map.mp hw; exact e_uw8 k (List.mem_range.mp hk), lw_g1 80 (by decide +kernel) (by decide +kernel), lw_g1 5 (by decide +kernel) (by decide +kernel)⟩
theorem e_tk9 : ∀ k, k < 8 → e_tyk (e_ft 9 k) (tyX9 k)
  | 0, _ => Or.inl ⟨rfl, rfl⟩
  | 1, _ => Or.inl ⟨rfl, rfl⟩
  | 2, _ => Or.inr (Or.inr (Or.inr ⟨rfl, Or.inr ⟨_, rfl⟩⟩))
  | 3, _ => Or.inr (Or.inr (Or.inr ⟨rfl, Or.inr ⟨_, rfl⟩⟩))
  | 4, _ => Or.inr (Or.inr (Or.inr ⟨rfl, Or.inr ⟨_, rfl⟩⟩))
  | 5, _ => Or.inr (Or.inr (Or.inr ⟨rfl, Or.inr ⟨_, rfl⟩⟩))
  | 6, _ => Or.inl ⟨rfl, rfl⟩
  | 7, _ => Or.inl ⟨rfl, rfl⟩
  | k + 8, h => absurd h (by omega)
theorem e_uw9 : ∀ k, k < 8 → u_lay RX9 TX9 k ∈ lw_good
  | 0, _ => lw_g1 48 (by decide +kernel) (by decide +kernel)
  | 1, _ => lw_g1 50 (by decide +kernel) (by decide +kernel)
  | 2, _ => lw_g1 52 (by decide +kernel) (by decide +kernel)
  | 3, _ => lw_g1 54 (by decide +kernel) (by decide +kernel)
  | 4, _ => lw_g1 56 (by decide +kernel) (by decide +kernel)
  | 5, _ => lw_g1 58 (by decide +kernel) (by decide +kernel)
  | 6, _ => lw_g1 60 (by decide +kernel) (by decide +kernel)
  | 7, _ => lw_g1 62 (by decide +kernel) (by decide +kernel)
  | k + 8, h => absurd h (by omega)
theorem e_cl9 : e_cl 9 (RX9, TX9, 8) tyX9 := ⟨tyX9_ok, nmX9, e_tk9, rfl, fun w hw => by obtain ⟨k, hk, rfl⟩ := List.mem_map.mp hw; exact e_uw9 k (List.mem_range.mp hk), lw_g1 31 (by decide +kernel) (by decide +kernel), lw_g1 2 (by decide +kernel) (by decide +kernel)⟩
theorem e_tk10 : ∀ k, k < 5 → e_tyk (e_ft 10 k) (tyX10 k)
  | 0, _ => Or.inr (Or.inr (Or.inr ⟨rfl, Or.inl ⟨_, rfl⟩⟩))
  | 1, _ => Or.inr (Or.inr (Or.inr ⟨rfl, Or.inl ⟨_, rfl⟩⟩))
  | 2, _ => Or.inr (Or.inr (Or.inr ⟨rfl, Or.inl ⟨_, rfl⟩⟩))
  | 3, _ => Or.inl ⟨rfl, rfl⟩
  | 4, _ => Or.inl ⟨rfl, rfl⟩
  | k + 5, h => absurd h (by omega)
theorem e_uw10 : ∀ k, k < 5 → u_lay RX10 TX10 k ∈ lw_good
  | 0, _ => lw_g1 210 (by decide +kernel) (by decide +kernel)
  | 1, _ => lw_g1 212 (by decide +kernel) (by decide +kernel)
  | 2, _ => lw_g1 214 (by decide +kernel) (by decide +kernel)
  | 3, _ => lw_g1 216 (by decide +kernel) (by decide +kernel)
  | 4, _ => lw_g1 218 (by decide +kernel) (by decide +kernel)
  | k + 5, h => absurd h (by omega)
theorem e_cl10 : e_cl 10 (RX10, TX10, 5) tyX10 := ⟨tyX10_ok, nmX10, e_tk10, rfl, fun w hw => by obtain ⟨k, hk, rfl⟩ := List.mem_map.mp hw; exact e_uw10 k (List.mem_range.mp hk), lw_g1 68 (by decide +kernel) (by decide +kernel), lw_g1 3 (by decide +kernel) (by decide +kernel)⟩
theorem e_tk11 : ∀ k, k < 11 → e_tyk (e_ft 11 k) (tyX11 k)
  | 0, _ => Or.inr (Or.inr (Or.inr ⟨rfl, Or.inl ⟨_, rfl⟩⟩))
  | 1, _ => Or.inr (Or.inr (Or.inr ⟨rfl, Or.inl ⟨_, rfl⟩⟩))
  | 2, _ => Or.inr (Or.inr (Or.inr ⟨rfl, Or.inr ⟨_, rfl⟩⟩))
  | 3, _ => Or.inr (Or.inr (Or.inr ⟨rfl, Or.inl ⟨_, rfl⟩⟩))
  | 4, _ => Or.inr (Or.inr (Or.inr ⟨rfl, Or.inl ⟨_, rfl⟩⟩))
  | 5, _ => Or.inr (Or.inr (Or.inr ⟨rfl, Or.inr ⟨_, rfl⟩⟩))
  | 6, _ => Or.inl ⟨rfl, rfl⟩
  | 7, _ => Or.inr (Or.inr (Or.inr ⟨rfl, Or.inl ⟨_, rfl⟩⟩))
  | 8, _ => Or.inr (Or.inr (Or.inr ⟨rfl, Or.inl ⟨_, rfl⟩⟩))
  | 9, _ => Or.inr (Or.inr (Or.inr ⟨rfl, Or.inl ⟨_, rfl⟩⟩))
  | 10, _ => Or.inr (Or.inr (Or.inr ⟨rfl, Or.inl ⟨_, rfl⟩⟩))
  | k + 11, h => absurd h (by omega)
theorem e_uw11 : ∀ k, k < 11 → u_lay RX11 TX11 k ∈ lw_good
  | 0, _ => lw_g2 143 (by decide +kernel) (by decide +kernel)
  | 1, _ => lw_g2 145 (by decide +kernel) (by decide +kernel)
  | 2, _ => lw_g2 147 (by decide +kernel) (by decide +kernel)
  | 3, _ => lw_g2 149 (by decide +kernel) (by decide +kernel)
  | 4, _ => lw_g2 151 (by decide +kernel) (by decide +kernel)
  | 5, _ => lw_g2 153 (by decide +kernel) (by decide +kernel)
  | 6, _ => lw_g2 155 (by decide +kernel) (by decide +kernel)
  | 7, _ => lw_g2 157 (by decide +kernel) (by decide +kernel)
  | 8, _ => lw_g2 159 (by decide +kernel) (by decide +kernel)
  | 9, _ => lw_g2 161 (by decide +kernel) (by decide +kernel)
  | 10, _ => lw_g2 163 (by decide +kernel) (by decide +kernel)
  | k + 11, h => absurd h (by omega)
theorem e_cl11 : e_cl 11 (RX11, TX11, 11) tyX11 := ⟨tyX11_ok, nmX11, e_tk11, rfl, fun w hw => by obtain ⟨k, hk, rfl⟩ := List.mem_map.mp hw; exact e_uw11 k (List.mem_range.mp hk), lw_g1 23 (by decide +kernel) (by decide +kernel), lw_g1 1 (by decide +kernel) (by decide +kernel)⟩
theorem e_tk12 : ∀ k, k < 39 → e_tyk (e_ft 12 k) (tyX12 k)
  | 0, _ => Or.inr (Or.inr (Or.inr ⟨rfl, Or.inr ⟨_, rfl⟩⟩))
  | 1, _ => Or.inl ⟨rfl, rfl⟩
  | 2, _ => Or.inl ⟨rfl, rfl⟩
  | 3, _ => Or.inr (Or.inr (Or.inr ⟨rfl, Or.inr ⟨_, rfl⟩⟩))
  | 4, _ => Or.inr (Or.inr (Or.inr ⟨rfl, Or.inr ⟨_, rfl⟩⟩))
  | 5, _ => Or.inr (Or.inr (Or.inr ⟨rfl, Or.inr ⟨_, rfl⟩⟩))
  | 6, _ => Or.inr (Or.inr (Or.inr ⟨rfl, Or.inr ⟨_, rfl⟩⟩))
  | 7, _ => Or.inr (Or.inr (Or.inr ⟨rfl, Or.inr ⟨_, rfl⟩⟩))
  | 8, _ => Or.inl ⟨rfl, rfl⟩
  | 9, _ => Or.inl ⟨rfl, rfl⟩
  | 10, _ => Or.inl ⟨rfl, rfl⟩
  | 11, _ => Or.inl ⟨rfl, rfl⟩
  | 12, _ => Or.inl ⟨rfl, rfl⟩
  | 13, _ => Or.inl ⟨rfl, rfl⟩
  | 14, _ => Or.inl ⟨rfl, rfl⟩
  | 15, _ => Or.inr (Or.inr (Or.inr ⟨rfl, Or.inr ⟨_, rfl⟩⟩))
  | 16, _ => Or.inl ⟨rfl, rfl⟩
  | 17, _ => Or.inr (Or.inr (Or.inr ⟨rfl, Or.inr ⟨_, rfl⟩⟩))
  | 18, _ => Or.inl ⟨rfl, rfl⟩
  | 19, _ => Or.inr (Or.inr (Or.inr ⟨rfl, Or.inr ⟨_, rfl⟩⟩))
  | 20, _ => Or.inr (Or.inr (Or.inr ⟨rfl, Or.inr ⟨_, rfl⟩⟩))
  | 21, _ => Or.inl ⟨rfl, rfl⟩
  | 22, _ => Or.inl ⟨rfl, rfl⟩
  | 23, _ => Or.inl ⟨rfl, rfl⟩
  | 24, _ => Or.inr (Or.inr (Or.inr ⟨rfl, Or.inr ⟨_, rfl⟩⟩))
  | 25, _ => Or.inr (Or.inr (Or.inr ⟨rfl, Or.inr ⟨_, rfl⟩⟩))
  | 26, _ => Or.inl ⟨rfl, rfl⟩
  | 27, _ => Or.inr (Or.inr (Or.inr ⟨rfl, Or.inr ⟨_, rfl⟩⟩))
  | 28, _ => Or.inr (Or.inr (Or.inr ⟨rfl, Or.inr ⟨_, rfl⟩⟩))
  | 29, _ => Or.inr (Or.inr (Or.inr ⟨rfl, Or.inr ⟨_, rfl⟩⟩))
  | 30, _ => Or.inr (Or.inr (Or.inr ⟨rfl, Or.inr ⟨_, rfl⟩⟩))
  | 31, _ => Or.inr (Or.inr (Or.inr ⟨rfl, Or.inr ⟨_, rfl⟩⟩))
  | 32, _ => Or.inr (Or.inr (Or.inr ⟨rfl, Or.inr ⟨_, rfl⟩⟩))
  | 33, _ => Or.inr (Or.inr (Or.inr ⟨rfl, Or.inr ⟨_, rfl⟩⟩))
  | 34, _ => Or.inr (Or.inr (Or.inl ⟨rfl, rfl⟩))
  | 35, _ => Or.inr (Or.inr (Or.inr ⟨rfl, Or.inr ⟨_, rfl⟩⟩))
  | 36, _ => Or.inr (Or.inr (Or.inr ⟨rfl, Or.inr ⟨_, rfl⟩⟩))
  | 37, _ => Or.inr (Or.inr (Or.inr ⟨rfl, Or.inr ⟨_, rfl⟩⟩))
  | 38, _ => Or.inr (Or.inr (Or.inr ⟨rfl, Or.inr ⟨_, rfl⟩⟩))
  | k + 39, h => absurd h (by omega)
theorem e_uw12 : ∀ k, k < 39 → u_lay RX12 TX12 k ∈ lw_good
  | 0, _ => lw_g5 127 (by decide +kernel) (by decide +kernel)
  | 1, _ => lw_g5 129 (by decide +kernel) (by decide +kernel)
  | 2, _ => lw_g5 131 (by decide +kernel) (by decide +kernel)
  | 3, _ => lw_g5 133 (by decide +kernel) (by decide +kernel)
  | 4, _ => lw_g5 135 (by decide +kernel) (by decide +kernel)
  | 5, _ => lw_g5 137 (by decide +kernel) (by decide +kernel)
  | 6, _ => lw_g5 139 (by decide +kernel) (by decide +kernel)
  | 7, _ => lw_g5 141 (by decide +kernel) (by decide +kernel)
  | 8, _ => lw_g5 143 (by decide +kernel) (by decide +kernel)
  | 9, _ => lw_g5 145 (by decide +kernel) (by decide +kernel)
  | 10, _ => lw_g5 147 (by decide +kernel) (by decide +kernel)
  | 11, _ => lw_g5 149 (by decide +kernel) (by decide +kernel)
  | 12, _ => lw_g5 151 (by decide +kernel) (by decide +kernel)
  | 13, _ => lw_g5 153 (by decide +kernel) (by decide +kernel)
  | 14, _ => lw_g5 155 (by decide +kernel) (by decide +kernel)
  | 15, _ => lw_g5 157 (by decide +kernel) (by decide +kernel)
  | 16, _ => lw_g5 159 (by decide +kernel) (by decide +kernel)
  | 17, _ => lw_g5 161 (by decide +kernel) (by decide +kernel)
  | 18, _ => lw_g5 163 (by decide +kernel) (by decide +kernel)
  | 19, _ => lw_g5 165 (by decide +kernel) (by decide +kernel)
  | 20, _ => lw_g5 167 (by decide +kernel) (by decide +kernel)
  | 21, _ => lw_g5 169 (by decide +kernel) (by decide +kernel)
  | 22, _ => lw_g5 171 (by decide +kernel) (by decide +kernel)
  | 23, _ => lw_g5 173 (by decide +kernel) (by decide +kernel)
  | 24, _ => lw_g5 175 (by decide +kernel) (by decide +kernel)
  | 25, _ => lw_g5 177 (by decide +kernel) (by decide +kernel)
  | 26, _ => lw_g5 179 (by decide +kernel) (by decide +kernel)
  | 27, _ => lw_g5 181 (by decide +kernel) (by decide +kernel)
  | 28, _ => lw_g5 183 (by decide +kernel) (by decide +kernel)
  | 29, _ => lw_g5 185 (by decide +kernel) (by decide +kernel)
  | 30, _ => lw_g5 187 (by decide +kernel) (by decide +kernel)
  | 31, _ => lw_g5 189 (by decide +kernel) (by decide +kernel)
  | 32, _ => lw_g5 191 (by decide +kernel) (by decide +kernel)
  | 33, _ => lw_g5 193 (by decide +kernel) (by decide +kernel)
  | 34, _ => lw_g5 195 (by decide +kernel) (by decide +kernel)
  | 35, _ => lw_g5 197 (by decide +kernel) (by decide +kernel)
  | 36, _ => lw_g5 199 (by decide +kernel) (by decide +kernel)
  | 37, _ => lw_g5 201 (by decide +kernel) (by decide +kernel)
  | 38, _ => lw_g5 203 (by decide +kernel) (by decide +kernel)
  | k + 39, h => absurd h (by omega)
theorem e_cl12 : e_cl 12 (RX12, TX12, 39) tyX12 := ⟨tyX12_ok, nmX12, e_tk12, rfl, fun w hw => by obtain ⟨k, hk, rfl⟩ := List.mem_map.mp hw; exact e_uw12 k (List.mem_range.mp hk), lw_g5 83 (by decide +kernel) (by decide +kernel), lw_g1 12 (by decide +kernel) (by decide +kernel)⟩
theorem e_cls : ∀ i q, vwCl[i]? = some q → ∃ ty0, e_cl i q ty0
  | 0, q, h => by cases h; exact ⟨_, e_cl0⟩
  | 1, q, h => by cases h; exact ⟨_, e_cl1⟩
  | 2, q, h => by cases h; exact ⟨_, e_cl2⟩
  | 3, q, h => by cases h; exact ⟨_, e_cl3⟩
  | 4, q, h => by cases h; exact ⟨_, e_cl4⟩
  | 5, q, h => by cases h; exact ⟨_, e_cl5⟩
  | 6, q, h => by cases h; exact ⟨_, e_cl6⟩
  | 7, q, h => by cases h; exact ⟨_, e_cl7⟩
  | 8, q, h => by cases h; exact ⟨_, e_cl8⟩
  | 9, q, h => by cases h; exact ⟨_, e_cl9⟩
  | 10, q, h => by cases h; exact ⟨_, e_cl10⟩
  | 11, q, h => by cases h; exact ⟨_, e_cl11⟩
  | 12, q, h => by cases h; exact ⟨_, e_cl12⟩
  | i + 13, q, h => by simp [vwCl] at h
theorem e_fin_ok : e_fink e_fin
  | 0, c, h => by
    cases h
    intro k hk
    match k, hk with
    | 0, _ => exact Or.inl ⟨rfl, rfl⟩
    | 1, _ => exact Or.inl ⟨rfl, rfl⟩
    | 2, _ => exact Or.inr ⟨rfl, rfl, rfl⟩
    | k + 3, h => exact absurd h (by show ¬ k + 3 < 3; omega)
  | 1, c, h => by
    cases h
    intro k hk
    match k, hk with
    | 0, _ => exact Or.inr ⟨rfl, rfl, rfl⟩
    | 1, _ => exact Or.inr ⟨rfl, rfl, rfl⟩
    | 2, _ => exact Or.inr ⟨rfl, rfl, rfl⟩
    | 3, _ => exact Or.inr ⟨rfl, rfl, rfl⟩
    | 4, _ => exact Or.inr ⟨rfl, rfl, rfl⟩
    | 5, _ => exact Or.inr ⟨rfl, rfl, rfl⟩
    | 6, _ => exact Or.inr ⟨rfl, rfl, rfl⟩
    | 7, _ => exact Or.inr ⟨rfl, rfl, rfl⟩
    | 8, _ => exact Or.inr ⟨rfl, rfl, rfl⟩
    | 9, _ => exact Or.inr ⟨rfl, rfl, rfl⟩
    | k + 10, h => exact absurd h (by show ¬ k + 10 < 10; omega)
  | 2, c, h => by
    cases h
    intro k hk
    match k, hk with
    | 0, _ => exact Or.inl ⟨rfl, rfl⟩
    | 1, _ => exact Or.inl ⟨rfl, rfl⟩
    | 2, _ => exact Or.inl ⟨rfl, rfl⟩
    | 3, _ => exact Or.inl ⟨rfl, rfl⟩
    | 4, _ => exact Or.inl ⟨rfl, rfl⟩
    | 5, _ => exact Or.inr ⟨rfl, rfl, rfl⟩
    | 6, _ => exact Or.inr ⟨rfl, rfl, rfl⟩
    | 7, _ => exact Or.inr ⟨rfl, rfl, rfl⟩
    | 8, _ => exact Or.inr ⟨rfl, rfl, rfl⟩
    | k + 9, h => exact absurd h (by show ¬ k + 9 < 9; omega)
  | 3, c, h => by
    cases h
    intro k hk
    match k, hk with
    | 0, _ => exact Or.inr ⟨rfl, rfl, rfl⟩
    | 1, _ => exact Or.inr ⟨rfl, rfl, rfl⟩
    | 2, _ => exact Or.inr ⟨rfl, rfl, rfl⟩
    | k + 3, h => exact absurd h (by show ¬ k + 3 < 3; omega)
  | 4, c, h => by
    cases h
    intro k hk
    match k, hk with
    | 0, _ => exact Or.inr ⟨rfl, rfl, rfl⟩
    | 1, _ => exact Or.inr ⟨rfl, rfl, rfl⟩
    | 2, _ => exact Or.inr ⟨rfl, rfl, rfl⟩
    | 3, _ => exact Or.inr ⟨rfl, rfl, rfl⟩
    | 4, _ => exact Or.inl ⟨rfl, rfl⟩
    | 5, _ => exact Or.inr ⟨rfl, rfl, rfl⟩
    | 6, _ => exact Or.inr ⟨rfl, rfl, rfl⟩
    | 7, _ => exact Or.inr ⟨rfl, rfl, rfl⟩
    | 8, _ => exact Or.inr ⟨rfl, rfl, rfl⟩
    | k + 9, h => exact absurd h (by show ¬ k + 9 < 9; omega)
  | 5, c, h => by
    cases h
    intro k hk
    match k, hk with
    | 0, _ => exact Or.inl ⟨rfl, rfl⟩
    | 1, _ => exact Or.inr ⟨rfl, rfl, rfl⟩
    | 2, _ => exact Or.inr ⟨rfl, rfl, rfl⟩
    | 3, _ => exact Or.inr ⟨rfl, rfl, rfl⟩
    | k + 4, h => exact absurd h (by show ¬ k + 4 < 4; omega)
  | 6, c, h => by
    cases h
    intro k hk
    match k, hk with
    | 0, _ => exact Or.inr ⟨rfl, rfl, rfl⟩
    | k + 1, h => exact absurd h (by show ¬ k + 1 < 1; omega)
  | 7, c, h => by
    cases h
    intro k hk
    match k, hk with
    | 0, _ => exact Or.inr ⟨rfl, rfl, rfl⟩
    | 1, _ => exact Or.inl ⟨rfl, rfl⟩
    | 2, _ => exact Or.inl ⟨rfl, rfl⟩
    | k + 3, h => exact absurd h (by show ¬ k + 3 < 3; omega)
  | 8, c, h => by
    cases h
    intro k hk
    match k, hk with
    | 0, _ => exact Or.inr ⟨rfl, rfl, rfl⟩
    | 1, _ => exact Or.inr ⟨rfl, rfl, rfl⟩
    | 2, _ => exact Or.inr ⟨rfl, rfl, rfl⟩
    | 3, _ => exact Or.inr ⟨rfl, rfl, rfl⟩
    | 4, _ => exact Or.inl ⟨rfl, rfl⟩
    | k + 5, h => exact absurd h (by show ¬ k + 5 < 5; omega)
  | 9, c, h => by
    cases h
    intro k hk
    match k, hk with
    | 0, _ => exact Or.inl ⟨rfl, rfl⟩
    | 1, _ => exact Or.inl ⟨rfl, rfl⟩
    | 2, _ => exact Or.inr ⟨rfl, rfl, rfl⟩
    | 3, _ => exact Or.inr ⟨rfl, rfl, rfl⟩
    | 4, _ => exact Or.inr ⟨rfl, rfl, rfl⟩
    | 5, _ => exact Or.inr ⟨rfl, rfl, rfl⟩
    | 6, _ => exact Or.inl ⟨rfl, rfl⟩
    | 7, _ => exact Or.inl ⟨rfl, rfl⟩
    | k + 8, h => exact absurd h (by show ¬ k + 8 < 8; omega)
  | 10, c, h => by
    cases h
    intro k hk
    match k, hk with
    | 0, _ => exact Or.inr ⟨rfl, rfl, rfl⟩
    | 1, _ => exact Or.inr ⟨rfl, rfl, rfl⟩
    | 2, _ => exact Or.inr ⟨rfl, rfl, rfl⟩
    | 3, _ => exact Or.inl ⟨rfl, rfl⟩
    | 4, _ => exact Or.inl ⟨rfl, rfl⟩
    | k + 5, h => exact absurd h (by show ¬ k + 5 < 5; omega)
  | 11, c, h => by
    cases h
    intro k hk
    match k, hk with
    | 0, _ => exact Or.inr ⟨rfl, rfl, rfl⟩
    | 1, _ => exact Or.inr ⟨rfl, rfl, rfl⟩
    | 2, _ => exact Or.inr ⟨rfl, rfl, rfl⟩
    | 3, _ => exact Or.inr ⟨rfl, rfl, rfl⟩
    | 4, _ => exact Or.inr ⟨rfl, rfl, rfl⟩
    | 5, _ => exact Or.inr ⟨rfl, rfl, rfl⟩
    | 6, _ => exact Or.inl ⟨rfl, rfl⟩
    | 7, _ => exact Or.inr ⟨rfl, rfl, rfl⟩
    | 8, _ => exact Or.inr ⟨rfl, rfl, rfl⟩
    | 9, _ => exact Or.inr ⟨rfl, rfl, rfl⟩
    | 10, _ => exact Or.inr ⟨rfl, rfl, rfl⟩
    | k + 11, h => exact absurd h (by show ¬ k + 11 < 11; omega)
  | 12, c, h => by
    cases h
    intro k hk
    match k, hk with
    | 0, _ => exact Or.inr ⟨rfl, rfl, rfl⟩
    | 1, _ => exact Or.inl ⟨rfl, rfl⟩
    | 2, _ => exact Or.inl ⟨rfl, rfl⟩
    | 3, _ => exact Or.inr ⟨rfl, rfl, rfl⟩
    | 4, _ => exact Or.inr ⟨rfl, rfl, rfl⟩
    | 5, _ => exact Or.inr ⟨rfl, rfl, rfl⟩
    | 6, _ => exact Or.inr ⟨rfl, rfl, rfl⟩
    | 7, _ => exact Or.inr ⟨rfl, rfl, rfl⟩
    | 8, _ => exact Or.inl ⟨rfl, rfl⟩
    | 9, _ => exact Or.inl ⟨rfl, rfl⟩
    | 10, _ => exact Or.inl ⟨rfl, rfl⟩
    | 11, _ => exact Or.inl ⟨rfl, rfl⟩
    | 12, _ => exact Or.inl ⟨rfl, rfl⟩
    | 13, _ => exact Or.inl ⟨rfl, rfl⟩
    | 14, _ => exact Or.inl ⟨rfl, rfl⟩
    | 15, _ => exact Or.inr ⟨rfl, rfl, rfl⟩
    | 16, _ => exact Or.inl ⟨rfl, rfl⟩
    | 17, _ => exact Or.inr ⟨rfl, rfl, rfl⟩
    | 18, _ => exact Or.inl ⟨rfl, rfl⟩
    | 19, _ => exact Or.inr ⟨rfl, rfl, rfl⟩
    | 20, _ => exact Or.inr ⟨rfl, rfl, rfl⟩
    | 21, _ => exact Or.inl ⟨rfl, rfl⟩
    | 22, _ => exact Or.inl ⟨rfl, rfl⟩
    | 23, _ => exact Or.inl ⟨rfl, rfl⟩
    | 24, _ => exact Or.inr ⟨rfl, rfl, rfl⟩
    | 25, _ => exact Or.inr ⟨rfl, rfl, rfl⟩
    | 26, _ => exact Or.inl ⟨rfl, rfl⟩
    | 27, _ => exact Or.inr ⟨rfl, rfl, rfl⟩
    | 28, _ => exact Or.inr ⟨rfl, rfl, rfl⟩
    | 29, _ => exact Or.inr ⟨rfl, rfl, rfl⟩
    | 30, _ => exact Or.inr ⟨rfl, rfl, rfl⟩
    | 31, _ => exact Or.inr ⟨rfl, rfl, rfl⟩
    | 32, _ => exact Or.inr ⟨rfl, rfl, rfl⟩
    | 33, _ => exact Or.inr ⟨rfl, rfl, rfl⟩
    | 34, _ => exact Or.inl ⟨rfl, rfl⟩
    | 35, _ => exact Or.inr ⟨rfl, rfl, rfl⟩
    | 36, _ => exact Or.inr ⟨rfl, rfl, rfl⟩
    | 37, _ => exact Or.inr ⟨rfl, rfl, rfl⟩
    | 38, _ => exact Or.inr ⟨rfl, rfl, rfl⟩
    | k + 39, h => exact absurd h (by show ¬ k + 39 < 39; omega)
  | i + 13, c, h => by simp [vwCl] at h
