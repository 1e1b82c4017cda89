def nn_MT_0 : List ab_MR := [
  (⟨"NameNotes", "feed", "(IIIII)I"⟩, prog_1_method_2_code, 6, (Option.some Jvm.ClassFile.FieldType.int), 5, true, 0),
  (⟨"NameNotes$Tape", "hasRoom", "()Z"⟩, prog_10_method_2_code, 1, (Option.some Jvm.ClassFile.FieldType.boolean), 0, true, 1),
  (⟨"NameNotes$Tape", "append", "(I)V"⟩, prog_10_method_3_code, 3, (Option.none : Option Jvm.ClassFile.FieldType), 1, true, 4),
  (⟨"NameNotes", "end", "(I)Z"⟩, prog_1_method_3_code, 2, (Option.some Jvm.ClassFile.FieldType.boolean), 1, true, 1),
  (⟨"NameNotes", "studio", "()I"⟩, prog_1_method_4_code, 2, (Option.some Jvm.ClassFile.FieldType.int), 0, true, 0),
  (⟨"NameNotes$StudioReader", "read", "()Z"⟩, prog_9_method_2_code, 2, (Option.some Jvm.ClassFile.FieldType.boolean), 0, true, 1),
  (⟨"NameNotes$Studio", "clear", "()V"⟩, prog_8_method_2_code, 1, (Option.none : Option Jvm.ClassFile.FieldType), 0, true, 4),
  (⟨"NameNotes", "fillRow", "([II)V"⟩, prog_1_method_90_code, 3, (Option.none : Option Jvm.ClassFile.FieldType), 2, false, 4),
  (⟨"NameNotes$Sentence", "clear", "()V"⟩, prog_7_method_2_code, 1, (Option.none : Option Jvm.ClassFile.FieldType), 0, true, 4),
  (⟨"NameNotes$Tape", "open", "(I)V"⟩, prog_10_method_4_code, 2, (Option.none : Option Jvm.ClassFile.FieldType), 1, true, 4),
  (⟨"NameNotes$Tape", "step", "()V"⟩, prog_10_method_5_code, 2, (Option.none : Option Jvm.ClassFile.FieldType), 0, true, 4),
  (⟨"NameNotes$Tape", "look", "(I)I"⟩, prog_10_method_8_code, 2, (Option.some Jvm.ClassFile.FieldType.int), 1, true, 0),
  (⟨"NameNotes$Tape", "isBlank", "(I)Z"⟩, prog_10_method_16_code, 1, (Option.some Jvm.ClassFile.FieldType.boolean), 1, false, 1),
  (⟨"NameNotes$Tape", "isLetter", "(I)Z"⟩, prog_10_method_17_code, 1, (Option.some Jvm.ClassFile.FieldType.boolean), 1, false, 1),
  (⟨"NameNotes$Tape", "isDigit", "(I)Z"⟩, prog_10_method_18_code, 1, (Option.some Jvm.ClassFile.FieldType.boolean), 1, false, 1),
  (⟨"NameNotes$Tape", "readRun", "()V"⟩, prog_10_method_6_code, 4, (Option.none : Option Jvm.ClassFile.FieldType), 0, true, 4),
  (⟨"NameNotes$Tape", "withLetter", "(JI)J"⟩, prog_10_method_15_code, 3, (Option.some Jvm.ClassFile.FieldType.long), 2, false, 2),
  (⟨"NameNotes$Tape", "findKeyword", "()V"⟩, prog_10_method_7_code, 2, (Option.none : Option Jvm.ClassFile.FieldType), 0, true, 4),
  (⟨"NameNotes$Tape", "isSign", "(I)Z"⟩, prog_10_method_19_code, 1, (Option.some Jvm.ClassFile.FieldType.boolean), 1, false, 1),
  (⟨"NameNotes$StudioReader", "readLine", "()Z"⟩, prog_9_method_3_code, 1, (Option.some Jvm.ClassFile.FieldType.boolean), 0, true, 1),
  (⟨"NameNotes$Tape", "isWord", "(LNameNotes$Word;)Z"⟩, prog_10_method_10_code, 2, (Option.some Jvm.ClassFile.FieldType.boolean), 1, true, 1),
  (⟨"NameNotes$StudioReader", "readTune", "()Z"⟩, prog_9_method_4_code, 4, (Option.some Jvm.ClassFile.FieldType.boolean), 0, true, 1),
  (⟨"NameNotes$Tape", "refuse", "(I)Z"⟩, prog_10_method_14_code, 2, (Option.some Jvm.ClassFile.FieldType.boolean), 1, true, 1),
  (⟨"NameNotes$StudioReader", "isNewName", "()Z"⟩, prog_9_method_12_code, 2, (Option.some Jvm.ClassFile.FieldType.boolean), 0, true, 1),
  (⟨"NameNotes$Tape", "isName", "()Z"⟩, prog_10_method_9_code, 1, (Option.some Jvm.ClassFile.FieldType.boolean), 0, true, 1),
  (⟨"NameNotes$StudioReader", "isIn", "([JI)Z"⟩, prog_9_method_13_code, 4, (Option.some Jvm.ClassFile.FieldType.boolean), 2, true, 1),
  (⟨"NameNotes", "put", "([JIJ)V"⟩, prog_1_method_87_code, 4, (Option.none : Option Jvm.ClassFile.FieldType), 3, false, 4),
  (⟨"NameNotes", "put", "([III)V"⟩, prog_1_method_86_code, 3, (Option.none : Option Jvm.ClassFile.FieldType), 3, false, 4),
  (⟨"NameNotes$StudioReader", "readNote", "(I)Z"⟩, prog_9_method_5_code, 3, (Option.some Jvm.ClassFile.FieldType.boolean), 1, true, 1),
  (⟨"NameNotes", "at", "([II)I"⟩, prog_1_method_84_code, 2, (Option.some Jvm.ClassFile.FieldType.int), 2, false, 0),
  (⟨"NameNotes$Tape", "needNumber", "(II)Z"⟩, prog_10_method_12_code, 3, (Option.some Jvm.ClassFile.FieldType.boolean), 2, true, 1),
  (⟨"NameNotes$StudioReader", "readClue", "()Z"⟩, prog_9_method_6_code, 4, (Option.some Jvm.ClassFile.FieldType.boolean), 0, true, 1),
  (⟨"NameNotes$StudioReader", "readLeft", "(I)Z"⟩, prog_9_method_7_code, 4, (Option.some Jvm.ClassFile.FieldType.boolean), 1, true, 1),
  (⟨"NameNotes$Tape", "seek", "([JI)I"⟩, prog_10_method_11_code, 4, (Option.some Jvm.ClassFile.FieldType.int), 2, true, 0),
  (⟨"NameNotes", "has", "(II)Z"⟩, prog_1_method_80_code, 2, (Option.some Jvm.ClassFile.FieldType.boolean), 2, false, 1),
  (⟨"NameNotes$StudioReader", "readPerson", "()Z"⟩, prog_9_method_8_code, 2, (Option.some Jvm.ClassFile.FieldType.boolean), 0, true, 1),
  (⟨"NameNotes$StudioReader", "readKnows", "()Z"⟩, prog_9_method_9_code, 5, (Option.some Jvm.ClassFile.FieldType.boolean), 0, true, 1),
  (⟨"NameNotes$Studio", "setNinth", "(III)V"⟩, prog_8_method_14_code, 4, (Option.none : Option Jvm.ClassFile.FieldType), 3, true, 4),
  (⟨"NameNotes$StudioReader", "readDare", "()Z"⟩, prog_9_method_10_code, 2, (Option.some Jvm.ClassFile.FieldType.boolean), 0, true, 1),
  (⟨"NameNotes$StudioReader", "readFrom", "()Z"⟩, prog_9_method_11_code, 1, (Option.some Jvm.ClassFile.FieldType.boolean), 0, true, 1)]
def nn_MT_40 : List ab_MR := [
  (⟨"NameNotes$Tape", "takeSign", "(I)Z"⟩, prog_10_method_13_code, 2, (Option.some Jvm.ClassFile.FieldType.boolean), 1, true, 1),
  (⟨"NameNotes$Studio", "compareAll", "()V"⟩, prog_8_method_19_code, 4, (Option.none : Option Jvm.ClassFile.FieldType), 0, true, 4),
  (⟨"NameNotes$Studio", "pair", "(III)I"⟩, prog_8_method_21_code, 3, (Option.some Jvm.ClassFile.FieldType.int), 3, false, 0),
  (⟨"NameNotes$Studio", "countShared", "(III)I"⟩, prog_8_method_20_code, 6, (Option.some Jvm.ClassFile.FieldType.int), 3, true, 0),
  (⟨"NameNotes$Studio", "sameNote", "(IIII)Z"⟩, prog_8_method_17_code, 7, (Option.some Jvm.ClassFile.FieldType.boolean), 4, true, 1),
  (⟨"NameNotes$Studio", "hasNote", "(II)Z"⟩, prog_8_method_10_code, 3, (Option.some Jvm.ClassFile.FieldType.boolean), 2, true, 1),
  (⟨"NameNotes$Studio", "isTune", "(I)Z"⟩, prog_8_method_4_code, 2, (Option.some Jvm.ClassFile.FieldType.boolean), 1, true, 1),
  (⟨"NameNotes$Studio", "pitch", "(II)I"⟩, prog_8_method_11_code, 3, (Option.some Jvm.ClassFile.FieldType.int), 2, true, 0),
  (⟨"NameNotes$Studio", "beat", "(II)I"⟩, prog_8_method_12_code, 3, (Option.some Jvm.ClassFile.FieldType.int), 2, true, 0),
  (⟨"NameNotes$Studio", "copy", "(LNameNotes$Studio;)V"⟩, prog_8_method_3_code, 2, (Option.none : Option Jvm.ClassFile.FieldType), 1, true, 4),
  (⟨"NameNotes", "copyRow", "([I[I)V"⟩, prog_1_method_88_code, 3, (Option.none : Option Jvm.ClassFile.FieldType), 2, false, 4),
  (⟨"NameNotes", "copyRow", "([J[J)V"⟩, prog_1_method_89_code, 3, (Option.none : Option Jvm.ClassFile.FieldType), 2, false, 4),
  (⟨"NameNotes$Sentence", "copy", "(LNameNotes$Sentence;)V"⟩, prog_7_method_3_code, 2, (Option.none : Option Jvm.ClassFile.FieldType), 1, true, 4),
  (⟨"NameNotes", "fault", "()I"⟩, prog_1_method_5_code, 1, (Option.some Jvm.ClassFile.FieldType.int), 0, true, 0),
  (⟨"NameNotes", "note", "(III)I"⟩, prog_1_method_6_code, 4, (Option.some Jvm.ClassFile.FieldType.int), 3, true, 0),
  (⟨"NameNotes", "isPart", "(I)Z"⟩, prog_1_method_77_code, 1, (Option.some Jvm.ClassFile.FieldType.boolean), 1, false, 1),
  (⟨"NameNotes", "tune", "(II)I"⟩, prog_1_method_7_code, 3, (Option.some Jvm.ClassFile.FieldType.int), 2, true, 0),
  (⟨"NameNotes", "isMeasure", "(I)Z"⟩, prog_1_method_74_code, 1, (Option.some Jvm.ClassFile.FieldType.boolean), 1, false, 1),
  (⟨"NameNotes$Studio", "measure", "(II)I"⟩, prog_8_method_15_code, 8, (Option.some Jvm.ClassFile.FieldType.int), 2, true, 0),
  (⟨"java/lang/Math", "max", "(II)I"⟩, prog_21_method_65_code, 2, (Option.some Jvm.ClassFile.FieldType.int), 2, false, 0),
  (⟨"java/lang/Math", "min", "(II)I"⟩, prog_21_method_69_code, 2, (Option.some Jvm.ClassFile.FieldType.int), 2, false, 0),
  (⟨"NameNotes", "when", "(II)I"⟩, prog_1_method_8_code, 5, (Option.some Jvm.ClassFile.FieldType.int), 2, true, 0),
  (⟨"NameNotes", "clue", "(I)I"⟩, prog_1_method_9_code, 2, (Option.some Jvm.ClassFile.FieldType.int), 1, true, 0),
  (⟨"NameNotes$Studio", "isClue", "(I)Z"⟩, prog_8_method_5_code, 2, (Option.some Jvm.ClassFile.FieldType.boolean), 1, true, 1),
  (⟨"NameNotes$Studio", "setOf", "(I)I"⟩, prog_8_method_8_code, 2, (Option.some Jvm.ClassFile.FieldType.int), 1, true, 0),
  (⟨"NameNotes$Studio", "allTunes", "()I"⟩, prog_8_method_9_code, 1, (Option.some Jvm.ClassFile.FieldType.int), 0, true, 0),
  (⟨"NameNotes", "knows", "(II)I"⟩, prog_1_method_10_code, 3, (Option.some Jvm.ClassFile.FieldType.int), 2, true, 0),
  (⟨"NameNotes$Studio", "isPerson", "(I)Z"⟩, prog_8_method_6_code, 2, (Option.some Jvm.ClassFile.FieldType.boolean), 1, true, 1),
  (⟨"NameNotes$Studio", "ninth", "(II)I"⟩, prog_8_method_13_code, 3, (Option.some Jvm.ClassFile.FieldType.int), 2, true, 0),
  (⟨"NameNotes", "dare", "(I)I"⟩, prog_1_method_11_code, 2, (Option.some Jvm.ClassFile.FieldType.int), 1, true, 0),
  (⟨"NameNotes", "begins", "(IIII)I"⟩, prog_1_method_12_code, 5, (Option.some Jvm.ClassFile.FieldType.int), 4, true, 0),
  (⟨"NameNotes", "isBid", "(I)Z"⟩, prog_1_method_72_code, 1, (Option.some Jvm.ClassFile.FieldType.boolean), 1, false, 1),
  (⟨"NameNotes", "isHow", "(I)Z"⟩, prog_1_method_73_code, 1, (Option.some Jvm.ClassFile.FieldType.boolean), 1, false, 1),
  (⟨"NameNotes$Studio", "isChoice", "(I)Z"⟩, prog_8_method_7_code, 2, (Option.some Jvm.ClassFile.FieldType.boolean), 1, true, 1),
  (⟨"NameNotes$Studio", "likes", "(IIII)I"⟩, prog_8_method_23_code, 7, (Option.some Jvm.ClassFile.FieldType.int), 4, true, 0),
  (⟨"NameNotes$Studio", "sharedNotes", "(III)I"⟩, prog_8_method_22_code, 4, (Option.some Jvm.ClassFile.FieldType.int), 3, true, 0),
  (⟨"NameNotes", "parts", "(III)I"⟩, prog_1_method_13_code, 7, (Option.some Jvm.ClassFile.FieldType.int), 3, true, 0),
  (⟨"NameNotes", "isLeast", "(II)Z"⟩, prog_1_method_81_code, 2, (Option.some Jvm.ClassFile.FieldType.boolean), 2, false, 1),
  (⟨"NameNotes", "enough", "(III)I"⟩, prog_1_method_14_code, 4, (Option.some Jvm.ClassFile.FieldType.int), 3, true, 0),
  (⟨"NameNotes$Studio", "fewestNotes", "(III)I"⟩, prog_8_method_24_code, 5, (Option.some Jvm.ClassFile.FieldType.int), 3, true, 0)]
def nn_MT_80 : List ab_MR := [
  (⟨"NameNotes", "needs", "(III)I"⟩, prog_1_method_17_code, 5, (Option.some Jvm.ClassFile.FieldType.int), 3, true, 0),
  (⟨"NameNotes", "isNinth", "(I)Z"⟩, prog_1_method_75_code, 1, (Option.some Jvm.ClassFile.FieldType.boolean), 1, false, 1),
  (⟨"NameNotes", "chanceOf", "(III)J"⟩, prog_1_method_65_code, 4, (Option.some Jvm.ClassFile.FieldType.long), 3, true, 2),
  (⟨"NameNotes$Ear", "group", "(LNameNotes$Studio;II)V"⟩, prog_3_method_2_code, 5, (Option.none : Option Jvm.ClassFile.FieldType), 3, true, 4),
  (⟨"NameNotes$Ear", "listen", "(LNameNotes$Studio;II)V"⟩, prog_3_method_3_code, 5, (Option.none : Option Jvm.ClassFile.FieldType), 3, true, 4),
  (⟨"NameNotes$Ear", "chance", "()J"⟩, prog_3_method_6_code, 4, (Option.some Jvm.ClassFile.FieldType.long), 0, true, 2),
  (⟨"NameNotes$Ear", "knowsAny", "(I)J"⟩, prog_3_method_7_code, 6, (Option.some Jvm.ClassFile.FieldType.long), 1, true, 2),
  (⟨"NameNotes", "at", "([JI)J"⟩, prog_1_method_85_code, 2, (Option.some Jvm.ClassFile.FieldType.long), 2, false, 2),
  (⟨"java/lang/Integer", "bitCount", "(I)I"⟩, prog_20_method_49_code, 1, (Option.some Jvm.ClassFile.FieldType.int), 1, false, 0),
  (⟨"NameNotes", "reaches", "(JI)Z"⟩, prog_1_method_78_code, 3, (Option.some Jvm.ClassFile.FieldType.boolean), 2, false, 1),
  (⟨"NameNotes", "best", "(IIII)I"⟩, prog_1_method_18_code, 5, (Option.some Jvm.ClassFile.FieldType.int), 4, true, 0),
  (⟨"NameNotes", "canBid", "(IIII)Z"⟩, prog_1_method_62_code, 5, (Option.some Jvm.ClassFile.FieldType.boolean), 4, true, 1),
  (⟨"NameNotes", "weigh", "(III)V"⟩, prog_1_method_66_code, 4, (Option.none : Option Jvm.ClassFile.FieldType), 3, true, 4),
  (⟨"NameNotes$Duel", "hear", "(LNameNotes$Studio;LNameNotes$Ear;III)V"⟩, prog_2_method_2_code, 7, (Option.none : Option Jvm.ClassFile.FieldType), 5, true, 4),
  (⟨"NameNotes$Duel", "doBest", "(I)V"⟩, prog_2_method_3_code, 3, (Option.none : Option Jvm.ClassFile.FieldType), 1, true, 4),
  (⟨"NameNotes$Duel", "speakBest", "(III)V"⟩, prog_2_method_4_code, 11, (Option.none : Option Jvm.ClassFile.FieldType), 3, true, 4),
  (⟨"NameNotes$Duel", "move", "(II)I"⟩, prog_2_method_8_code, 3, (Option.some Jvm.ClassFile.FieldType.int), 2, true, 0),
  (⟨"NameNotes", "reply", "(IIII)I"⟩, prog_1_method_20_code, 5, (Option.some Jvm.ClassFile.FieldType.int), 4, true, 0),
  (⟨"NameNotes", "counter", "(III)V"⟩, prog_1_method_67_code, 4, (Option.none : Option Jvm.ClassFile.FieldType), 3, true, 4),
  (⟨"NameNotes$Duel", "doAgainst", "(II)V"⟩, prog_2_method_5_code, 4, (Option.none : Option Jvm.ClassFile.FieldType), 2, true, 4),
  (⟨"NameNotes$Duel", "speakAgainst", "(III)V"⟩, prog_2_method_6_code, 11, (Option.none : Option Jvm.ClassFile.FieldType), 3, true, 4),
  (⟨"NameNotes", "fair", "(III)I"⟩, prog_1_method_22_code, 8, (Option.some Jvm.ClassFile.FieldType.int), 3, true, 0),
  (⟨"NameNotes$Duel", "value", "(II)J"⟩, prog_2_method_7_code, 3, (Option.some Jvm.ClassFile.FieldType.long), 2, true, 2),
  (⟨"NameNotes", "low", "(III)I"⟩, prog_1_method_25_code, 4, (Option.some Jvm.ClassFile.FieldType.int), 3, true, 0),
  (⟨"NameNotes$Duel", "lastBid", "()I"⟩, prog_2_method_9_code, 5, (Option.some Jvm.ClassFile.FieldType.int), 0, true, 0),
  (⟨"NameNotes", "lowest", "(II)I"⟩, prog_1_method_26_code, 7, (Option.some Jvm.ClassFile.FieldType.int), 2, true, 0),
  (⟨"NameNotes", "closest", "(II)I"⟩, prog_1_method_27_code, 9, (Option.some Jvm.ClassFile.FieldType.int), 2, true, 0),
  (⟨"java/lang/Math", "abs", "(J)J"⟩, prog_21_method_61_code, 2, (Option.some Jvm.ClassFile.FieldType.long), 1, false, 2),
  (⟨"NameNotes", "play", "(III)I"⟩, prog_1_method_28_code, 7, (Option.some Jvm.ClassFile.FieldType.int), 3, true, 0),
  (⟨"NameNotes$Text", "clear", "()V"⟩, prog_11_method_2_code, 1, (Option.none : Option Jvm.ClassFile.FieldType), 0, true, 4),
  (⟨"NameNotes$Text", "addWord", "(Ljava/lang/String;)V"⟩, prog_11_method_4_code, 3, (Option.none : Option Jvm.ClassFile.FieldType), 1, true, 4),
  (⟨"java/lang/String", "length", "()I"⟩, prog_23_method_54_code, 1, (Option.some Jvm.ClassFile.FieldType.int), 0, true, 0),
  (⟨"java/lang/String", "coder", "()B"⟩, prog_23_method_152_code, 1, (Option.some Jvm.ClassFile.FieldType.byte), 0, true, 5),
  (⟨"java/lang/String", "charAt", "(I)C"⟩, prog_23_method_56_code, 2, (Option.some Jvm.ClassFile.FieldType.char), 1, true, 6),
  (⟨"java/lang/String", "isLatin1", "()Z"⟩, prog_23_method_154_code, 1, (Option.some Jvm.ClassFile.FieldType.boolean), 0, true, 1),
  (⟨"java/lang/StringLatin1", "charAt", "([BI)C"⟩, prog_24_method_2_code, 2, (Option.some Jvm.ClassFile.FieldType.char), 2, false, 6),
  (⟨"java/lang/String", "checkIndex", "(II)V"⟩, prog_23_method_155_code, 2, (Option.none : Option Jvm.ClassFile.FieldType), 2, false, 4),
  (⟨"jdk/internal/util/Preconditions", "checkIndex", "(IILjava/util/function/BiFunction;)I"⟩, prog_30_method_11_code, 3, (Option.some Jvm.ClassFile.FieldType.int), 3, false, 0),
  (⟨"java/lang/StringUTF16", "charAt", "([BI)C"⟩, prog_25_method_83_code, 2, (Option.some Jvm.ClassFile.FieldType.char), 2, false, 6),
  (⟨"java/lang/StringUTF16", "checkIndex", "(I[B)V"⟩, prog_25_method_91_code, 2, (Option.none : Option Jvm.ClassFile.FieldType), 2, false, 4)]
def nn_MT_120 : List ab_MR := [
  (⟨"java/lang/StringUTF16", "length", "([B)I"⟩, prog_25_method_6_code, 1, (Option.some Jvm.ClassFile.FieldType.int), 1, false, 0),
  (⟨"java/lang/StringUTF16", "getChar", "([BI)C"⟩, prog_25_method_5_code, 2, (Option.some Jvm.ClassFile.FieldType.char), 2, false, 6),
  (⟨"NameNotes$Text", "addSign", "(I)V"⟩, prog_11_method_3_code, 2, (Option.none : Option Jvm.ClassFile.FieldType), 1, true, 4),
  (⟨"NameNotes$Text", "addName", "(J)V"⟩, prog_11_method_5_code, 5, (Option.none : Option Jvm.ClassFile.FieldType), 1, true, 4),
  (⟨"NameNotes", "addSpeaker", "(I)V"⟩, prog_1_method_68_code, 2, (Option.none : Option Jvm.ClassFile.FieldType), 1, true, 4),
  (⟨"NameNotes$Text", "addNumber", "(I)V"⟩, prog_11_method_6_code, 2, (Option.none : Option Jvm.ClassFile.FieldType), 1, true, 4),
  (⟨"NameNotes", "ablest", "(II)I"⟩, prog_1_method_29_code, 9, (Option.some Jvm.ClassFile.FieldType.int), 2, true, 0),
  (⟨"NameNotes", "hardest", "(II)I"⟩, prog_1_method_30_code, 9, (Option.some Jvm.ClassFile.FieldType.int), 2, true, 0),
  (⟨"NameNotes", "learn", "(IIII)I"⟩, prog_1_method_31_code, 12, (Option.some Jvm.ClassFile.FieldType.int), 4, true, 0),
  (⟨"NameNotes", "isFewer", "(II)Z"⟩, prog_1_method_82_code, 2, (Option.some Jvm.ClassFile.FieldType.boolean), 2, false, 1),
  (⟨"NameNotes", "teach", "(III)Z"⟩, prog_1_method_32_code, 4, (Option.some Jvm.ClassFile.FieldType.boolean), 3, true, 1),
  (⟨"NameNotes$Journal", "keep", "(LNameNotes$Studio;I)V"⟩, prog_5_method_2_code, 5, (Option.none : Option Jvm.ClassFile.FieldType), 2, true, 4),
  (⟨"NameNotes", "dares", "(II)Z"⟩, prog_1_method_33_code, 3, (Option.some Jvm.ClassFile.FieldType.boolean), 2, true, 1),
  (⟨"NameNotes", "undo", "()I"⟩, prog_1_method_34_code, 1, (Option.some Jvm.ClassFile.FieldType.int), 0, true, 0),
  (⟨"NameNotes$Journal", "takeBack", "(LNameNotes$Studio;)V"⟩, prog_5_method_3_code, 5, (Option.none : Option Jvm.ClassFile.FieldType), 1, true, 4),
  (⟨"NameNotes", "bold", "(IIII)I"⟩, prog_1_method_36_code, 5, (Option.some Jvm.ClassFile.FieldType.int), 4, true, 0),
  (⟨"NameNotes", "isScore", "(I)Z"⟩, prog_1_method_76_code, 1, (Option.some Jvm.ClassFile.FieldType.boolean), 1, false, 1),
  (⟨"NameNotes", "scoreAll", "(IIZ)V"⟩, prog_1_method_69_code, 9, (Option.none : Option Jvm.ClassFile.FieldType), 3, true, 4),
  (⟨"NameNotes", "scored", "(II)I"⟩, prog_1_method_70_code, 3, (Option.some Jvm.ClassFile.FieldType.int), 2, true, 0),
  (⟨"NameNotes", "lessons", "(IIII)I"⟩, prog_1_method_38_code, 8, (Option.some Jvm.ClassFile.FieldType.int), 4, true, 0),
  (⟨"NameNotes", "copies", "(II)I"⟩, prog_1_method_39_code, 5, (Option.some Jvm.ClassFile.FieldType.int), 2, true, 0),
  (⟨"NameNotes", "twins", "(IIII)I"⟩, prog_1_method_40_code, 10, (Option.some Jvm.ClassFile.FieldType.int), 4, true, 0),
  (⟨"NameNotes", "alike", "(III)I"⟩, prog_1_method_41_code, 4, (Option.some Jvm.ClassFile.FieldType.int), 3, true, 0),
  (⟨"NameNotes", "apart", "(II)I"⟩, prog_1_method_42_code, 3, (Option.some Jvm.ClassFile.FieldType.int), 2, true, 0),
  (⟨"NameNotes", "distance", "(II)I"⟩, prog_1_method_71_code, 10, (Option.some Jvm.ClassFile.FieldType.int), 2, true, 0),
  (⟨"NameNotes$Studio", "isOneNote", "(IIII)Z"⟩, prog_8_method_18_code, 5, (Option.some Jvm.ClassFile.FieldType.boolean), 4, true, 1),
  (⟨"NameNotes", "nearest", "(II)I"⟩, prog_1_method_43_code, 8, (Option.some Jvm.ClassFile.FieldType.int), 2, true, 0),
  (⟨"NameNotes", "rank", "(II)I"⟩, prog_1_method_44_code, 7, (Option.some Jvm.ClassFile.FieldType.int), 2, true, 0),
  (⟨"java/lang/Integer", "compare", "(II)I"⟩, prog_20_method_40_code, 2, (Option.some Jvm.ClassFile.FieldType.int), 2, false, 0),
  (⟨"NameNotes", "commonest", "()I"⟩, prog_1_method_45_code, 5, (Option.some Jvm.ClassFile.FieldType.int), 0, true, 0),
  (⟨"NameNotes$Studio", "timesOf", "(I)I"⟩, prog_8_method_16_code, 5, (Option.some Jvm.ClassFile.FieldType.int), 1, true, 0),
  (⟨"NameNotes", "cover", "()I"⟩, prog_1_method_46_code, 5, (Option.some Jvm.ClassFile.FieldType.int), 0, true, 0),
  (⟨"NameNotes", "evening", "()I"⟩, prog_1_method_47_code, 2, (Option.some Jvm.ClassFile.FieldType.int), 0, true, 0),
  (⟨"NameNotes$Evening", "read", "(LNameNotes$Tape;LNameNotes$Studio;)Z"⟩, prog_4_method_2_code, 5, (Option.some Jvm.ClassFile.FieldType.boolean), 2, true, 1),
  (⟨"NameNotes$Evening", "readLine", "(LNameNotes$Tape;LNameNotes$Studio;)Z"⟩, prog_4_method_3_code, 5, (Option.some Jvm.ClassFile.FieldType.boolean), 2, true, 1),
  (⟨"NameNotes$Evening", "judge", "(LNameNotes$Studio;)I"⟩, prog_4_method_4_code, 6, (Option.some Jvm.ClassFile.FieldType.int), 1, true, 0),
  (⟨"NameNotes$Evening", "whyWrong", "(III)I"⟩, prog_4_method_5_code, 6, (Option.some Jvm.ClassFile.FieldType.int), 3, true, 0),
  (⟨"NameNotes", "heard", "(I)I"⟩, prog_1_method_48_code, 2, (Option.some Jvm.ClassFile.FieldType.int), 1, true, 0),
  (⟨"NameNotes", "night", "(III)I"⟩, prog_1_method_50_code, 4, (Option.some Jvm.ClassFile.FieldType.int), 3, true, 0),
  (⟨"NameNotes", "canSpendNight", "(II)Z"⟩, prog_1_method_63_code, 3, (Option.some Jvm.ClassFile.FieldType.boolean), 2, true, 1)]
def nn_MT_160 : List ab_MR := [
  (⟨"NameNotes$Night", "spend", "(LNameNotes$Studio;III)V"⟩, prog_6_method_2_code, 6, (Option.none : Option Jvm.ClassFile.FieldType), 4, true, 4),
  (⟨"NameNotes$Night", "spendRound", "(LNameNotes$Studio;I)V"⟩, prog_6_method_4_code, 10, (Option.none : Option Jvm.ClassFile.FieldType), 2, true, 4),
  (⟨"NameNotes$Night", "draw", "(I)I"⟩, prog_6_method_8_code, 2, (Option.some Jvm.ClassFile.FieldType.int), 1, true, 0),
  (⟨"NameNotes$Night", "drawTune", "(I)I"⟩, prog_6_method_7_code, 2, (Option.some Jvm.ClassFile.FieldType.int), 1, true, 0),
  (⟨"NameNotes", "nth", "(II)I"⟩, prog_1_method_83_code, 4, (Option.some Jvm.ClassFile.FieldType.int), 2, false, 0),
  (⟨"NameNotes$Night", "drawKnown", "(LNameNotes$Studio;II)V"⟩, prog_6_method_5_code, 6, (Option.none : Option Jvm.ClassFile.FieldType), 3, true, 4),
  (⟨"NameNotes$Night", "wouldBid", "(LNameNotes$Studio;III)Z"⟩, prog_6_method_6_code, 7, (Option.some Jvm.ClassFile.FieldType.boolean), 4, true, 1),
  (⟨"NameNotes$Night", "firstWins", "()Z"⟩, prog_6_method_3_code, 1, (Option.some Jvm.ClassFile.FieldType.boolean), 0, true, 1),
  (⟨"NameNotes", "nightly", "(I)I"⟩, prog_1_method_51_code, 2, (Option.some Jvm.ClassFile.FieldType.int), 1, true, 0),
  (⟨"NameNotes", "nights", "(IIII)I"⟩, prog_1_method_52_code, 7, (Option.some Jvm.ClassFile.FieldType.int), 4, true, 0),
  (⟨"NameNotes", "write", "(I)I"⟩, prog_1_method_53_code, 3, (Option.some Jvm.ClassFile.FieldType.int), 1, true, 0),
  (⟨"NameNotes", "byteAt", "(I)I"⟩, prog_1_method_54_code, 2, (Option.some Jvm.ClassFile.FieldType.int), 1, true, 0),
  (⟨"NameNotes", "sentence", "()I"⟩, prog_1_method_55_code, 2, (Option.some Jvm.ClassFile.FieldType.int), 0, true, 0),
  (⟨"NameNotes$Sentence", "read", "(LNameNotes$Tape;LNameNotes$Studio;)Z"⟩, prog_7_method_4_code, 3, (Option.some Jvm.ClassFile.FieldType.boolean), 2, true, 1),
  (⟨"NameNotes$Sentence", "readCond", "(LNameNotes$Tape;LNameNotes$Studio;I)Z"⟩, prog_7_method_5_code, 8, (Option.some Jvm.ClassFile.FieldType.boolean), 3, true, 1),
  (⟨"NameNotes$Sentence", "readOne", "(LNameNotes$Tape;LNameNotes$Studio;I)Z"⟩, prog_7_method_6_code, 7, (Option.some Jvm.ClassFile.FieldType.boolean), 3, true, 1),
  (⟨"NameNotes$Sentence", "kindOf", "(LNameNotes$Tape;)I"⟩, prog_7_method_9_code, 1, (Option.some Jvm.ClassFile.FieldType.int), 1, false, 0),
  (⟨"NameNotes$Sentence", "addStep", "(II)V"⟩, prog_7_method_10_code, 3, (Option.none : Option Jvm.ClassFile.FieldType), 2, true, 4),
  (⟨"NameNotes$Sentence", "readNamed", "(LNameNotes$Tape;LNameNotes$Studio;I)Z"⟩, prog_7_method_7_code, 5, (Option.some Jvm.ClassFile.FieldType.boolean), 3, true, 1),
  (⟨"NameNotes$Sentence", "readMeasured", "(LNameNotes$Tape;I)Z"⟩, prog_7_method_8_code, 4, (Option.some Jvm.ClassFile.FieldType.boolean), 2, true, 1),
  (⟨"NameNotes", "said", "(I)I"⟩, prog_1_method_56_code, 3, (Option.some Jvm.ClassFile.FieldType.int), 1, true, 0),
  (⟨"NameNotes$Sentence", "holding", "(LNameNotes$Studio;)I"⟩, prog_7_method_11_code, 7, (Option.some Jvm.ClassFile.FieldType.int), 1, true, 0),
  (⟨"NameNotes$Sentence", "oneSet", "(LNameNotes$Studio;II)I"⟩, prog_7_method_12_code, 6, (Option.some Jvm.ClassFile.FieldType.int), 3, false, 0),
  (⟨"NameNotes$Sentence", "holdsMeasure", "(LNameNotes$Studio;III)Z"⟩, prog_7_method_13_code, 6, (Option.some Jvm.ClassFile.FieldType.boolean), 4, false, 1),
  (⟨"NameNotes", "image", "(I)Z"⟩, prog_1_method_57_code, 3, (Option.some Jvm.ClassFile.FieldType.boolean), 1, true, 1),
  (⟨"NameNotes", "imageAt", "(I)LNameNotes$Studio;"⟩, prog_1_method_60_code, 2, (Option.some (Jvm.ClassFile.FieldType.object "NameNotes$Studio")), 1, true, 3),
  (⟨"NameNotes", "restore", "(I)Z"⟩, prog_1_method_58_code, 3, (Option.some Jvm.ClassFile.FieldType.boolean), 1, true, 1),
  (⟨"NameNotes", "count", "(I)I"⟩, prog_1_method_59_code, 2, (Option.some Jvm.ClassFile.FieldType.int), 1, true, 0),
  (⟨"NameNotes", "named", "(IIIII)J"⟩, prog_1_method_15_code, 6, (Option.some Jvm.ClassFile.FieldType.long), 5, true, 2),
  (⟨"NameNotes", "canName", "(IIII)Z"⟩, prog_1_method_61_code, 5, (Option.some Jvm.ClassFile.FieldType.boolean), 4, true, 1),
  (⟨"NameNotes", "rightChance", "(IIII)J"⟩, prog_1_method_64_code, 5, (Option.some Jvm.ClassFile.FieldType.long), 4, true, 2),
  (⟨"NameNotes$Ear", "right", "(I)J"⟩, prog_3_method_4_code, 7, (Option.some Jvm.ClassFile.FieldType.long), 1, true, 2),
  (⟨"NameNotes$Ear", "addOther", "(I)V"⟩, prog_3_method_5_code, 3, (Option.none : Option Jvm.ClassFile.FieldType), 1, true, 4),
  (⟨"NameNotes", "part", "(JJI)J"⟩, prog_1_method_79_code, 12, (Option.some Jvm.ClassFile.FieldType.long), 3, false, 2),
  (⟨"NameNotes", "odds", "(IIII)J"⟩, prog_1_method_16_code, 5, (Option.some Jvm.ClassFile.FieldType.long), 4, true, 2),
  (⟨"NameNotes", "worth", "(IIIII)J"⟩, prog_1_method_19_code, 6, (Option.some Jvm.ClassFile.FieldType.long), 5, true, 2),
  (⟨"NameNotes", "gains", "(IIIII)J"⟩, prog_1_method_21_code, 6, (Option.some Jvm.ClassFile.FieldType.long), 5, true, 2),
  (⟨"NameNotes", "held", "(IIIIII)J"⟩, prog_1_method_23_code, 11, (Option.some Jvm.ClassFile.FieldType.long), 6, true, 2),
  (⟨"NameNotes", "among", "(IIII)J"⟩, prog_1_method_24_code, 5, (Option.some Jvm.ClassFile.FieldType.long), 4, true, 2),
  (⟨"NameNotes", "match", "(IIII)J"⟩, prog_1_method_35_code, 5, (Option.some Jvm.ClassFile.FieldType.long), 4, true, 2)]
def nn_MT_200 : List ab_MR := [
  (⟨"NameNotes", "bolder", "(IIIII)J"⟩, prog_1_method_37_code, 6, (Option.some Jvm.ClassFile.FieldType.long), 5, true, 2),
  (⟨"NameNotes", "told", "(I)J"⟩, prog_1_method_49_code, 4, (Option.some Jvm.ClassFile.FieldType.long), 1, true, 2),
  (⟨"NameNotes$Evening", "isNaming", "()Z"⟩, prog_4_method_6_code, 1, (Option.some Jvm.ClassFile.FieldType.boolean), 0, true, 1),
  (⟨"NameNotes$Evening", "bidder", "()I"⟩, prog_4_method_7_code, 1, (Option.some Jvm.ClassFile.FieldType.int), 0, true, 0),
  (⟨"NameNotes$Evening", "bid", "()I"⟩, prog_4_method_8_code, 1, (Option.some Jvm.ClassFile.FieldType.int), 0, true, 0),
  (⟨"NameNotesModel", "feed", "(IIIII)I"⟩, prog_14_method_5_code, 6, (Option.some Jvm.ClassFile.FieldType.int), 5, true, 0),
  (⟨"NameNotesModel", "come", "(I)V"⟩, prog_14_method_4_code, 3, (Option.none : Option Jvm.ClassFile.FieldType), 1, true, 4),
  (⟨"NameNotesModel", "end", "(I)Z"⟩, prog_14_method_6_code, 2, (Option.some Jvm.ClassFile.FieldType.boolean), 1, true, 1),
  (⟨"NameNotesModel", "studio", "()I"⟩, prog_14_method_39_code, 3, (Option.some Jvm.ClassFile.FieldType.int), 0, true, 0),
  (⟨"NameNotesModel", "begin", "(I)V"⟩, prog_14_method_27_code, 2, (Option.none : Option Jvm.ClassFile.FieldType), 1, true, 4),
  (⟨"NameNotesModel", "lay", "()V"⟩, prog_14_method_28_code, 1, (Option.none : Option Jvm.ClassFile.FieldType), 0, true, 4),
  (⟨"NameNotesModel", "take", "()I"⟩, prog_14_method_7_code, 2, (Option.some Jvm.ClassFile.FieldType.int), 0, true, 0),
  (⟨"NameNotesModel", "go", "()V"⟩, prog_14_method_17_code, 5, (Option.none : Option Jvm.ClassFile.FieldType), 0, true, 4),
  (⟨"NameNotesModel", "isLetter", "(I)Z"⟩, prog_14_method_16_code, 1, (Option.some Jvm.ClassFile.FieldType.boolean), 1, false, 1),
  (⟨"NameNotesModel", "isDigit", "(I)Z"⟩, prog_14_method_15_code, 1, (Option.some Jvm.ClassFile.FieldType.boolean), 1, false, 1),
  (⟨"NameNotesModel", "tapeAt", "(I)I"⟩, prog_14_method_14_code, 2, (Option.some Jvm.ClassFile.FieldType.int), 1, true, 0),
  (⟨"NameNotesModel", "readLine", "()Z"⟩, prog_14_method_38_code, 2, (Option.some Jvm.ClassFile.FieldType.boolean), 0, true, 1),
  (⟨"NameNotesModel", "isWord", "(I)Z"⟩, prog_14_method_20_code, 2, (Option.some Jvm.ClassFile.FieldType.boolean), 1, true, 1),
  (⟨"NameNotesModel", "wordOf", "(I)J"⟩, prog_14_method_19_code, 1, (Option.some Jvm.ClassFile.FieldType.long), 1, false, 2),
  (⟨"NameNotesModel", "spelt", "(IIIIII)J"⟩, prog_14_method_18_code, 8, (Option.some Jvm.ClassFile.FieldType.long), 6, false, 2),
  (⟨"NameNotesModel", "readTune", "()Z"⟩, prog_14_method_32_code, 3, (Option.some Jvm.ClassFile.FieldType.boolean), 0, true, 1),
  (⟨"NameNotesModel", "bad", "(I)Z"⟩, prog_14_method_23_code, 2, (Option.some Jvm.ClassFile.FieldType.boolean), 1, true, 1),
  (⟨"NameNotesModel", "readNew", "(I)Z"⟩, prog_14_method_30_code, 3, (Option.some Jvm.ClassFile.FieldType.boolean), 1, true, 1),
  (⟨"NameNotesModel", "isName", "()Z"⟩, prog_14_method_22_code, 2, (Option.some Jvm.ClassFile.FieldType.boolean), 0, true, 1),
  (⟨"NameNotesModel", "findIn", "([JIIJ)I"⟩, prog_14_method_29_code, 6, (Option.some Jvm.ClassFile.FieldType.int), 4, false, 0),
  (⟨"NameNotesModel", "isNumber", "(II)Z"⟩, prog_14_method_24_code, 3, (Option.some Jvm.ClassFile.FieldType.boolean), 2, true, 1),
  (⟨"NameNotesModel", "isIn", "(III)Z"⟩, prog_14_method_8_code, 3, (Option.some Jvm.ClassFile.FieldType.boolean), 3, false, 1),
  (⟨"NameNotesModel", "readNumber", "(II)Z"⟩, prog_14_method_25_code, 3, (Option.some Jvm.ClassFile.FieldType.boolean), 2, true, 1),
  (⟨"NameNotesModel", "readClue", "()Z"⟩, prog_14_method_33_code, 2, (Option.some Jvm.ClassFile.FieldType.boolean), 0, true, 1),
  (⟨"NameNotesModel", "isOne", "(II)Z"⟩, prog_14_method_31_code, 3, (Option.some Jvm.ClassFile.FieldType.boolean), 2, true, 1),
  (⟨"NameNotesModel", "has", "(II)Z"⟩, prog_14_method_9_code, 2, (Option.some Jvm.ClassFile.FieldType.boolean), 2, false, 1),
  (⟨"NameNotesModel", "readPerson", "()Z"⟩, prog_14_method_34_code, 2, (Option.some Jvm.ClassFile.FieldType.boolean), 0, true, 1),
  (⟨"NameNotesModel", "readKnows", "()Z"⟩, prog_14_method_35_code, 3, (Option.some Jvm.ClassFile.FieldType.boolean), 0, true, 1),
  (⟨"NameNotesModel", "readDare", "()Z"⟩, prog_14_method_36_code, 2, (Option.some Jvm.ClassFile.FieldType.boolean), 0, true, 1),
  (⟨"NameNotesModel", "readFrom", "()Z"⟩, prog_14_method_37_code, 1, (Option.some Jvm.ClassFile.FieldType.boolean), 0, true, 1),
  (⟨"NameNotesModel", "readEnd", "()Z"⟩, prog_14_method_26_code, 1, (Option.some Jvm.ClassFile.FieldType.boolean), 0, true, 1),
  (⟨"NameNotesModel", "isSign", "(I)Z"⟩, prog_14_method_21_code, 2, (Option.some Jvm.ClassFile.FieldType.boolean), 1, true, 1),
  (⟨"NameNotesModel", "fault", "()I"⟩, prog_14_method_40_code, 1, (Option.some Jvm.ClassFile.FieldType.int), 0, true, 0),
  (⟨"NameNotesModel", "note", "(III)I"⟩, prog_14_method_49_code, 4, (Option.some Jvm.ClassFile.FieldType.int), 3, true, 0),
  (⟨"NameNotesModel", "isTune", "(I)Z"⟩, prog_14_method_42_code, 2, (Option.some Jvm.ClassFile.FieldType.boolean), 1, true, 1)]
def nn_MT_240 : List ab_MR := [
  (⟨"NameNotesModel", "tunes", "()I"⟩, prog_14_method_41_code, 1, (Option.some Jvm.ClassFile.FieldType.int), 0, true, 0),
  (⟨"NameNotesModel", "notes", "(I)I"⟩, prog_14_method_45_code, 2, (Option.some Jvm.ClassFile.FieldType.int), 1, true, 0),
  (⟨"NameNotesModel", "noteOf", "(III)I"⟩, prog_14_method_46_code, 4, (Option.some Jvm.ClassFile.FieldType.int), 3, true, 0),
  (⟨"NameNotesModel", "tune", "(II)I"⟩, prog_14_method_51_code, 3, (Option.some Jvm.ClassFile.FieldType.int), 2, true, 0),
  (⟨"NameNotesModel", "tell", "(II)I"⟩, prog_14_method_50_code, 6, (Option.some Jvm.ClassFile.FieldType.int), 2, true, 0),
  (⟨"NameNotesModel", "when", "(II)I"⟩, prog_14_method_52_code, 5, (Option.some Jvm.ClassFile.FieldType.int), 2, true, 0),
  (⟨"NameNotesModel", "clue", "(I)I"⟩, prog_14_method_53_code, 2, (Option.some Jvm.ClassFile.FieldType.int), 1, true, 0),
  (⟨"NameNotesModel", "isClue", "(I)Z"⟩, prog_14_method_43_code, 2, (Option.some Jvm.ClassFile.FieldType.boolean), 1, true, 1),
  (⟨"NameNotesModel", "knows", "(II)I"⟩, prog_14_method_55_code, 3, (Option.some Jvm.ClassFile.FieldType.int), 2, true, 0),
  (⟨"NameNotesModel", "isPerson", "(I)Z"⟩, prog_14_method_44_code, 2, (Option.some Jvm.ClassFile.FieldType.boolean), 1, true, 1),
  (⟨"NameNotesModel", "known", "(II)I"⟩, prog_14_method_54_code, 3, (Option.some Jvm.ClassFile.FieldType.int), 2, true, 0),
  (⟨"NameNotesModel", "dare", "(I)I"⟩, prog_14_method_56_code, 2, (Option.some Jvm.ClassFile.FieldType.int), 1, true, 0),
  (⟨"NameNotesModel", "begins", "(IIII)I"⟩, prog_14_method_62_code, 5, (Option.some Jvm.ClassFile.FieldType.int), 4, true, 0),
  (⟨"NameNotesModel", "isHow", "(I)Z"⟩, prog_14_method_61_code, 1, (Option.some Jvm.ClassFile.FieldType.boolean), 1, false, 1),
  (⟨"NameNotesModel", "isLeft", "(I)Z"⟩, prog_14_method_48_code, 2, (Option.some Jvm.ClassFile.FieldType.boolean), 1, true, 1),
  (⟨"NameNotesModel", "left", "(I)I"⟩, prog_14_method_47_code, 2, (Option.some Jvm.ClassFile.FieldType.int), 1, true, 0),
  (⟨"NameNotesModel", "likes", "(IIII)I"⟩, prog_14_method_60_code, 7, (Option.some Jvm.ClassFile.FieldType.int), 4, true, 0),
  (⟨"NameNotesModel", "areLike", "(IIII)Z"⟩, prog_14_method_59_code, 5, (Option.some Jvm.ClassFile.FieldType.boolean), 4, true, 1),
  (⟨"NameNotesModel", "likeNotes", "(III)I"⟩, prog_14_method_58_code, 5, (Option.some Jvm.ClassFile.FieldType.int), 3, true, 0),
  (⟨"NameNotesModel", "isLikeNote", "(IIII)Z"⟩, prog_14_method_57_code, 7, (Option.some Jvm.ClassFile.FieldType.boolean), 4, true, 1),
  (⟨"NameNotesModel", "parts", "(III)I"⟩, prog_14_method_63_code, 6, (Option.some Jvm.ClassFile.FieldType.int), 3, true, 0),
  (⟨"NameNotesModel", "enough", "(III)I"⟩, prog_14_method_65_code, 4, (Option.some Jvm.ClassFile.FieldType.int), 3, true, 0),
  (⟨"NameNotesModel", "enoughOf", "(III)I"⟩, prog_14_method_64_code, 6, (Option.some Jvm.ClassFile.FieldType.int), 3, true, 0),
  (⟨"NameNotesModel", "hardest", "(II)I"⟩, prog_14_method_66_code, 7, (Option.some Jvm.ClassFile.FieldType.int), 2, true, 0),
  (⟨"NameNotesModel", "twins", "(IIII)I"⟩, prog_14_method_67_code, 8, (Option.some Jvm.ClassFile.FieldType.int), 4, true, 0),
  (⟨"NameNotesModel", "alike", "(III)I"⟩, prog_14_method_68_code, 4, (Option.some Jvm.ClassFile.FieldType.int), 3, true, 0),
  (⟨"NameNotesModel", "apart", "(II)I"⟩, prog_14_method_71_code, 3, (Option.some Jvm.ClassFile.FieldType.int), 2, true, 0),
  (⟨"NameNotesModel", "apartOf", "(II)I"⟩, prog_14_method_69_code, 6, (Option.some Jvm.ClassFile.FieldType.int), 2, true, 0),
  (⟨"NameNotesModel", "isLikeNote2", "(IIII)Z"⟩, prog_14_method_70_code, 5, (Option.some Jvm.ClassFile.FieldType.boolean), 4, true, 1),
  (⟨"NameNotesModel", "least", "(II)I"⟩, prog_14_method_11_code, 2, (Option.some Jvm.ClassFile.FieldType.int), 2, false, 0),
  (⟨"NameNotesModel", "nearest", "(II)I"⟩, prog_14_method_72_code, 5, (Option.some Jvm.ClassFile.FieldType.int), 2, true, 0),
  (⟨"NameNotesModel", "rank", "(II)I"⟩, prog_14_method_73_code, 6, (Option.some Jvm.ClassFile.FieldType.int), 2, true, 0),
  (⟨"NameNotesModel", "commonest", "()I"⟩, prog_14_method_74_code, 7, (Option.some Jvm.ClassFile.FieldType.int), 0, true, 0),
  (⟨"NameNotesModel", "cover", "()I"⟩, prog_14_method_75_code, 5, (Option.some Jvm.ClassFile.FieldType.int), 0, true, 0),
  (⟨"NameNotesModel", "bits", "(I)I"⟩, prog_14_method_10_code, 3, (Option.some Jvm.ClassFile.FieldType.int), 1, false, 0),
  (⟨"NameNotesModel", "named", "(IIIII)J"⟩, prog_14_method_81_code, 6, (Option.some Jvm.ClassFile.FieldType.long), 5, true, 2),
  (⟨"NameNotesModel", "isHeard", "(III)Z"⟩, prog_14_method_80_code, 4, (Option.some Jvm.ClassFile.FieldType.boolean), 3, true, 1),
  (⟨"NameNotesModel", "refuse", "()J"⟩, prog_14_method_3_code, 1, (Option.some Jvm.ClassFile.FieldType.long), 0, true, 2),
  (⟨"NameNotesModel", "layMind", "(I)V"⟩, prog_14_method_76_code, 3, (Option.none : Option Jvm.ClassFile.FieldType), 1, true, 4),
  (⟨"NameNotesModel", "namedBy", "(III)J"⟩, prog_14_method_77_code, 9, (Option.some Jvm.ClassFile.FieldType.long), 3, true, 2)]
def nn_MT_280 : List ab_MR := [
  (⟨"NameNotesModel", "part", "(JJI)J"⟩, prog_14_method_13_code, 6, (Option.some Jvm.ClassFile.FieldType.long), 3, true, 2),
  (⟨"NameNotesModel", "common", "(JJ)J"⟩, prog_14_method_12_code, 10, (Option.some Jvm.ClassFile.FieldType.long), 2, false, 2),
  (⟨"NameNotesModel", "odds", "(IIII)J"⟩, prog_14_method_82_code, 5, (Option.some Jvm.ClassFile.FieldType.long), 4, true, 2),
  (⟨"NameNotesModel", "oddsOf", "(III)J"⟩, prog_14_method_79_code, 4, (Option.some Jvm.ClassFile.FieldType.long), 3, true, 2),
  (⟨"NameNotesModel", "oddsBy", "(II)J"⟩, prog_14_method_78_code, 6, (Option.some Jvm.ClassFile.FieldType.long), 2, true, 2),
  (⟨"NameNotesModel", "among", "(IIII)J"⟩, prog_14_method_83_code, 5, (Option.some Jvm.ClassFile.FieldType.long), 4, true, 2),
  (⟨"NameNotesModel", "needs", "(III)I"⟩, prog_14_method_85_code, 5, (Option.some Jvm.ClassFile.FieldType.int), 3, true, 0),
  (⟨"NameNotesModel", "isNines", "(JI)Z"⟩, prog_14_method_84_code, 3, (Option.some Jvm.ClassFile.FieldType.boolean), 2, false, 1),
  (⟨"NameNotesModel", "ablest", "(II)I"⟩, prog_14_method_86_code, 9, (Option.some Jvm.ClassFile.FieldType.int), 2, true, 0),
  (⟨"NameNotesModel", "held", "(IIIIII)J"⟩, prog_14_method_87_code, 9, (Option.some Jvm.ClassFile.FieldType.long), 6, true, 2),
  (⟨"NameNotesModel", "learn", "(IIII)I"⟩, prog_14_method_89_code, 11, (Option.some Jvm.ClassFile.FieldType.int), 4, true, 0),
  (⟨"NameNotesModel", "oddsWith", "(IIII)J"⟩, prog_14_method_88_code, 6, (Option.some Jvm.ClassFile.FieldType.long), 4, true, 2),
  (⟨"NameNotesModel", "lessons", "(IIII)I"⟩, prog_14_method_90_code, 7, (Option.some Jvm.ClassFile.FieldType.int), 4, true, 0),
  (⟨"NameNotesModel", "best", "(IIII)I"⟩, prog_14_method_96_code, 5, (Option.some Jvm.ClassFile.FieldType.int), 4, true, 0),
  (⟨"NameNotesModel", "isSpeech", "(IIII)Z"⟩, prog_14_method_95_code, 5, (Option.some Jvm.ClassFile.FieldType.boolean), 4, true, 1),
  (⟨"NameNotesModel", "isRound", "(III)Z"⟩, prog_14_method_91_code, 4, (Option.some Jvm.ClassFile.FieldType.boolean), 3, true, 1),
  (⟨"NameNotesModel", "layBest", "(III)V"⟩, prog_14_method_94_code, 13, (Option.none : Option Jvm.ClassFile.FieldType), 3, true, 4),
  (⟨"NameNotesModel", "layOdds", "(III)V"⟩, prog_14_method_92_code, 5, (Option.none : Option Jvm.ClassFile.FieldType), 3, true, 4),
  (⟨"NameNotesModel", "highest", "(I)I"⟩, prog_14_method_93_code, 2, (Option.some Jvm.ClassFile.FieldType.int), 1, true, 0),
  (⟨"NameNotesModel", "worth", "(IIIII)J"⟩, prog_14_method_97_code, 6, (Option.some Jvm.ClassFile.FieldType.long), 5, true, 2),
  (⟨"NameNotesModel", "reply", "(IIII)I"⟩, prog_14_method_100_code, 5, (Option.some Jvm.ClassFile.FieldType.int), 4, true, 0),
  (⟨"NameNotesModel", "layReplies", "(III)V"⟩, prog_14_method_99_code, 11, (Option.none : Option Jvm.ClassFile.FieldType), 3, true, 4),
  (⟨"NameNotesModel", "bidGains", "(II)J"⟩, prog_14_method_98_code, 3, (Option.some Jvm.ClassFile.FieldType.long), 2, true, 2),
  (⟨"NameNotesModel", "gains", "(IIIII)J"⟩, prog_14_method_101_code, 6, (Option.some Jvm.ClassFile.FieldType.long), 5, true, 2),
  (⟨"NameNotesModel", "fair", "(III)I"⟩, prog_14_method_102_code, 8, (Option.some Jvm.ClassFile.FieldType.int), 3, true, 0),
  (⟨"NameNotesModel", "low", "(III)I"⟩, prog_14_method_104_code, 4, (Option.some Jvm.ClassFile.FieldType.int), 3, true, 0),
  (⟨"NameNotesModel", "lowOf", "(III)I"⟩, prog_14_method_103_code, 6, (Option.some Jvm.ClassFile.FieldType.int), 3, true, 0),
  (⟨"NameNotesModel", "lowest", "(II)I"⟩, prog_14_method_105_code, 7, (Option.some Jvm.ClassFile.FieldType.int), 2, true, 0),
  (⟨"NameNotesModel", "closest", "(II)I"⟩, prog_14_method_106_code, 9, (Option.some Jvm.ClassFile.FieldType.int), 2, true, 0),
  (⟨"NameNotesModel", "play", "(III)I"⟩, prog_14_method_109_code, 8, (Option.some Jvm.ClassFile.FieldType.int), 3, true, 0),
  (⟨"NameNotesModel", "putName", "(J)V"⟩, prog_14_method_108_code, 6, (Option.none : Option Jvm.ClassFile.FieldType), 1, true, 4),
  (⟨"NameNotesModel", "put", "(I)V"⟩, prog_14_method_107_code, 2, (Option.none : Option Jvm.ClassFile.FieldType), 1, true, 4),
  (⟨"NameNotesModel", "write", "(I)I"⟩, prog_14_method_110_code, 4, (Option.some Jvm.ClassFile.FieldType.int), 1, true, 0),
  (⟨"NameNotesModel", "byteAt", "(I)I"⟩, prog_14_method_111_code, 2, (Option.some Jvm.ClassFile.FieldType.int), 1, true, 0),
  (⟨"NameNotesModel", "undo", "()I"⟩, prog_14_method_113_code, 2, (Option.some Jvm.ClassFile.FieldType.int), 0, true, 0),
  (⟨"NameNotesModel", "teach", "(III)Z"⟩, prog_14_method_114_code, 4, (Option.some Jvm.ClassFile.FieldType.boolean), 3, true, 1),
  (⟨"NameNotesModel", "snap", "()V"⟩, prog_14_method_112_code, 2, (Option.none : Option Jvm.ClassFile.FieldType), 0, true, 4),
  (⟨"NameNotesModel", "dares", "(II)Z"⟩, prog_14_method_115_code, 3, (Option.some Jvm.ClassFile.FieldType.boolean), 2, true, 1),
  (⟨"NameNotesModel", "copies", "(II)I"⟩, prog_14_method_116_code, 5, (Option.some Jvm.ClassFile.FieldType.int), 2, true, 0),
  (⟨"NameNotesModel", "match", "(IIII)J"⟩, prog_14_method_120_code, 5, (Option.some Jvm.ClassFile.FieldType.long), 4, true, 2)]
def nn_MT_320 : List ab_MR := [
  (⟨"NameNotesModel", "isScore", "(III)Z"⟩, prog_14_method_119_code, 3, (Option.some Jvm.ClassFile.FieldType.boolean), 3, false, 1),
  (⟨"NameNotesModel", "layWins", "(II)V"⟩, prog_14_method_118_code, 10, (Option.none : Option Jvm.ClassFile.FieldType), 2, true, 4),
  (⟨"NameNotesModel", "at", "([JII)J"⟩, prog_14_method_117_code, 3, (Option.some Jvm.ClassFile.FieldType.long), 3, false, 2),
  (⟨"NameNotesModel", "bold", "(IIII)I"⟩, prog_14_method_121_code, 5, (Option.some Jvm.ClassFile.FieldType.int), 4, true, 0),
  (⟨"NameNotesModel", "bolder", "(IIIII)J"⟩, prog_14_method_122_code, 6, (Option.some Jvm.ClassFile.FieldType.long), 5, true, 2),
  (⟨"NameNotesModel", "evening", "()I"⟩, prog_14_method_127_code, 1, (Option.some Jvm.ClassFile.FieldType.int), 0, true, 0),
  (⟨"NameNotesModel", "readHeard", "()Z"⟩, prog_14_method_126_code, 1, (Option.some Jvm.ClassFile.FieldType.boolean), 0, true, 1),
  (⟨"NameNotesModel", "readBid", "()Z"⟩, prog_14_method_125_code, 3, (Option.some Jvm.ClassFile.FieldType.boolean), 0, true, 1),
  (⟨"NameNotesModel", "judgeLine", "(II)V"⟩, prog_14_method_124_code, 4, (Option.none : Option Jvm.ClassFile.FieldType), 2, true, 4),
  (⟨"NameNotesModel", "whyNot", "(II)I"⟩, prog_14_method_123_code, 3, (Option.some Jvm.ClassFile.FieldType.int), 2, true, 0),
  (⟨"NameNotesModel", "heard", "(I)I"⟩, prog_14_method_128_code, 2, (Option.some Jvm.ClassFile.FieldType.int), 1, true, 0),
  (⟨"NameNotesModel", "told", "(I)J"⟩, prog_14_method_129_code, 2, (Option.some Jvm.ClassFile.FieldType.long), 1, true, 2),
  (⟨"NameNotesModel", "night", "(III)I"⟩, prog_14_method_136_code, 6, (Option.some Jvm.ClassFile.FieldType.int), 3, true, 0),
  (⟨"NameNotesModel", "isNight", "(II)Z"⟩, prog_14_method_135_code, 3, (Option.some Jvm.ClassFile.FieldType.boolean), 2, true, 1),
  (⟨"NameNotesModel", "nightBy", "(III)I"⟩, prog_14_method_134_code, 5, (Option.some Jvm.ClassFile.FieldType.int), 3, true, 0),
  (⟨"NameNotesModel", "round", "(III)I"⟩, prog_14_method_133_code, 10, (Option.some Jvm.ClassFile.FieldType.int), 3, true, 0),
  (⟨"NameNotesModel", "draw", "(I)I"⟩, prog_14_method_130_code, 2, (Option.some Jvm.ClassFile.FieldType.int), 1, true, 0),
  (⟨"NameNotesModel", "member", "(II)I"⟩, prog_14_method_131_code, 4, (Option.some Jvm.ClassFile.FieldType.int), 2, false, 0),
  (⟨"NameNotesModel", "bids", "(IIIII)Z"⟩, prog_14_method_132_code, 6, (Option.some Jvm.ClassFile.FieldType.boolean), 5, true, 1),
  (⟨"NameNotesModel", "nightly", "(I)I"⟩, prog_14_method_137_code, 2, (Option.some Jvm.ClassFile.FieldType.int), 1, true, 0),
  (⟨"NameNotesModel", "nights", "(IIII)I"⟩, prog_14_method_138_code, 7, (Option.some Jvm.ClassFile.FieldType.int), 4, true, 0),
  (⟨"NameNotesModel", "sentence", "()I"⟩, prog_14_method_147_code, 2, (Option.some Jvm.ClassFile.FieldType.int), 0, true, 0),
  (⟨"NameNotesModel", "readOr", "()Z"⟩, prog_14_method_140_code, 2, (Option.some Jvm.ClassFile.FieldType.boolean), 0, true, 1),
  (⟨"NameNotesModel", "readAnd", "()Z"⟩, prog_14_method_141_code, 2, (Option.some Jvm.ClassFile.FieldType.boolean), 0, true, 1),
  (⟨"NameNotesModel", "readOne", "()Z"⟩, prog_14_method_142_code, 4, (Option.some Jvm.ClassFile.FieldType.boolean), 0, true, 1),
  (⟨"NameNotesModel", "readBracket", "()Z"⟩, prog_14_method_144_code, 1, (Option.some Jvm.ClassFile.FieldType.boolean), 0, true, 1),
  (⟨"NameNotesModel", "readNot", "()Z"⟩, prog_14_method_143_code, 1, (Option.some Jvm.ClassFile.FieldType.boolean), 0, true, 1),
  (⟨"NameNotesModel", "saysOne", "(IIII)I"⟩, prog_14_method_139_code, 6, (Option.some Jvm.ClassFile.FieldType.int), 4, true, 0),
  (⟨"NameNotesModel", "readOf", "(III)Z"⟩, prog_14_method_145_code, 5, (Option.some Jvm.ClassFile.FieldType.boolean), 3, true, 1),
  (⟨"NameNotesModel", "readCompare", "(I)Z"⟩, prog_14_method_146_code, 3, (Option.some Jvm.ClassFile.FieldType.boolean), 1, true, 1),
  (⟨"NameNotesModel", "said", "(I)I"⟩, prog_14_method_149_code, 4, (Option.some Jvm.ClassFile.FieldType.int), 1, true, 0),
  (⟨"NameNotesModel", "holds", "(II)Z"⟩, prog_14_method_148_code, 7, (Option.some Jvm.ClassFile.FieldType.boolean), 2, true, 1),
  (⟨"NameNotesModel", "image", "(I)Z"⟩, prog_14_method_150_code, 3, (Option.some Jvm.ClassFile.FieldType.boolean), 1, true, 1),
  (⟨"NameNotesModel", "restore", "(I)Z"⟩, prog_14_method_151_code, 3, (Option.some Jvm.ClassFile.FieldType.boolean), 1, true, 1),
  (⟨"NameNotesModel", "count", "(I)I"⟩, prog_14_method_152_code, 2, (Option.some Jvm.ClassFile.FieldType.int), 1, true, 0)]
def nn_MT : List ab_MR := nn_MT_0 ++ (nn_MT_40 ++ (nn_MT_80 ++ (nn_MT_120 ++ (nn_MT_160 ++ (nn_MT_200 ++ (nn_MT_240 ++ (nn_MT_280 ++ (nn_MT_320))))))))
set_option maxRecDepth 100000 in
set_option maxHeartbeats 4000000 in
theorem nn_MT_pk : tb_pk tables_1 [427, 3, 3, 3, 3, 3, 3, 2, 3, 4, 3, 3, 2, 2, 2, 3, 2, 5, 4, 3, 5, 3, 3, 4, 3, 3, 2, 2, 3, 2, 3, 6, 3, 3, 3, 5, 5, 3, 6, 5, 3, 3, 2, 3, 3, 3, 3, 4, 3, 3, 2, 2, 3, 4, 3, 3, 5, 3, 3, 2, 2, 3, 3, 3, 3, 3, 3, 3, 3, 3, 4, 2, 2, 3, 4, 4, 3, 3, 3, 3, 4, 2, 3, 3, 5, 4, 4, 4, 4, 6, 5, 3, 3, 3, 7, 3, 7, 4, 3, 3, 3, 4, 4, 3, 3, 4, 4, 2, 3, 3, 4, 3, 3, 5, 3, 2, 2, 4, 2, 2, 2, 3, 9, 5, 5, 3, 4, 4, 3, 3, 3, 3, 7, 4, 3, 4, 2, 3, 3, 4, 3, 3, 3, 4, 3, 3, 4, 3, 2, 3, 3, 3, 4, 3, 10, 7, 4, 3, 3, 3, 3, 3, 3, 5, 3, 3, 7, 5, 3, 3, 3, 3, 3, 3, 5, 3, 2, 23, 4, 4, 8, 3, 4, 5, 6, 3, 3, 3, 7, 3, 68, 3, 3, 2, 6, 6, 6, 6, 8, 6, 7, 6, 3, 4, 3, 199, 3, 3, 3, 3, 3, 3, 3, 2, 2, 3, 5, 3, 2, 2, 3, 3, 3, 3, 2, 3, 2, 3, 3, 3, 2, 3, 3, 3, 3, 3, 3, 3, 3, 3, 3, 3, 3, 3, 3, 3, 3, 3, 3, 3, 3, 3, 3, 2, 3, 3, 3, 3, 3, 3, 3, 3, 3, 3, 3, 3, 3, 3, 3, 2, 3, 3, 3, 3, 2, 3, 3, 3, 3, 3, 7, 2, 3, 3, 3, 4, 3, 2, 4, 4, 4, 3, 3, 3, 3, 3, 3, 3, 3, 3, 3, 3, 3, 3, 3, 4, 3, 3, 3, 3, 3, 3, 3, 3, 3, 3, 3, 3, 3, 3, 2, 3, 2, 4, 3, 3, 3, 3, 3, 3, 3, 3, 3, 3, 3, 3, 3, 3, 3, 3, 3, 3, 3, 3, 3, 3, 3, 3, 3, 3, 3, 3, 3, 3, 3] = nn_MT.map nn_cw := rfl
theorem nn_MT_gw : nn_MT.all (fun mr => goodWord (nn_cw mr)) = true := by decide +kernel
theorem nn_MT_in : ∀ mr ∈ nn_MT, Jvm.Cond.code mr.1 mr.2.1 mr.2.2.1 mr.2.2.2.1 ∈ nn_TT := fun mr h => List.mem_filter.mpr ⟨List.mem_append_right _ (tb_pk_mem _ _ _ (by rw [nn_MT_pk]; exact List.mem_map.mpr ⟨mr, h, rfl⟩)), List.all_eq_true.mp nn_MT_gw mr h⟩
theorem nn_MT_code : ∀ mr ∈ nn_MT, goodWord (Jvm.Cond.code mr.1 mr.2.1 mr.2.2.1 mr.2.2.2.1) = true := fun mr h => nn_TT_good _ (nn_MT_in mr h)
def nn_NW : ab_NW := [("NameNotes", 9, ⟨"NameNotes$Tape", "<init>", "()V"⟩, "NameNotes"), ("NameNotes", 18, ⟨"NameNotes$Studio", "<init>", "()V"⟩, "NameNotes"), ("NameNotes$Studio", 45, ⟨"NameNotes$Sentence", "<init>", "()V"⟩, "NameNotes"), ("NameNotes$StudioReader", 11, ⟨"NameNotes$Studio", "<init>", "()V"⟩, "NameNotes"), ("NameNotes", 40, ⟨"NameNotes$Sentence", "<init>", "()V"⟩, "NameNotes"), ("NameNotes", 47, ⟨"NameNotes$Evening", "<init>", "()V"⟩, "NameNotes"), ("NameNotes", 54, ⟨"NameNotes$Ear", "<init>", "()V"⟩, "NameNotes"), ("NameNotes", 61, ⟨"NameNotes$Duel", "<init>", "()V"⟩, "NameNotes"), ("NameNotes", 68, ⟨"NameNotes$Night", "<init>", "()V"⟩, "NameNotes"), ("NameNotes", 75, ⟨"NameNotes$Journal", "<init>", "()V"⟩, "NameNotes"), ("NameNotes", 82, ⟨"NameNotes$Text", "<init>", "()V"⟩, "NameNotes"), ("NameNotes$Studio", 63, ⟨"NameNotes", "fillRow", "([II)V"⟩, "NameNotes"), ("NameNotes$StudioReader", 29, ⟨"NameNotes", "fillRow", "([II)V"⟩, "NameNotes"), ("NameNotes$StudioReader", 127, ⟨"NameNotes", "put", "([JIJ)V"⟩, "NameNotes"), ("NameNotes$StudioReader", 134, ⟨"NameNotes", "put", "([III)V"⟩, "NameNotes"), ("NameNotes$StudioReader", 140, ⟨"NameNotes", "at", "([II)I"⟩, "NameNotes"), ("NameNotes$StudioReader", 173, ⟨"NameNotes", "has", "(II)Z"⟩, "NameNotes"), ("NameNotes$Studio", 99, ⟨"NameNotes", "put", "([III)V"⟩, "NameNotes"), ("NameNotes$Studio", 92, ⟨"NameNotes", "at", "([II)I"⟩, "NameNotes"), ("NameNotes$Studio", 70, ⟨"NameNotes", "copyRow", "([I[I)V"⟩, "NameNotes"), ("NameNotes$Studio", 74, ⟨"NameNotes", "copyRow", "([J[J)V"⟩, "NameNotes"), ("NameNotes$Sentence", 28, ⟨"NameNotes", "copyRow", "([I[I)V"⟩, "NameNotes"), ("NameNotes$Studio", 133, ⟨"NameNotes", "has", "(II)Z"⟩, "NameNotes"), ("NameNotes$Ear", 26, ⟨"NameNotes", "has", "(II)Z"⟩, "NameNotes"), ("NameNotes$Ear", 57, ⟨"NameNotes", "isLeast", "(II)Z"⟩, "NameNotes"), ("NameNotes$Ear", 54, ⟨"NameNotes", "at", "([JI)J"⟩, "NameNotes"), ("NameNotes$Ear", 40, ⟨"NameNotes", "at", "([II)I"⟩, "NameNotes"), ("NameNotes$Duel", 35, ⟨"NameNotes", "put", "([JIJ)V"⟩, "NameNotes"), ("NameNotes$Duel", 45, ⟨"NameNotes", "at", "([JI)J"⟩, "NameNotes"), ("NameNotes$Duel", 51, ⟨"NameNotes", "put", "([III)V"⟩, "NameNotes"), ("NameNotes$Duel", 61, ⟨"NameNotes", "at", "([II)I"⟩, "NameNotes"), ("NameNotes$Duel", 57, ⟨"NameNotes", "reaches", "(JI)Z"⟩, "NameNotes"), ("NameNotes$Text", 17, ⟨"NameNotes", "put", "([III)V"⟩, "NameNotes"), ("NameNotes$Journal", 25, ⟨"NameNotes", "put", "([III)V"⟩, "NameNotes"), ("NameNotes$Journal", 32, ⟨"NameNotes", "at", "([II)I"⟩, "NameNotes"), ("NameNotes$Evening", 87, ⟨"NameNotes", "put", "([III)V"⟩, "NameNotes"), ("NameNotes$Evening", 105, ⟨"NameNotes", "at", "([II)I"⟩, "NameNotes"), ("NameNotes$Night", 97, ⟨"NameNotes", "nth", "(II)I"⟩, "NameNotes"), ("NameNotes$Night", 82, ⟨"NameNotes", "has", "(II)Z"⟩, "NameNotes"), ("NameNotes$Night", 70, ⟨"NameNotes", "at", "([II)I"⟩, "NameNotes"), ("NameNotes$Night", 78, ⟨"NameNotes", "put", "([III)V"⟩, "NameNotes"), ("NameNotes$Sentence", 141, ⟨"NameNotes", "put", "([III)V"⟩, "NameNotes"), ("NameNotes$Sentence", 149, ⟨"NameNotes", "at", "([II)I"⟩, "NameNotes")]
theorem nn_cls_0 : nn_cls vwCl 0 := ⟨RX0, TX0, 3, rfl, nn_ws_ok (l := [2061, 2063, 2065]) (by decide +kernel) rfl, ⟨tyX0, tyX0_ok⟩, nmX0⟩
theorem nn_cls_1 : nn_cls vwCl 1 := ⟨RX1, TX1, 4, rfl, nn_ws_ok (l := [2043, 2045, 2047, 2049]) (by decide +kernel) rfl, ⟨tyX1, tyX1_ok⟩, nmX1⟩
theorem nn_cls_2 : nn_cls vwCl 2 := ⟨RX2, TX2, 8, rfl, nn_ws_ok (l := [2016, 2018, 2020, 2022, 2024, 2026, 2028, 2030]) (by decide +kernel) rfl, ⟨tyX2, tyX2_ok⟩, nmX2⟩
theorem nn_cls_3 : nn_cls vwCl 3 := ⟨RX3, TX3, 2, rfl, nn_ws_ok (l := [2109, 2111]) (by decide +kernel) rfl, ⟨tyX3, tyX3_ok⟩, nmX3⟩
theorem nn_cls_4 : nn_cls vwCl 4 := ⟨RX4, TX4, 7, rfl, nn_ws_ok (l := [2085, 2087, 2089, 2091, 2093, 2095, 2097]) (by decide +kernel) rfl, ⟨tyX4, tyX4_ok⟩, nmX4⟩
theorem nn_cls_5 : nn_cls vwCl 5 := ⟨RX5, TX5, 5, rfl, nn_ws_ok (l := [1104, 1106, 1108, 1110, 1112]) (by decide +kernel) rfl, ⟨tyX5, tyX5_ok⟩, nmX5⟩
theorem nn_cls_6 : nn_cls vwCl 6 := ⟨RX6, TX6, 17, rfl, nn_ws_ok (l := [1172, 1174, 1176, 1178, 1180, 1182, 1184, 1186, 1188, 1190, 1192, 1194, 1196, 1198, 1200, 1202, 1204]) (by decide +kernel) rfl, ⟨tyX6, tyX6_ok⟩, nmX6⟩
theorem nn_cls_7 : nn_cls vwCl 7 := ⟨RX7, TX7, 6, rfl, nn_ws_ok (l := [1223, 1225, 1227, 1229, 1231, 1233]) (by decide +kernel) rfl, ⟨tyX7, tyX7_ok⟩, nmX7⟩
theorem nn_cls_8 : nn_cls vwCl 8 := ⟨RX8, TX8, 11, rfl, nn_ws_ok (l := [1062, 1064, 1066, 1068, 1070, 1072, 1074, 1076, 1078, 1080, 1082]) (by decide +kernel) rfl, ⟨tyX8, tyX8_ok⟩, nmX8⟩
theorem nn_cls_9 : nn_cls vwCl 9 := ⟨RX9, TX9, 2, rfl, nn_ws_ok (l := [2124, 2126]) (by decide +kernel) rfl, ⟨tyX9, tyX9_ok⟩, nmX9⟩
theorem nn_cls_10 : nn_cls vwCl 10 := ⟨RX11, TX11, 18, rfl, nn_ws_ok (l := [2147, 2149, 2151, 2153, 2155, 2157, 2159, 2161, 2163, 2165, 2167, 2169, 2171, 2173, 2175, 2177, 2179, 2181]) (by decide +kernel) rfl, ⟨tyX11, tyX11_ok⟩, nmX11⟩
theorem nn_cls_11 : nn_cls vwCl 11 := ⟨RX12, TX12, 63, rfl, nn_ws_ok (l := [7075, 7077, 7079, 7081, 7083, 7085, 7087, 7089, 7091, 7093, 7095, 7097, 7099, 7101, 7103, 7105, 7107, 7109, 7111, 7113, 7115, 7117, 7119, 7121, 7123, 7125, 7127, 7129, 7131, 7133, 7135, 7137, 7139, 7141, 7143, 7145, 7147, 7149, 7151, 7153, 7155, 7157, 7159, 7161, 7163, 7165, 7167, 7169, 7171, 7173, 7175, 7177, 7179, 7181, 7183, 7185, 7187, 7189, 7191, 7193, 7195, 7197, 7199]) (by decide +kernel) rfl, ⟨tyX12, tyX12_ok⟩, nmX12⟩
theorem nn_cls_all : ∀ ci, ci < vwCl.length → nn_cls vwCl ci := by
  intro ci h
  have h : ci < 12 := h
  match ci, h with
  | 0, _ => exact nn_cls_0
  | 1, _ => exact nn_cls_1
  | 2, _ => exact nn_cls_2
  | 3, _ => exact nn_cls_3
  | 4, _ => exact nn_cls_4
  | 5, _ => exact nn_cls_5
  | 6, _ => exact nn_cls_6
  | 7, _ => exact nn_cls_7
  | 8, _ => exact nn_cls_8
  | 9, _ => exact nn_cls_9
  | 10, _ => exact nn_cls_10
  | 11, _ => exact nn_cls_11
def nn_kd : ab_KD := ([("NameNotes", "WORDS", "[LNameNotes$Word;", (5, 0, 0)), ("NameNotes", "NINES", "[J", (5, 1, 0)), ("NameNotes", "SHARES", "[I", (5, 2, 0)), ("NameNotes$Word", "TUNE", "LNameNotes$Word;", (4, 0, 0)), ("NameNotes$Word", "CLUE", "LNameNotes$Word;", (4, 0, 1)), ("NameNotes$Word", "PERSON", "LNameNotes$Word;", (4, 0, 2)), ("NameNotes$Word", "KNOWS", "LNameNotes$Word;", (4, 0, 3)), ("NameNotes$Word", "DARE", "LNameNotes$Word;", (4, 0, 4)), ("NameNotes$Word", "FROM", "LNameNotes$Word;", (4, 0, 5)), ("NameNotes$Word", "NAME", "LNameNotes$Word;", (4, 0, 6)), ("NameNotes$Word", "OR", "LNameNotes$Word;", (4, 0, 7)), ("NameNotes$Word", "AND", "LNameNotes$Word;", (4, 0, 8)), ("NameNotes$Word", "NOT", "LNameNotes$Word;", (4, 0, 9)), ("NameNotes$Word", "IN", "LNameNotes$Word;", (4, 0, 10)), ("NameNotes$Word", "SURE", "LNameNotes$Word;", (4, 0, 11)), ("NameNotes$Word", "LIKE", "LNameNotes$Word;", (4, 0, 12)), ("NameNotes$Word", "NOTES", "LNameNotes$Word;", (4, 0, 13)), ("NameNotes$Word", "HIGH", "LNameNotes$Word;", (4, 0, 14)), ("NameNotes$Word", "LOW", "LNameNotes$Word;", (4, 0, 15)), ("NameNotes$Word", "BEATS", "LNameNotes$Word;", (4, 0, 16))], [(4, 17), (1, 10), (0, 9)], [("NameNotes$Tape", 78, "NameNotes", "WORDS", "[LNameNotes$Word;", "NameNotes"), ("NameNotes$Ear", 51, "NameNotes", "NINES", "[J", "NameNotes"), ("NameNotes$Ear", 48, "NameNotes", "SHARES", "[I", "NameNotes")], [("NameNotes", 284, "clue ", 3), ("NameNotes", 309, "name;", 4), ("NameNotes", 213, "no such ones", 5), ("NameNotes", 258, "it can't be", 6), ("NameNotes", 394, "nobody must name it", 7)])
theorem nn_m1001 : nn_mH1 Lib.Math.max.name Lib.Math.max.code 2 .int := ⟨nn_at_ok (i := 3193) (by decide +kernel), nn_at_ok (i := 1015) (by decide +kernel), nn_at_ok (i := 3194) (by decide +kernel)⟩
theorem nn_m1002 : nn_mH1 Lib.Math.min.name Lib.Math.min.code 2 .int := ⟨nn_at_ok (i := 3196) (by decide +kernel), nn_at_ok (i := 1015) (by decide +kernel), nn_at_ok (i := 3197) (by decide +kernel)⟩
theorem nn_m1003 : nn_mH1 Lib.MathLoose.abs_long.x Lib.MathLoose.abs_long.code 2 .long := ⟨nn_at_ok (i := 4168) (by decide +kernel), nn_at_ok (i := 1015) (by decide +kernel), nn_at_ok (i := 4169) (by decide +kernel)⟩
theorem nn_mh : nn_mH := ⟨nn_m1001, nn_m1002, nn_m1003⟩
/-! NameNotes -/
def nn_KI1 : List ((Nat × Int) × Nat) := [((477, 59049), 5070)]
theorem nn_KI1_ok : ∀ q ∈ nn_KI1.map (fun x => x.1), Jvm.Cond.constant "NameNotes" q.1 (Int32.ofInt q.2) ∈ nn_TT := nn_ki_ok (by decide +kernel)
def nn_KJ1 : List ((Nat × Int) × Nat) := [((484, 9), 4084), ((222, 976299632280), 4085), ((256, 2), 4144), ((312, -1), 5016), ((260, 108477736920), 6204), ((363, 59049), 6219)]
theorem nn_KJ1_ok : ∀ q ∈ nn_KJ1.map (fun x => x.1), Jvm.Cond.constantLong "NameNotes" q.1 (Int64.ofInt q.2) ∈ nn_TT := nn_kj_ok (by decide +kernel)
def nn_PF1 : List ((Nat × Nat × Nat × Nat) × Nat) := [((116, 8, 1, 0), 1041), ((139, 8, 9, 0), 1058), ((122, 8, 10, 0), 1060), ((440, 5, 4, 0), 1103), ((427, 6, 2, 0), 1123), ((179, 6, 6, 0), 1132), ((289, 6, 8, 0), 1140), ((474, 6, 9, 0), 1145), ((434, 6, 10, 0), 1147), ((317, 6, 11, 0), 1151), ((269, 6, 12, 0), 1157), ((314, 6, 13, 0), 1162), ((456, 6, 14, 0), 1167), ((132, 6, 15, 0), 1170), ((453, 6, 16, 3), 1171), ((125, 7, 1, 0), 1217), ((136, 7, 5, 0), 1222), ((387, 2, 2, 0), 2007), ((402, 2, 5, 0), 2011), ((393, 2, 6, 0), 2013), ((384, 2, 7, 3), 2015), ((415, 4, 1, 0), 2076), ((412, 4, 4, 0), 2080), ((418, 4, 5, 0), 2082), ((421, 4, 6, 0), 2084), ((135, 3, 1, 0), 2108), ((430, 9, 0, 0), 2121), ((311, 9, 1, 0), 2123), ((10, 10, 0, 0), 2129), ((19, 10, 1, 0), 2130), ((23, 10, 2, 0), 2131), ((26, 10, 3, 0), 2132), ((34, 10, 4, 0), 2133), ((41, 10, 5, 0), 2134), ((48, 10, 6, 0), 2135), ((55, 10, 7, 0), 2136), ((62, 10, 8, 0), 2137), ((69, 10, 9, 0), 2138), ((76, 10, 10, 0), 2139), ((83, 10, 11, 0), 2140), ((87, 10, 12, 0), 2141), ((91, 10, 13, 0), 2142), ((94, 10, 14, 0), 2143), ((97, 10, 15, 0), 2144), ((100, 10, 16, 3), 2145), ((104, 10, 17, 0), 2146)]
theorem nn_PF1_ok : ∀ q ∈ nn_PF1.map (fun x => x.1), ab_fok vwCl nn_TT "NameNotes" q := nn_f_ok nn_cls_all (by decide +kernel)
def nn_PS1 : List ((Nat × Nat) × Nat × Bool) := [((275, 1003), 4167, false), ((284, 2003), 0, false), ((309, 2004), 1, false), ((481, 1002), 5100, false), ((213, 2005), 2, false), ((258, 2006), 3, false), ((394, 2007), 4, false)]
theorem nn_PS1_ok : ∀ q ∈ nn_PS1.map (fun x => x.1), ab_psok nn_TT nn_kd "NameNotes" q := nn_ps_ok nn_mh (by decide +kernel)
def nn_PM1_0 : List nn_LK := [((108, 0, 1), 2191, 1002, 2189, 2190, 2188), ((112, 0, 2), 2195, 1002, 2193, 2194, 2192), ((119, 0, 5), 2207, 1005, 2205, 2206, 2204), ((128, 0, 49), 3154, 1003, 3152, 3153, 3151), ((142, 0, 45), 3137, 1003, 3135, 3136, 3174), ((146, 0, 55), 3177, 1001, 3176, 0, 3175), ((150, 0, 47), 3146, 1003, 3144, 3145, 3178), ((154, 0, 48), 3150, 1003, 3148, 3149, 3179), ((157, 0, 46), 3141, 1003, 3139, 3140, 3184), ((160, 0, 57), 3187, 1001, 3186, 0, 3185), ((163, 0, 58), 3191, 1003, 3189, 3190, 3188), ((166, 0, 63), 3209, 1003, 3207, 3208, 3206), ((169, 0, 64), 3213, 1003, 3211, 3212, 3210), ((173, 0, 67), 3225, 1003, 3223, 3224, 3222), ((176, 0, 68), 3229, 1003, 3227, 3228, 3226), ((180, 0, 29), 3062, 1001, 3061, 0, 3234), ((184, 0, 71), 4001, 1001, 4000, 0, 3239), ((187, 0, 72), 4004, 1001, 4003, 0, 4002), ((190, 0, 73), 4008, 1003, 4006, 4007, 4005), ((193, 0, 74), 4013, 1003, 4011, 4012, 4010)]
theorem nn_PM1_0_ok : ∀ q ∈ nn_PM1_0.map (fun x => x.1), ab_mlk nn_MT nn_TT nn_NW "NameNotes" q := nn_lk_ok nn_MT_in (by decide +kernel)
def nn_PM1_1 : List nn_LK := [((197, 0, 34), 3085, 1001, 3084, 0, 4023), ((200, 0, 77), 4026, 1001, 4025, 0, 4024), ((203, 0, 79), 4034, 1003, 4032, 4033, 4031), ((232, 0, 81), 4042, 1001, 4041, 0, 4040), ((228, 0, 82), 4046, 1001, 4045, 16, 4043), ((320, 0, 83), 4050, 1007, 4048, 4049, 4047), ((329, 0, 84), 4056, 1007, 4054, 4055, 4053), ((332, 0, 85), 4061, 1007, 4059, 4060, 4058), ((235, 0, 89), 4083, 1001, 4082, 0, 4081), ((239, 0, 91), 4093, 1001, 4092, 18, 4090), ((242, 0, 92), 4097, 1001, 4096, 19, 4094), ((463, 0, 93), 4101, 1008, 4099, 4100, 4098), ((467, 0, 94), 4109, 1008, 4107, 4108, 4106), ((246, 0, 96), 4121, 1008, 4119, 4120, 4118), ((253, 0, 98), 4130, 1001, 4129, 21, 4127), ((470, 0, 99), 4134, 1008, 4132, 4133, 4131), ((249, 0, 102), 4148, 1008, 4146, 4147, 4145), ((266, 0, 104), 4156, 1008, 4154, 4155, 4153), ((272, 0, 103), 4152, 1001, 4150, 4151, 4162), ((281, 0, 109), 4177, 1011, 4175, 4176, 4174)]
theorem nn_PM1_1_ok : ∀ q ∈ nn_PM1_1.map (fun x => x.1), ab_mlk nn_MT nn_TT nn_NW "NameNotes" q := nn_lk_ok nn_MT_in (by decide +kernel)
def nn_PM1_2 : List nn_LK := [((286, 0, 110), 4182, 1011, 4180, 4181, 4179), ((293, 0, 87), 4071, 1001, 4070, 0, 4236), ((296, 0, 123), 5000, 1011, 4238, 4239, 4237), ((300, 0, 122), 4234, 1011, 4232, 4233, 5002), ((303, 0, 124), 5006, 1001, 5005, 23, 5003), ((306, 0, 125), 5010, 1011, 5008, 5009, 5007), ((324, 0, 88), 4076, 1020, 4075, 0, 5025), ((336, 0, 129), 5028, 1001, 5027, 0, 5026), ((339, 0, 131), 5036, 1010, 5034, 5035, 5033), ((343, 0, 37), 3101, 1003, 3099, 3100, 5040), ((346, 0, 27), 3055, 1001, 3054, 0, 5045), ((350, 0, 134), 5053, 1010, 5051, 5052, 5050), ((353, 0, 136), 5061, 1001, 5060, 0, 5059), ((356, 0, 137), 5065, 1001, 5064, 24, 5062), ((360, 0, 138), 5069, 1001, 5068, 25, 5066), ((365, 0, 75), 4018, 1003, 4016, 4017, 5087), ((368, 0, 144), 5095, 1001, 5094, 26, 5092), ((478, 0, 145), 5099, 1003, 5097, 5098, 5096), ((371, 0, 148), 5111, 1020, 5110, 0, 5109), ((374, 0, 150), 5119, 1003, 5117, 5118, 5116)]
theorem nn_PM1_2_ok : ∀ q ∈ nn_PM1_2.map (fun x => x.1), ab_mlk nn_MT nn_TT nn_NW "NameNotes" q := nn_lk_ok nn_MT_in (by decide +kernel)
def nn_PM1_3 : List nn_LK := [((262, 0, 65), 3217, 1003, 3215, 3216, 5124), ((377, 0, 153), 5132, 1006, 5130, 5131, 5129), ((380, 0, 155), 5151, 1006, 5149, 5150, 5148), ((405, 0, 159), 5168, 1001, 5167, 29, 5165), ((408, 0, 160), 5172, 1009, 5170, 5171, 5169), ((424, 0, 167), 5208, 1009, 5206, 5207, 5205), ((433, 0, 173), 5232, 1004, 5230, 5231, 5229), ((437, 0, 52), 3164, 1004, 3162, 3163, 6044), ((443, 0, 181), 6052, 1004, 6050, 6051, 6049), ((446, 0, 164), 5190, 1001, 5189, 0, 6066), ((449, 0, 185), 6074, 1001, 6073, 40, 6071), ((207, 0, 189), 6094, 1001, 6093, 41, 6091), ((218, 0, 190), 6163, 1001, 6162, 43, 6160), ((459, 0, 191), 6167, 1007, 6165, 6166, 6164), ((224, 0, 193), 6174, 1001, 6173, 0, 6172), ((390, 0, 202), 6237, 1006, 6235, 6236, 6234), ((396, 0, 203), 7002, 1006, 7000, 7001, 6239), ((399, 0, 204), 7006, 1006, 7004, 7005, 7003)]
theorem nn_PM1_3_ok : ∀ q ∈ nn_PM1_3.map (fun x => x.1), ab_mlk nn_MT nn_TT nn_NW "NameNotes" q := nn_lk_ok nn_MT_in (by decide +kernel)
def nn_PM1 : List nn_LK := nn_PM1_0 ++ (nn_PM1_1 ++ (nn_PM1_2 ++ (nn_PM1_3)))
theorem nn_PM1_ok : ∀ q ∈ nn_PM1.map (fun x => x.1), ab_mlk nn_MT nn_TT nn_NW "NameNotes" q := nn_lk_app nn_PM1_0_ok (nn_lk_app nn_PM1_1_ok (nn_lk_app nn_PM1_2_ok (nn_PM1_3_ok)))
/-! NameNotes$Tape -/
def nn_KI2 : List ((Nat × Int) × Nat) := []
theorem nn_KI2_ok : ∀ q ∈ nn_KI2.map (fun x => x.1), Jvm.Cond.constant "NameNotes$Tape" q.1 (Int32.ofInt q.2) ∈ nn_TT := nn_ki_ok (by decide +kernel)
def nn_KJ2 : List ((Nat × Int) × Nat) := [((94, 32), 3008), ((96, 97), 3009)]
theorem nn_KJ2_ok : ∀ q ∈ nn_KJ2.map (fun x => x.1), Jvm.Cond.constantLong "NameNotes$Tape" q.1 (Int64.ofInt q.2) ∈ nn_TT := nn_kj_ok (by decide +kernel)
def nn_PF2 : List ((Nat × Nat × Nat × Nat) × Nat) := [((11, 8, 0, 0), 1039), ((15, 8, 1, 0), 1040), ((19, 8, 2, 0), 1042), ((22, 8, 3, 0), 1043), ((46, 8, 4, 0), 1044), ((49, 8, 5, 0), 1049), ((64, 8, 6, 1), 1051), ((42, 8, 7, 4), 1052), ((68, 8, 8, 0), 1055), ((25, 8, 9, 0), 1057), ((28, 8, 10, 0), 1059)]
theorem nn_PF2_ok : ∀ q ∈ nn_PF2.map (fun x => x.1), ab_fok vwCl nn_TT "NameNotes$Tape" q := nn_f_ok nn_cls_all (by decide +kernel)
def nn_PS2 : List ((Nat × Nat) × Nat × Bool) := [((78, 0), 0, true), ((82, 1000), 10098, false)]
theorem nn_PS2_ok : ∀ q ∈ nn_PS2.map (fun x => x.1), ab_psok nn_TT nn_kd "NameNotes$Tape" q := nn_ps_ok nn_mh (by decide +kernel)
def nn_PM2_0 : List nn_LK := [((31, 0, 10), 2227, 1002, 2225, 2226, 2224), ((34, 0, 11), 2231, 1002, 2230, 0, 2228), ((38, 0, 12), 2234, 1002, 2233, 0, 2232), ((52, 0, 13), 2237, 1002, 2236, 0, 2235), ((55, 0, 14), 3000, 1002, 2239, 0, 2238), ((58, 0, 15), 3004, 1002, 3003, 1, 3001), ((71, 0, 16), 3007, 1002, 3006, 0, 3005), ((75, 0, 17), 3013, 1002, 3012, 2, 3010), ((61, 0, 18), 3018, 1002, 3017, 0, 3016), ((91, 0, 22), 3036, 1002, 3034, 3035, 3067), ((87, 0, 24), 3045, 1002, 3043, 3044, 3082)]
theorem nn_PM2_0_ok : ∀ q ∈ nn_PM2_0.map (fun x => x.1), ab_mlk nn_MT nn_TT nn_NW "NameNotes$Tape" q := nn_lk_ok nn_MT_in (by decide +kernel)
def nn_PM2 : List nn_LK := nn_PM2_0
theorem nn_PM2_ok : ∀ q ∈ nn_PM2.map (fun x => x.1), ab_mlk nn_MT nn_TT nn_NW "NameNotes$Tape" q := nn_PM2_0_ok
/-! NameNotes$StudioReader -/
def nn_KI3 : List ((Nat × Int) × Nat) := []
theorem nn_KI3_ok : ∀ q ∈ nn_KI3.map (fun x => x.1), Jvm.Cond.constant "NameNotes$StudioReader" q.1 (Int32.ofInt q.2) ∈ nn_TT := nn_ki_ok (by decide +kernel)
def nn_KJ3 : List ((Nat × Int) × Nat) := []
theorem nn_KJ3_ok : ∀ q ∈ nn_KJ3.map (fun x => x.1), Jvm.Cond.constantLong "NameNotes$StudioReader" q.1 (Int64.ofInt q.2) ∈ nn_TT := nn_kj_ok (by decide +kernel)
def nn_PF3 : List ((Nat × Nat × Nat × Nat) × Nat) := [((182, 8, 4, 0), 1045), ((50, 8, 5, 0), 1046), ((123, 8, 6, 1), 1050), ((151, 8, 8, 0), 1054), ((185, 8, 10, 0), 1061), ((148, 6, 0, 0), 1118), ((154, 6, 1, 0), 1120), ((131, 6, 2, 0), 1122), ((163, 6, 4, 0), 1126), ((192, 6, 6, 0), 1131), ((119, 6, 7, 0), 1134), ((160, 6, 8, 0), 1138), ((179, 6, 9, 0), 1144), ((110, 6, 11, 0), 1149), ((157, 6, 12, 0), 1155), ((176, 6, 13, 0), 1161), ((195, 6, 14, 0), 1166), ((22, 7, 0, 0), 1215), ((12, 7, 1, 0), 1216), ((18, 7, 2, 0), 1218), ((33, 7, 3, 0), 1219), ((37, 7, 4, 3), 1220), ((41, 7, 5, 0), 1221)]
theorem nn_PF3_ok : ∀ q ∈ nn_PF3.map (fun x => x.1), ab_fok vwCl nn_TT "NameNotes$StudioReader" q := nn_f_ok nn_cls_all (by decide +kernel)
def nn_PS3 : List ((Nat × Nat) × Nat × Bool) := [((64, 3), 3023, false), ((77, 4), 3068, false), ((83, 5), 3086, false), ((89, 6), 3092, false), ((95, 7), 3103, false), ((101, 8), 3109, false)]
theorem nn_PS3_ok : ∀ q ∈ nn_PS3.map (fun x => x.1), ab_psok nn_TT nn_kd "NameNotes$StudioReader" q := nn_ps_ok nn_mh (by decide +kernel)
def nn_PM3_0 : List nn_LK := [((26, 0, 6), 2211, 1003, 2209, 2210, 2208), ((29, 2, 7), 2214, 1001, 2213, 0, 12), ((44, 0, 9), 2223, 1002, 2221, 2222, 2220), ((53, 0, 19), 3022, 1005, 3021, 3, 3019), ((70, 0, 20), 3028, 1002, 3026, 3027, 3025), ((74, 0, 21), 3032, 1005, 3031, 4, 3029), ((107, 0, 22), 3036, 1002, 3034, 3035, 3033), ((113, 0, 10), 2227, 1002, 2225, 2226, 3037), ((116, 0, 23), 3041, 1005, 3040, 5, 3038), ((198, 0, 24), 3045, 1002, 3043, 3044, 3042), ((201, 0, 25), 3049, 1005, 3048, 6, 3046), ((127, 2, 26), 3052, 1001, 3051, 0, 13), ((134, 2, 27), 3055, 1001, 3054, 0, 14), ((137, 0, 28), 3059, 1005, 3058, 7, 3056), ((140, 2, 29), 3062, 1001, 3061, 0, 15), ((144, 0, 30), 3066, 1002, 3064, 3065, 3063), ((80, 0, 31), 3073, 1005, 3072, 8, 3070), ((166, 0, 32), 3077, 1005, 3076, 9, 3074), ((169, 0, 33), 3081, 1002, 3079, 3080, 3078), ((173, 2, 34), 3085, 1001, 3084, 0, 16)]
theorem nn_PM3_0_ok : ∀ q ∈ nn_PM3_0.map (fun x => x.1), ab_mlk nn_MT nn_TT nn_NW "NameNotes$StudioReader" q := nn_lk_ok nn_MT_in (by decide +kernel)
def nn_PM3_1 : List nn_LK := [((86, 0, 35), 3091, 1005, 3090, 10, 3088), ((92, 0, 36), 3097, 1005, 3096, 11, 3094), ((188, 0, 37), 3101, 1003, 3099, 3100, 3098), ((98, 0, 38), 3108, 1005, 3107, 12, 3105), ((104, 0, 39), 3114, 1005, 3113, 13, 3111), ((57, 0, 40), 3118, 1002, 3116, 3117, 3115), ((61, 0, 41), 3122, 1003, 3120, 3121, 3119)]
theorem nn_PM3_1_ok : ∀ q ∈ nn_PM3_1.map (fun x => x.1), ab_mlk nn_MT nn_TT nn_NW "NameNotes$StudioReader" q := nn_lk_ok nn_MT_in (by decide +kernel)
def nn_PM3 : List nn_LK := nn_PM3_0 ++ (nn_PM3_1)
theorem nn_PM3_ok : ∀ q ∈ nn_PM3.map (fun x => x.1), ab_mlk nn_MT nn_TT nn_NW "NameNotes$StudioReader" q := nn_lk_app nn_PM3_0_ok (nn_PM3_1_ok)
/-! NameNotes$Evening -/
def nn_KI4 : List ((Nat × Int) × Nat) := []
theorem nn_KI4_ok : ∀ q ∈ nn_KI4.map (fun x => x.1), Jvm.Cond.constant "NameNotes$Evening" q.1 (Int32.ofInt q.2) ∈ nn_TT := nn_ki_ok (by decide +kernel)
def nn_KJ4 : List ((Nat × Int) × Nat) := []
theorem nn_KJ4_ok : ∀ q ∈ nn_KJ4.map (fun x => x.1), Jvm.Cond.constantLong "NameNotes$Evening" q.1 (Int64.ofInt q.2) ∈ nn_TT := nn_kj_ok (by decide +kernel)
def nn_PF4 : List ((Nat × Nat × Nat × Nat) × Nat) := [((67, 8, 5, 0), 1047), ((91, 8, 8, 0), 1053), ((48, 6, 8, 0), 1137), ((74, 6, 9, 0), 1142), ((54, 6, 12, 0), 1153), ((77, 6, 13, 0), 1159), ((109, 6, 14, 0), 1165), ((101, 6, 15, 0), 1169), ((11, 2, 0, 0), 2004), ((15, 2, 1, 0), 2005), ((18, 2, 2, 0), 2006), ((21, 2, 3, 0), 2008), ((61, 2, 4, 0), 2009), ((98, 2, 5, 0), 2010), ((104, 2, 6, 0), 2012), ((94, 2, 7, 3), 2014)]
theorem nn_PF4_ok : ∀ q ∈ nn_PF4.map (fun x => x.1), ab_fok vwCl nn_TT "NameNotes$Evening" q := nn_f_ok nn_cls_all (by decide +kernel)
def nn_PS4 : List ((Nat × Nat) × Nat × Bool) := [((31, 4), 5134, false), ((80, 9), 5144, false)]
theorem nn_PS4_ok : ∀ q ∈ nn_PS4.map (fun x => x.1), ab_psok nn_TT nn_kd "NameNotes$Evening" q := nn_ps_ok nn_mh (by decide +kernel)
def nn_PM4_0 : List nn_LK := [((25, 0, 9), 2223, 1002, 2221, 2222, 5133), ((37, 0, 20), 3028, 1002, 3026, 3027, 5135), ((41, 0, 22), 3036, 1002, 3034, 3035, 5136), ((45, 0, 10), 2227, 1002, 2225, 2226, 5137), ((57, 0, 33), 3081, 1002, 3079, 3080, 5138), ((64, 0, 40), 3118, 1002, 3116, 3117, 5139), ((70, 0, 154), 5143, 1006, 5142, 27, 5140), ((83, 0, 30), 3066, 1002, 3064, 3065, 5146), ((87, 2, 27), 3055, 1001, 3054, 0, 35), ((105, 2, 29), 3062, 1001, 3061, 0, 36), ((112, 0, 156), 5156, 1006, 5155, 28, 5153)]
theorem nn_PM4_0_ok : ∀ q ∈ nn_PM4_0.map (fun x => x.1), ab_mlk nn_MT nn_TT nn_NW "NameNotes$Evening" q := nn_lk_ok nn_MT_in (by decide +kernel)
def nn_PM4 : List nn_LK := nn_PM4_0
theorem nn_PM4_ok : ∀ q ∈ nn_PM4.map (fun x => x.1), ab_mlk nn_MT nn_TT nn_NW "NameNotes$Evening" q := nn_PM4_0_ok
/-! NameNotes$Sentence -/
def nn_KI5 : List ((Nat × Int) × Nat) := []
theorem nn_KI5_ok : ∀ q ∈ nn_KI5.map (fun x => x.1), Jvm.Cond.constant "NameNotes$Sentence" q.1 (Int32.ofInt q.2) ∈ nn_TT := nn_ki_ok (by decide +kernel)
def nn_KJ5 : List ((Nat × Int) × Nat) := []
theorem nn_KJ5_ok : ∀ q ∈ nn_KJ5.map (fun x => x.1), Jvm.Cond.constantLong "NameNotes$Sentence" q.1 (Int64.ofInt q.2) ∈ nn_TT := nn_kj_ok (by decide +kernel)
def nn_PF5 : List ((Nat × Nat × Nat × Nat) × Nat) := [((45, 8, 5, 0), 1048), ((114, 8, 8, 0), 1056), ((11, 5, 0, 0), 1098), ((15, 5, 1, 0), 1099), ((18, 5, 2, 0), 1100), ((21, 5, 3, 0), 1101), ((25, 5, 4, 0), 1102), ((108, 6, 7, 0), 1135), ((89, 6, 8, 0), 1139), ((102, 6, 9, 0), 1143), ((111, 6, 11, 0), 1150), ((95, 6, 12, 0), 1156), ((105, 6, 13, 0), 1160)]
theorem nn_PF5_ok : ∀ q ∈ nn_PF5.map (fun x => x.1), ab_fok vwCl nn_TT "NameNotes$Sentence" q := nn_f_ok nn_cls_all (by decide +kernel)
def nn_PS5 : List ((Nat × Nat) × Nat × Bool) := [((117, 12), 6006, false), ((120, 13), 6009, false), ((123, 14), 6011, false), ((126, 15), 6013, false), ((129, 16), 6015, false), ((132, 17), 6017, false), ((135, 18), 6019, false), ((138, 19), 6021, false), ((55, 11), 6040, false), ((65, 10), 6042, false)]
theorem nn_PS5_ok : ∀ q ∈ nn_PS5.map (fun x => x.1), ab_psok nn_TT nn_kd "NameNotes$Sentence" q := nn_ps_ok nn_mh (by decide +kernel)
def nn_PM5_0 : List nn_LK := [((28, 2, 50), 3157, 1001, 3156, 0, 21), ((32, 0, 8), 2218, 1004, 2216, 2217, 5233), ((35, 0, 9), 2223, 1002, 2221, 2222, 5234), ((41, 0, 174), 5238, 1004, 5237, 35, 5235), ((52, 0, 175), 6002, 1004, 6001, 36, 5239), ((75, 0, 176), 6005, 1004, 6004, 0, 6003), ((61, 0, 20), 3028, 1002, 3026, 3027, 6008), ((48, 0, 22), 3036, 1002, 3034, 3035, 6023), ((72, 0, 10), 2227, 1002, 2225, 2226, 6024), ((79, 0, 40), 3118, 1002, 3116, 3117, 6025), ((68, 0, 177), 6029, 1004, 6028, 37, 6026), ((141, 2, 27), 3055, 1001, 3054, 0, 41), ((82, 0, 178), 6034, 1004, 6033, 38, 6031), ((98, 0, 33), 3081, 1002, 3079, 3080, 6035), ((85, 0, 179), 6039, 1004, 6038, 39, 6036), ((145, 0, 65), 3217, 1003, 3215, 3216, 6053), ((149, 2, 29), 3062, 1001, 3061, 0, 42), ((153, 0, 182), 6057, 1004, 6056, 0, 6055), ((157, 0, 64), 3213, 1003, 3211, 3212, 6058), ((161, 0, 74), 4013, 1003, 4011, 4012, 6059)]
theorem nn_PM5_0_ok : ∀ q ∈ nn_PM5_0.map (fun x => x.1), ab_mlk nn_MT nn_TT nn_NW "NameNotes$Sentence" q := nn_lk_ok nn_MT_in (by decide +kernel)
def nn_PM5_1 : List nn_LK := [((165, 0, 68), 3229, 1003, 3227, 3228, 6060), ((169, 0, 183), 6063, 1004, 6062, 0, 6061), ((173, 0, 58), 3191, 1003, 3189, 3190, 6064), ((176, 0, 148), 5111, 1020, 5110, 0, 6065)]
theorem nn_PM5_1_ok : ∀ q ∈ nn_PM5_1.map (fun x => x.1), ab_mlk nn_MT nn_TT nn_NW "NameNotes$Sentence" q := nn_lk_ok nn_MT_in (by decide +kernel)
def nn_PM5 : List nn_LK := nn_PM5_0 ++ (nn_PM5_1)
theorem nn_PM5_ok : ∀ q ∈ nn_PM5.map (fun x => x.1), ab_mlk nn_MT nn_TT nn_NW "NameNotes$Sentence" q := nn_lk_app nn_PM5_0_ok (nn_PM5_1_ok)
/-! NameNotes$Studio -/
def nn_KI6 : List ((Nat × Int) × Nat) := []
theorem nn_KI6_ok : ∀ q ∈ nn_KI6.map (fun x => x.1), Jvm.Cond.constant "NameNotes$Studio" q.1 (Int32.ofInt q.2) ∈ nn_TT := nn_ki_ok (by decide +kernel)
def nn_KJ6 : List ((Nat × Int) × Nat) := []
theorem nn_KJ6_ok : ∀ q ∈ nn_KJ6.map (fun x => x.1), Jvm.Cond.constantLong "NameNotes$Studio" q.1 (Int64.ofInt q.2) ∈ nn_TT := nn_kj_ok (by decide +kernel)
def nn_PF6 : List ((Nat × Nat × Nat × Nat) × Nat) := [((9, 6, 0, 0), 1117), ((15, 6, 1, 0), 1119), ((18, 6, 2, 0), 1121), ((21, 6, 3, 0), 1124), ((24, 6, 4, 0), 1125), ((27, 6, 5, 0), 1127), ((30, 6, 6, 0), 1128), ((33, 6, 7, 0), 1133), ((37, 6, 8, 0), 1136), ((40, 6, 9, 0), 1141), ((46, 6, 10, 0), 1146), ((54, 6, 11, 0), 1148), ((57, 6, 12, 0), 1152), ((60, 6, 13, 0), 1158), ((50, 6, 14, 0), 1163), ((81, 6, 15, 0), 1168)]
theorem nn_PF6_ok : ∀ q ∈ nn_PF6.map (fun x => x.1), ab_fok vwCl nn_TT "NameNotes$Studio" q := nn_f_ok nn_cls_all (by decide +kernel)
def nn_PS6 : List ((Nat × Nat) × Nat × Bool) := [((107, 1001), 3192, false), ((112, 1002), 3195, false)]
theorem nn_PS6_ok : ∀ q ∈ nn_PS6.map (fun x => x.1), ab_psok nn_TT nn_kd "NameNotes$Studio" q := nn_ps_ok nn_mh (by decide +kernel)
def nn_PM6_0 : List nn_LK := [((63, 2, 7), 2214, 1001, 2213, 0, 11), ((67, 0, 8), 2218, 1004, 2216, 2217, 2215), ((99, 2, 27), 3055, 1001, 3054, 0, 17), ((122, 0, 42), 3125, 1003, 3124, 0, 3123), ((126, 0, 43), 3129, 1003, 3128, 14, 3126), ((129, 0, 44), 3133, 1003, 3132, 15, 3130), ((118, 0, 45), 3137, 1003, 3135, 3136, 3134), ((96, 0, 46), 3141, 1003, 3139, 3140, 3138), ((92, 2, 29), 3062, 1001, 3061, 0, 18), ((103, 0, 47), 3146, 1003, 3144, 3145, 3143), ((115, 0, 48), 3150, 1003, 3148, 3149, 3147), ((70, 2, 50), 3157, 1001, 3156, 0, 19), ((74, 2, 51), 3160, 1001, 3159, 0, 20), ((77, 0, 52), 3164, 1004, 3162, 3163, 3161), ((88, 0, 65), 3217, 1003, 3215, 3216, 3214), ((84, 0, 63), 3209, 1003, 3207, 3208, 4009), ((133, 2, 34), 3085, 1001, 3084, 0, 22), ((136, 0, 75), 4018, 1003, 4016, 4017, 4015), ((139, 0, 74), 4013, 1003, 4011, 4012, 4035)]
theorem nn_PM6_0_ok : ∀ q ∈ nn_PM6_0.map (fun x => x.1), ab_mlk nn_MT nn_TT nn_NW "NameNotes$Studio" q := nn_lk_ok nn_MT_in (by decide +kernel)
def nn_PM6 : List nn_LK := nn_PM6_0
theorem nn_PM6_ok : ∀ q ∈ nn_PM6.map (fun x => x.1), ab_mlk nn_MT nn_TT nn_NW "NameNotes$Studio" q := nn_PM6_0_ok
/-! NameNotes$Journal -/
def nn_KI7 : List ((Nat × Int) × Nat) := []
theorem nn_KI7_ok : ∀ q ∈ nn_KI7.map (fun x => x.1), Jvm.Cond.constant "NameNotes$Journal" q.1 (Int32.ofInt q.2) ∈ nn_TT := nn_ki_ok (by decide +kernel)
def nn_KJ7 : List ((Nat × Int) × Nat) := []
theorem nn_KJ7_ok : ∀ q ∈ nn_KJ7.map (fun x => x.1), Jvm.Cond.constantLong "NameNotes$Journal" q.1 (Int64.ofInt q.2) ∈ nn_TT := nn_kj_ok (by decide +kernel)
def nn_PF7 : List ((Nat × Nat × Nat × Nat) × Nat) := [((29, 6, 6, 0), 1129), ((11, 3, 0, 0), 2106), ((15, 3, 1, 0), 2107)]
theorem nn_PF7_ok : ∀ q ∈ nn_PF7.map (fun x => x.1), ab_fok vwCl nn_TT "NameNotes$Journal" q := nn_f_ok nn_cls_all (by decide +kernel)
def nn_PS7 : List ((Nat × Nat) × Nat × Bool) := []
theorem nn_PS7_ok : ∀ q ∈ nn_PS7.map (fun x => x.1), ab_psok nn_TT nn_kd "NameNotes$Journal" q := nn_ps_ok nn_mh (by decide +kernel)
def nn_PM7_0 : List nn_LK := [((19, 0, 68), 3229, 1003, 3227, 3228, 5037), ((25, 2, 27), 3055, 1001, 3054, 0, 33), ((32, 2, 29), 3062, 1001, 3061, 0, 34), ((36, 0, 37), 3101, 1003, 3099, 3100, 5054)]
theorem nn_PM7_0_ok : ∀ q ∈ nn_PM7_0.map (fun x => x.1), ab_mlk nn_MT nn_TT nn_NW "NameNotes$Journal" q := nn_lk_ok nn_MT_in (by decide +kernel)
def nn_PM7 : List nn_LK := nn_PM7_0
theorem nn_PM7_ok : ∀ q ∈ nn_PM7.map (fun x => x.1), ab_mlk nn_MT nn_TT nn_NW "NameNotes$Journal" q := nn_PM7_0_ok
/-! NameNotes$Night -/
def nn_KI8 : List ((Nat × Int) × Nat) := [((100, 1103515245), 5181)]
theorem nn_KI8_ok : ∀ q ∈ nn_KI8.map (fun x => x.1), Jvm.Cond.constant "NameNotes$Night" q.1 (Int32.ofInt q.2) ∈ nn_TT := nn_ki_ok (by decide +kernel)
def nn_KJ8 : List ((Nat × Int) × Nat) := []
theorem nn_KJ8_ok : ∀ q ∈ nn_KJ8.map (fun x => x.1), Jvm.Cond.constantLong "NameNotes$Night" q.1 (Int64.ofInt q.2) ∈ nn_TT := nn_kj_ok (by decide +kernel)
def nn_PF8 : List ((Nat × Nat × Nat × Nat) × Nat) := [((94, 6, 6, 0), 1130), ((38, 6, 12, 0), 1154), ((57, 6, 14, 0), 1164), ((9, 4, 0, 0), 2074), ((15, 4, 1, 0), 2075), ((18, 4, 2, 0), 2077), ((21, 4, 3, 0), 2078), ((25, 4, 4, 0), 2079), ((28, 4, 5, 0), 2081), ((31, 4, 6, 0), 2083)]
theorem nn_PF8_ok : ∀ q ∈ nn_PF8.map (fun x => x.1), ab_fok vwCl nn_TT "NameNotes$Night" q := nn_f_ok nn_cls_all (by decide +kernel)
def nn_PS8 : List ((Nat × Nat) × Nat × Bool) := [((64, 1002), 5204, false)]
theorem nn_PS8_ok : ∀ q ∈ nn_PS8.map (fun x => x.1), ab_psok nn_TT nn_kd "NameNotes$Night" q := nn_ps_ok nn_mh (by decide +kernel)
def nn_PM8_0 : List nn_LK := [((34, 0, 161), 5176, 1009, 5175, 30, 5173), ((43, 0, 162), 5180, 1009, 5179, 31, 5177), ((47, 0, 64), 3213, 1003, 3211, 3212, 5182), ((50, 0, 163), 5186, 1009, 5185, 32, 5183), ((89, 0, 88), 4076, 1020, 4075, 0, 5187), ((97, 2, 164), 5190, 1001, 5189, 0, 37), ((53, 0, 165), 5194, 1009, 5193, 33, 5191), ((82, 2, 34), 3085, 1001, 3084, 0, 38), ((70, 2, 29), 3062, 1001, 3061, 0, 39), ((86, 0, 68), 3229, 1003, 3227, 3228, 5197), ((78, 2, 27), 3055, 1001, 3054, 0, 40), ((60, 0, 166), 5202, 1009, 5201, 34, 5199), ((74, 0, 74), 4013, 1003, 4011, 4012, 5203)]
theorem nn_PM8_0_ok : ∀ q ∈ nn_PM8_0.map (fun x => x.1), ab_mlk nn_MT nn_TT nn_NW "NameNotes$Night" q := nn_lk_ok nn_MT_in (by decide +kernel)
def nn_PM8 : List nn_LK := nn_PM8_0
theorem nn_PM8_ok : ∀ q ∈ nn_PM8.map (fun x => x.1), ab_mlk nn_MT nn_TT nn_NW "NameNotes$Night" q := nn_PM8_0_ok
/-! NameNotes$Ear -/
def nn_KI9 : List ((Nat × Int) × Nat) := []
theorem nn_KI9_ok : ∀ q ∈ nn_KI9.map (fun x => x.1), Jvm.Cond.constant "NameNotes$Ear" q.1 (Int32.ofInt q.2) ∈ nn_TT := nn_ki_ok (by decide +kernel)
def nn_KJ9 : List ((Nat × Int) × Nat) := []
theorem nn_KJ9_ok : ∀ q ∈ nn_KJ9.map (fun x => x.1), Jvm.Cond.constantLong "NameNotes$Ear" q.1 (Int64.ofInt q.2) ∈ nn_TT := nn_kj_ok (by decide +kernel)
def nn_PF9 : List ((Nat × Nat × Nat × Nat) × Nat) := [((9, 1, 0, 0), 2039), ((15, 1, 1, 0), 2040), ((18, 1, 2, 0), 2041), ((22, 1, 3, 0), 2042)]
theorem nn_PF9_ok : ∀ q ∈ nn_PF9.map (fun x => x.1), ab_fok vwCl nn_TT "NameNotes$Ear" q := nn_f_ok nn_cls_all (by decide +kernel)
def nn_PS9 : List ((Nat × Nat) × Nat × Bool) := [((51, 1), 1, true), ((48, 2), 2, true)]
theorem nn_PS9_ok : ∀ q ∈ nn_PS9.map (fun x => x.1), ab_psok nn_TT nn_kd "NameNotes$Ear" q := nn_ps_ok nn_mh (by decide +kernel)
def nn_PM9_0 : List nn_LK := [((26, 2, 34), 3085, 1001, 3084, 0, 23), ((30, 0, 74), 4013, 1003, 4011, 4012, 4052), ((36, 0, 68), 3229, 1003, 3227, 3228, 4057), ((57, 2, 77), 4026, 1001, 4025, 0, 24), ((60, 0, 86), 4066, 1007, 4065, 17, 4063), ((54, 2, 87), 4071, 1001, 4070, 0, 25), ((64, 0, 88), 4076, 1020, 4075, 0, 4074), ((40, 2, 29), 3062, 1001, 3061, 0, 26), ((44, 0, 192), 6171, 1007, 6170, 44, 6168)]
theorem nn_PM9_0_ok : ∀ q ∈ nn_PM9_0.map (fun x => x.1), ab_mlk nn_MT nn_TT nn_NW "NameNotes$Ear" q := nn_lk_ok nn_MT_in (by decide +kernel)
def nn_PM9 : List nn_LK := nn_PM9_0
theorem nn_PM9_ok : ∀ q ∈ nn_PM9.map (fun x => x.1), ab_mlk nn_MT nn_TT nn_NW "NameNotes$Ear" q := nn_PM9_0_ok
/-! NameNotes$Duel -/
def nn_KI10 : List ((Nat × Int) × Nat) := []
theorem nn_KI10_ok : ∀ q ∈ nn_KI10.map (fun x => x.1), Jvm.Cond.constant "NameNotes$Duel" q.1 (Int32.ofInt q.2) ∈ nn_TT := nn_ki_ok (by decide +kernel)
def nn_KJ10 : List ((Nat × Int) × Nat) := [((43, 976299632280), 4114), ((49, -1), 4116)]
theorem nn_KJ10_ok : ∀ q ∈ nn_KJ10.map (fun x => x.1), Jvm.Cond.constantLong "NameNotes$Duel" q.1 (Int64.ofInt q.2) ∈ nn_TT := nn_kj_ok (by decide +kernel)
def nn_PF10 : List ((Nat × Nat × Nat × Nat) × Nat) := [((11, 0, 0, 0), 2058), ((15, 0, 1, 0), 2059), ((18, 0, 2, 0), 2060)]
theorem nn_PF10_ok : ∀ q ∈ nn_PF10.map (fun x => x.1), ab_fok vwCl nn_TT "NameNotes$Duel" q := nn_f_ok nn_cls_all (by decide +kernel)
def nn_PS10 : List ((Nat × Nat) × Nat × Bool) := []
theorem nn_PS10_ok : ∀ q ∈ nn_PS10.map (fun x => x.1), ab_psok nn_TT nn_kd "NameNotes$Duel" q := nn_ps_ok nn_mh (by decide +kernel)
def nn_PM10_0 : List nn_LK := [((22, 0, 83), 4050, 1007, 4048, 4049, 4102), ((28, 0, 84), 4056, 1007, 4054, 4055, 4103), ((31, 0, 85), 4061, 1007, 4059, 4060, 4104), ((35, 2, 26), 3052, 1001, 3051, 0, 27), ((39, 0, 95), 4113, 1008, 4112, 20, 4110), ((45, 2, 87), 4071, 1001, 4070, 0, 28), ((51, 2, 27), 3055, 1001, 3054, 0, 29), ((61, 2, 29), 3062, 1001, 3061, 0, 30), ((54, 0, 100), 4138, 1008, 4137, 22, 4135), ((57, 2, 89), 4083, 1001, 4082, 0, 31), ((64, 0, 96), 4121, 1008, 4119, 4120, 4157)]
theorem nn_PM10_0_ok : ∀ q ∈ nn_PM10_0.map (fun x => x.1), ab_mlk nn_MT nn_TT nn_NW "NameNotes$Duel" q := nn_lk_ok nn_MT_in (by decide +kernel)
def nn_PM10 : List nn_LK := nn_PM10_0
theorem nn_PM10_ok : ∀ q ∈ nn_PM10.map (fun x => x.1), ab_mlk nn_MT nn_TT nn_NW "NameNotes$Duel" q := nn_PM10_0_ok
/-! NameNotes$Text -/
def nn_KI11 : List ((Nat × Int) × Nat) := []
theorem nn_KI11_ok : ∀ q ∈ nn_KI11.map (fun x => x.1), Jvm.Cond.constant "NameNotes$Text" q.1 (Int32.ofInt q.2) ∈ nn_TT := nn_ki_ok (by decide +kernel)
def nn_KJ11 : List ((Nat × Int) × Nat) := [((39, 31), 5001)]
theorem nn_KJ11_ok : ∀ q ∈ nn_KJ11.map (fun x => x.1), Jvm.Cond.constantLong "NameNotes$Text" q.1 (Int64.ofInt q.2) ∈ nn_TT := nn_kj_ok (by decide +kernel)
def nn_PF11 : List ((Nat × Nat × Nat × Nat) × Nat) := [((9, 9, 0, 0), 2120), ((13, 9, 1, 0), 2122)]
theorem nn_PF11_ok : ∀ q ∈ nn_PF11.map (fun x => x.1), ab_fok vwCl nn_TT "NameNotes$Text" q := nn_f_ok nn_cls_all (by decide +kernel)
def nn_PS11 : List ((Nat × Nat) × Nat × Bool) := []
theorem nn_PS11_ok : ∀ q ∈ nn_PS11.map (fun x => x.1), ab_psok nn_TT nn_kd "NameNotes$Text" q := nn_ps_ok nn_mh (by decide +kernel)
def nn_PM11_0 : List nn_LK := [((23, 0, 111), 4186, 1021, 4184, 4185, 4183), ((29, 0, 113), 4196, 1021, 4194, 4195, 4193), ((33, 0, 122), 4234, 1011, 4232, 4233, 4231), ((17, 2, 27), 3055, 1001, 3054, 0, 32)]
theorem nn_PM11_0_ok : ∀ q ∈ nn_PM11_0.map (fun x => x.1), ab_mlk nn_MT nn_TT nn_NW "NameNotes$Text" q := nn_lk_ok nn_MT_in (by decide +kernel)
def nn_PM11 : List nn_LK := nn_PM11_0
theorem nn_PM11_ok : ∀ q ∈ nn_PM11.map (fun x => x.1), ab_mlk nn_MT nn_TT nn_NW "NameNotes$Text" q := nn_PM11_0_ok
/-! java/lang/Integer -/
def nn_KI12 : List ((Nat × Int) × Nat) := [((265, 1431655765), 4077), ((266, 858993459), 4078), ((267, 252645135), 4079)]
theorem nn_KI12_ok : ∀ q ∈ nn_KI12.map (fun x => x.1), Jvm.Cond.constant "java/lang/Integer" q.1 (Int32.ofInt q.2) ∈ nn_TT := nn_ki_ok (by decide +kernel)
def nn_KJ12 : List ((Nat × Int) × Nat) := []
theorem nn_KJ12_ok : ∀ q ∈ nn_KJ12.map (fun x => x.1), Jvm.Cond.constantLong "java/lang/Integer" q.1 (Int64.ofInt q.2) ∈ nn_TT := nn_kj_ok (by decide +kernel)
def nn_PF12 : List ((Nat × Nat × Nat × Nat) × Nat) := []
theorem nn_PF12_ok : ∀ q ∈ nn_PF12.map (fun x => x.1), ab_fok vwCl nn_TT "java/lang/Integer" q := nn_f_ok nn_cls_all (by decide +kernel)
def nn_PS12 : List ((Nat × Nat) × Nat × Bool) := []
theorem nn_PS12_ok : ∀ q ∈ nn_PS12.map (fun x => x.1), ab_psok nn_TT nn_kd "java/lang/Integer" q := nn_ps_ok nn_mh (by decide +kernel)
def nn_PM12_0 : List nn_LK := []
theorem nn_PM12_0_ok : ∀ q ∈ nn_PM12_0.map (fun x => x.1), ab_mlk nn_MT nn_TT nn_NW "java/lang/Integer" q := nn_lk_ok nn_MT_in (by decide +kernel)
def nn_PM12 : List nn_LK := nn_PM12_0
theorem nn_PM12_ok : ∀ q ∈ nn_PM12.map (fun x => x.1), ab_mlk nn_MT nn_TT nn_NW "java/lang/Integer" q := nn_PM12_0_ok
/-! java/lang/String -/
def nn_PM13_0 : List nn_LK := [((335, 0, 112), 4190, 1021, 4188, 4189, 4187), ((492, 0, 114), 4200, 1021, 4198, 4199, 4197), ((495, 0, 115), 4203, 1022, 4202, 0, 4201), ((1059, 0, 117), 4211, 1023, 4210, 0, 4209), ((498, 0, 118), 4214, 1024, 4213, 0, 4212)]
theorem nn_PM13_0_ok : ∀ q ∈ nn_PM13_0.map (fun x => x.1), ab_mlk nn_MT nn_TT nn_NW "java/lang/String" q := nn_lk_ok nn_MT_in (by decide +kernel)
def nn_PM13 : List nn_LK := nn_PM13_0
theorem nn_PM13_ok : ∀ q ∈ nn_PM13.map (fun x => x.1), ab_mlk nn_MT nn_TT nn_NW "java/lang/String" q := nn_PM13_0_ok
/-! java/lang/StringLatin1 -/
def nn_PM14_0 : List nn_LK := [((9, 0, 116), 4206, 1021, 4205, 0, 4204)]
theorem nn_PM14_0_ok : ∀ q ∈ nn_PM14_0.map (fun x => x.1), ab_mlk nn_MT nn_TT nn_NW "java/lang/StringLatin1" q := nn_lk_ok nn_MT_in (by decide +kernel)
def nn_PM14 : List nn_LK := nn_PM14_0
theorem nn_PM14_ok : ∀ q ∈ nn_PM14.map (fun x => x.1), ab_mlk nn_MT nn_TT nn_NW "java/lang/StringLatin1" q := nn_PM14_0_ok
/-! java/lang/StringUTF16 -/
/-! NameNotesModel -/
def nn_KI20 : List ((Nat × Int) × Nat) := [((469, 1103515245), 10009)]
theorem nn_KI20_ok : ∀ q ∈ nn_KI20.map (fun x => x.1), Jvm.Cond.constant "NameNotesModel" q.1 (Int32.ofInt q.2) ∈ nn_TT := nn_ki_ok (by decide +kernel)
def nn_KJ20 : List ((Nat × Int) × Nat) := [((150, 27), 8005), ((152, 96), 8006), ((325, 43046721), 9015), ((327, 9), 9016), ((329, 2520), 9017), ((349, 976299632280), 9018), ((358, 2460275073345600), 9038), ((360, 273363897038400), 9050), ((366, -1), 9055), ((368, 108477736920), 9060), ((396, 2), 9121), ((414, 59049), 9192)]
theorem nn_KJ20_ok : ∀ q ∈ nn_KJ20.map (fun x => x.1), Jvm.Cond.constantLong "NameNotesModel" q.1 (Int64.ofInt q.2) ∈ nn_TT := nn_kj_ok (by decide +kernel)
def nn_PF20 : List ((Nat × Nat × Nat × Nat) × Nat) := [((100, 11, 0, 0), 7013), ((7, 11, 1, 0), 7014), ((103, 11, 2, 0), 7015), ((114, 11, 3, 0), 7016), ((123, 11, 4, 0), 7017), ((117, 11, 5, 0), 7018), ((120, 11, 6, 0), 7019), ((126, 11, 7, 0), 7020), ((143, 11, 8, 0), 7021), ((136, 11, 9, 0), 7022), ((162, 11, 10, 0), 7023), ((165, 11, 11, 0), 7024), ((139, 11, 12, 1), 7025), ((175, 11, 13, 0), 7026), ((13, 11, 14, 0), 7027), ((16, 11, 15, 0), 7028), ((19, 11, 16, 0), 7029), ((22, 11, 17, 0), 7030), ((25, 11, 18, 0), 7031), ((29, 11, 19, 0), 7032), ((32, 11, 20, 0), 7033), ((35, 11, 21, 0), 7034), ((195, 11, 22, 3), 7035), ((255, 11, 23, 0), 7036), ((258, 11, 24, 0), 7037), ((219, 11, 25, 0), 7038), ((222, 11, 26, 0), 7039), ((39, 11, 27, 0), 7040), ((42, 11, 28, 0), 7041), ((45, 11, 29, 0), 7042), ((48, 11, 30, 0), 7043), ((51, 11, 31, 0), 7044), ((54, 11, 32, 0), 7045), ((57, 11, 33, 0), 7046), ((60, 11, 34, 0), 7047), ((63, 11, 35, 0), 7048), ((66, 11, 36, 0), 7049), ((69, 11, 37, 0), 7050), ((72, 11, 38, 0), 7051), ((401, 11, 39, 0), 7052), ((75, 11, 40, 0), 7053), ((78, 11, 41, 0), 7054), ((81, 11, 42, 0), 7055), ((445, 11, 43, 0), 7056), ((442, 11, 44, 0), 7057), ((448, 11, 45, 0), 7058), ((436, 11, 46, 0), 7059), ((433, 11, 47, 0), 7060), ((427, 11, 48, 0), 7061), ((430, 11, 49, 0), 7062), ((84, 11, 51, 0), 7063), ((463, 11, 52, 0), 7064), ((454, 11, 53, 0), 7065), ((466, 11, 54, 0), 7066), ((88, 11, 55, 0), 7067), ((91, 11, 56, 0), 7068), ((94, 11, 57, 0), 7069), ((97, 11, 58, 0), 7070), ((489, 11, 59, 0), 7071), ((504, 11, 60, 0), 7072), ((507, 11, 61, 0), 7073), ((495, 11, 62, 0), 7074)]
theorem nn_PF20_ok : ∀ q ∈ nn_PF20.map (fun x => x.1), ab_fok vwCl nn_TT "NameNotesModel" q := nn_f_ok nn_cls_all (by decide +kernel)
def nn_PS20 : List ((Nat × Nat) × Nat × Bool) := []
theorem nn_PS20_ok : ∀ q ∈ nn_PS20.map (fun x => x.1), ab_psok nn_TT nn_kd "NameNotesModel" q := nn_ps_ok nn_mh (by decide +kernel)
def nn_PM20_0 : List nn_LK := [((106, 0, 206), 7210, 1012, 7209, 45, 7207), ((249, 0, 209), 7222, 1012, 7221, 46, 7219), ((188, 0, 210), 7226, 1012, 7225, 47, 7223), ((191, 0, 211), 7230, 1012, 7229, 48, 7227), ((182, 0, 212), 7234, 1012, 7233, 49, 7231), ((129, 0, 213), 7237, 1012, 7236, 0, 7235), ((133, 0, 214), 8000, 1012, 7239, 0, 7238), ((146, 0, 215), 8004, 1012, 8003, 50, 8001), ((252, 0, 216), 8010, 1012, 8009, 51, 8007), ((225, 0, 217), 8014, 1012, 8013, 52, 8011), ((158, 0, 218), 8017, 1012, 8016, 0, 8015), ((154, 0, 219), 8020, 1012, 8019, 0, 8018), ((228, 0, 220), 8024, 1012, 8023, 53, 8021), ((168, 0, 221), 8028, 1012, 8027, 54, 8025), ((207, 0, 222), 8032, 1012, 8031, 55, 8029), ((199, 0, 223), 8036, 1012, 8035, 56, 8033), ((203, 0, 224), 8039, 1012, 8038, 0, 8037), ((178, 0, 225), 8043, 1012, 8042, 57, 8040), ((171, 0, 226), 8046, 1012, 8045, 0, 8044), ((210, 0, 227), 8050, 1012, 8049, 58, 8047)]
theorem nn_PM20_0_ok : ∀ q ∈ nn_PM20_0.map (fun x => x.1), ab_mlk nn_MT nn_TT nn_NW "NameNotesModel" q := nn_lk_ok nn_MT_in (by decide +kernel)
def nn_PM20_1 : List nn_LK := [((231, 0, 228), 8054, 1012, 8053, 59, 8051), ((213, 0, 229), 8058, 1012, 8057, 60, 8055), ((216, 0, 230), 8061, 1012, 8060, 0, 8059), ((234, 0, 231), 8065, 1012, 8064, 61, 8062), ((237, 0, 232), 8069, 1012, 8068, 62, 8066), ((240, 0, 233), 8073, 1012, 8072, 63, 8070), ((243, 0, 234), 8077, 1012, 8076, 64, 8074), ((246, 0, 235), 8081, 1012, 8080, 65, 8078), ((185, 0, 236), 8085, 1012, 8084, 66, 8082), ((267, 0, 239), 8097, 1012, 8096, 67, 8094), ((261, 0, 240), 8101, 1012, 8100, 68, 8098), ((270, 0, 241), 8105, 1012, 8104, 69, 8102), ((273, 0, 242), 8109, 1012, 8108, 70, 8106), ((277, 0, 244), 8117, 1012, 8116, 71, 8114), ((264, 0, 247), 8129, 1012, 8128, 72, 8126), ((281, 0, 249), 8137, 1012, 8136, 73, 8134), ((284, 0, 250), 8141, 1012, 8140, 74, 8138), ((297, 0, 253), 8152, 1012, 8151, 0, 8150), ((300, 0, 254), 8156, 1012, 8155, 75, 8153), ((303, 0, 255), 8160, 1012, 8159, 76, 8157)]
theorem nn_PM20_1_ok : ∀ q ∈ nn_PM20_1.map (fun x => x.1), ab_mlk nn_MT nn_TT nn_NW "NameNotesModel" q := nn_lk_ok nn_MT_in (by decide +kernel)
def nn_PM20_2 : List nn_LK := [((306, 0, 256), 8164, 1012, 8163, 77, 8161), ((294, 0, 257), 8168, 1012, 8167, 78, 8165), ((291, 0, 258), 8172, 1012, 8171, 79, 8169), ((287, 0, 259), 8176, 1012, 8175, 80, 8173), ((310, 0, 262), 8188, 1012, 8187, 81, 8185), ((319, 0, 267), 8208, 1012, 8207, 82, 8205), ((313, 0, 268), 8212, 1012, 8211, 83, 8209), ((316, 0, 269), 8215, 1012, 8214, 0, 8213), ((322, 0, 274), 8234, 1012, 8233, 0, 8232), ((342, 0, 276), 9002, 1012, 9001, 84, 8239), ((345, 0, 277), 9006, 1012, 9005, 85, 9003), ((335, 0, 278), 9010, 1012, 9009, 86, 9007), ((331, 0, 279), 9014, 1012, 9013, 87, 9011), ((351, 0, 280), 9022, 1012, 9021, 88, 9019), ((110, 0, 281), 9025, 1012, 9024, 0, 9023), ((355, 0, 283), 9033, 1012, 9032, 89, 9030), ((338, 0, 284), 9037, 1012, 9036, 90, 9034), ((362, 0, 287), 9049, 1012, 9048, 0, 9047), ((370, 0, 291), 9068, 1012, 9067, 91, 9065), ((384, 0, 294), 9080, 1012, 9079, 92, 9077)]
theorem nn_PM20_2_ok : ∀ q ∈ nn_PM20_2.map (fun x => x.1), ab_mlk nn_MT nn_TT nn_NW "NameNotesModel" q := nn_lk_ok nn_MT_in (by decide +kernel)
def nn_PM20_3 : List nn_LK := [((381, 0, 295), 9084, 1012, 9083, 93, 9081), ((387, 0, 296), 9088, 1012, 9087, 94, 9085), ((374, 0, 297), 9092, 1012, 9091, 95, 9089), ((378, 0, 298), 9096, 1012, 9095, 96, 9093), ((393, 0, 301), 9108, 1012, 9107, 97, 9105), ((390, 0, 302), 9112, 1012, 9111, 98, 9109), ((398, 0, 306), 9129, 1012, 9128, 99, 9126), ((407, 0, 310), 9145, 1012, 9144, 100, 9142), ((404, 0, 311), 9149, 1012, 9148, 101, 9146), ((411, 0, 316), 9169, 1012, 9168, 102, 9166), ((420, 0, 320), 9184, 1012, 9183, 0, 9182), ((423, 0, 321), 9188, 1012, 9187, 103, 9185), ((416, 0, 322), 9191, 1012, 9190, 0, 9189), ((457, 0, 326), 9208, 1012, 9207, 104, 9205), ((460, 0, 327), 9212, 1012, 9211, 105, 9209), ((451, 0, 328), 9216, 1012, 9215, 106, 9213), ((439, 0, 329), 9220, 1012, 9219, 107, 9217), ((483, 0, 333), 9236, 1012, 9235, 108, 9233), ((486, 0, 334), 10000, 1012, 9239, 109, 9237), ((480, 0, 335), 10004, 1012, 10003, 110, 10001)]
theorem nn_PM20_3_ok : ∀ q ∈ nn_PM20_3.map (fun x => x.1), ab_mlk nn_MT nn_TT nn_NW "NameNotesModel" q := nn_lk_ok nn_MT_in (by decide +kernel)
def nn_PM20_4 : List nn_LK := [((470, 0, 336), 10008, 1012, 10007, 111, 10005), ((473, 0, 337), 10012, 1012, 10011, 0, 10010), ((476, 0, 338), 10016, 1012, 10015, 112, 10013), ((522, 0, 342), 10032, 1012, 10031, 113, 10029), ((492, 0, 343), 10036, 1012, 10035, 114, 10033), ((501, 0, 344), 10040, 1012, 10039, 115, 10037), ((510, 0, 345), 10044, 1012, 10043, 116, 10041), ((513, 0, 346), 10048, 1012, 10047, 117, 10045), ((498, 0, 347), 10052, 1012, 10051, 118, 10049), ((516, 0, 348), 10056, 1012, 10055, 119, 10053), ((519, 0, 349), 10060, 1012, 10059, 120, 10057), ((525, 0, 351), 10068, 1012, 10067, 121, 10065)]
theorem nn_PM20_4_ok : ∀ q ∈ nn_PM20_4.map (fun x => x.1), ab_mlk nn_MT nn_TT nn_NW "NameNotesModel" q := nn_lk_ok nn_MT_in (by decide +kernel)
def nn_PM20 : List nn_LK := nn_PM20_0 ++ (nn_PM20_1 ++ (nn_PM20_2 ++ (nn_PM20_3 ++ (nn_PM20_4))))
theorem nn_PM20_ok : ∀ q ∈ nn_PM20.map (fun x => x.1), ab_mlk nn_MT nn_TT nn_NW "NameNotesModel" q := nn_lk_app nn_PM20_0_ok (nn_lk_app nn_PM20_1_ok (nn_lk_app nn_PM20_2_ok (nn_lk_app nn_PM20_3_ok (nn_PM20_4_ok))))
/-! java/lang/Math -/
/-! jdk/internal/util/Preconditions -/
def nn_sh : List ab_SP := [
  .inl (10, [(2, 1), (2, 3), (2, 18), (2, 33), (2, 48), (2, 65), (2, 69), (2, 73), (2, 77), (2, 81), (2, 85), (2, 87), (2, 89), (2, 90), (2, 91), (2, 92), (0, 0), (0, 0)]),
  .inl (8, [(2, 2), (0, 0), (0, 0), (0, 0), (0, 0), (0, 0), (1, 0), (4, 0), (0, 0), (0, 0), (0, 0)]),
  .inr (2, 940),
  .inl (6, [(2, 4), (2, 5), (2, 6), (2, 7), (2, 8), (2, 9), (2, 10), (2, 11), (2, 12), (2, 13), (2, 14), (0, 0), (0, 0), (0, 0), (0, 0), (0, 0), (0, 0)]),
  .inr (0, 81),
  .inr (0, 81),
  .inr (0, 9),
  .inr (0, 324),
  .inr (0, 6),
  .inr (0, 45),
  .inr (0, 5),
  .inr (1, 9),
  .inr (1, 6),
  .inr (1, 5),
  .inl (5, [(2, 15), (2, 16), (2, 17), (0, 0), (0, 0)]),
  .inr (0, 64),
  .inr (0, 64),
  .inr (0, 64),
  .inl (6, [(2, 19), (2, 20), (2, 21), (2, 22), (2, 23), (2, 24), (2, 25), (2, 26), (2, 27), (2, 28), (2, 29), (0, 0), (0, 0), (0, 0), (0, 0), (0, 0), (0, 0)]),
  .inr (0, 81),
  .inr (0, 81),
  .inr (0, 9),
  .inr (0, 324),
  .inr (0, 6),
  .inr (0, 45),
  .inr (0, 5),
  .inr (1, 9),
  .inr (1, 6),
  .inr (1, 5),
  .inl (5, [(2, 30), (2, 31), (2, 32), (0, 0), (0, 0)]),
  .inr (0, 64),
  .inr (0, 64),
  .inr (0, 64),
  .inl (6, [(2, 34), (2, 35), (2, 36), (2, 37), (2, 38), (2, 39), (2, 40), (2, 41), (2, 42), (2, 43), (2, 44), (0, 0), (0, 0), (0, 0), (0, 0), (0, 0), (0, 0)]),
  .inr (0, 81),
  .inr (0, 81),
  .inr (0, 9),
  .inr (0, 324),
  .inr (0, 6),
  .inr (0, 45),
  .inr (0, 5),
  .inr (1, 9),
  .inr (1, 6),
  .inr (1, 5),
  .inl (5, [(2, 45), (2, 46), (2, 47), (0, 0), (0, 0)]),
  .inr (0, 64),
  .inr (0, 64),
  .inr (0, 64),
  .inl (7, [(2, 1), (2, 49), (2, 64), (0, 0), (0, 0), (0, 0)]),
  .inl (6, [(2, 50), (2, 51), (2, 52), (2, 53), (2, 54), (2, 55), (2, 56), (2, 57), (2, 58), (2, 59), (2, 60), (0, 0), (0, 0), (0, 0), (0, 0), (0, 0), (0, 0)]),
  .inr (0, 81),
  .inr (0, 81),
  .inr (0, 9),
  .inr (0, 324),
  .inr (0, 6),
  .inr (0, 45),
  .inr (0, 5),
  .inr (1, 9),
  .inr (1, 6),
  .inr (1, 5),
  .inl (5, [(2, 61), (2, 62), (2, 63), (0, 0), (0, 0)]),
  .inr (0, 64),
  .inr (0, 64),
  .inr (0, 64),
  .inr (0, 5),
  .inl (5, [(2, 66), (2, 67), (2, 68), (0, 0), (0, 0)]),
  .inr (0, 64),
  .inr (0, 64),
  .inr (0, 64),
  .inl (2, [(2, 70), (2, 71), (2, 72), (0, 0), (0, 0), (0, 0), (0, 0), (0, 0)]),
  .inr (0, 128),
  .inr (0, 128),
  .inr (0, 5),
  .inl (1, [(2, 74), (2, 75), (2, 76), (0, 0)]),
  .inr (0, 9),
  .inr (0, 9),
  .inr (1, 9),
  .inl (0, [(2, 78), (2, 79), (2, 80)]),
  .inr (1, 20),
  .inr (1, 20),
  .inr (0, 20),
  .inl (4, [(2, 82), (2, 83), (2, 84), (0, 0), (0, 0), (0, 0), (0, 0)]),
  .inr (0, 2),
  .inr (0, 2),
  .inr (0, 2),
  .inl (3, [(2, 86), (0, 0)]),
  .inr (0, 88),
  .inl (9, [(2, 88), (0, 0)]),
  .inr (0, 200),
  .inr (0, 100),
  .inr (0, 9),
  .inr (0, 9),
  .inr (0, 5),
  .inl (11, [(0, 0), (2, 94), (0, 0), (0, 0), (0, 0), (0, 0), (0, 0), (0, 0), (0, 0), (0, 0), (0, 0), (0, 0), (1, 0), (0, 0), (2, 95), (2, 96), (2, 97), (2, 98), (2, 99), (2, 100), (2, 101), (2, 102), (0, 0), (0, 0), (0, 0), (0, 0), (0, 0), (2, 103), (2, 104), (2, 105), (2, 106), (2, 107), (2, 108), (2, 109), (2, 110), (2, 111), (2, 112), (2, 113), (2, 114), (0, 0), (2, 115), (2, 116), (2, 117), (0, 0), (0, 0), (0, 0), (0, 0), (0, 0), (0, 0), (0, 0), (0, 0), (0, 0), (0, 0), (0, 0), (0, 0), (2, 118), (2, 119), (2, 120), (2, 121), (0, 0), (0, 0), (0, 0), (0, 0)]),
  .inr (0, 940),
  .inr (0, 474),
  .inr (0, 232),
  .inr (0, 948),
  .inr (0, 400),
  .inr (1, 20),
  .inr (1, 20),
  .inr (1, 40),
  .inr (3, 2),
  .inr (0, 5),
  .inr (0, 10),
  .inr (0, 10),
  .inr (0, 9),
  .inr (1, 10),
  .inr (1, 20),
  .inr (1, 20),
  .inr (1, 10),
  .inr (0, 20),
  .inr (0, 10),
  .inr (0, 200),
  .inr (0, 7),
  .inr (1, 25),
  .inr (0, 25),
  .inr (0, 5),
  .inr (0, 2),
  .inr (0, 5),
  .inr (0, 5),
  .inr (0, 240),
  .inr (1, 1)]
