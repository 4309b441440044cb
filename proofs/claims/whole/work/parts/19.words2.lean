/-! checks of the program: printed by wip/whole/gen/mkcode.py -/
def zYl : List MethodName := [⟨"WordWar", "<init>", "()V"⟩, ⟨"WordWar$Tape", "<init>", "()V"⟩, ⟨"WordWar$Army", "<init>", "()V"⟩, ⟨"WordWar$Camp", "<init>", "()V"⟩, ⟨"WordWar$Chooser", "<init>", "()V"⟩, ⟨"java/util/Arrays", "fill", "([II)V"⟩, ⟨"WordWar$Acts", "<init>", "()V"⟩, ⟨"WordWar$LawReader", "<init>", "()V"⟩, ⟨"WordWar$Law", "<init>", "()V"⟩, ⟨"WordWar$Treaty", "<init>", "()V"⟩, ⟨"WordWar$Fights", "<init>", "()V"⟩, ⟨"WordWar$Soldiers", "<init>", "()V"⟩, ⟨"WordWar", "strength", "(II)Z"⟩, ⟨"WordWar", "isLetter", "(I)Z"⟩, ⟨"WordWar", "reserve", "(III)Z"⟩, ⟨"WordWar", "isSide", "(I)Z"⟩, ⟨"WordWar", "feed", "(IIIII)I"⟩, ⟨"WordWar$Tape", "append", "(I)V"⟩, ⟨"WordWar", "order", "(I)Z"⟩, ⟨"WordWar$Tape", "open", "(I)V"⟩, ⟨"WordWar$Army", "takeOrder", "(LWordWar$Tape;)Z"⟩, ⟨"WordWar$Tape", "takeByte", "()I"⟩, ⟨"WordWar$Tape", "peek", "()I"⟩, ⟨"WordWar", "has", "(II)Z"⟩, ⟨"WordWar", "lexicon", "(II)I"⟩, ⟨"WordWar$Tape", "holdsText", "(III)Z"⟩, ⟨"WordWar$Army", "takeLexicon", "(LWordWar$Tape;)I"⟩, ⟨"WordWar$Tape", "atLetter", "()Z"⟩, ⟨"WordWar$Tape", "fail", "(II)V"⟩, ⟨"WordWar$Tape", "takeWord", "()I"⟩, ⟨"WordWar$Tape", "takeLetter", "()I"⟩, ⟨"WordWar$Words", "changed", "(III)I"⟩, ⟨"WordWar$Army", "indexOf", "([III)I"⟩, ⟨"WordWar$Tape", "atEnd", "()Z"⟩, ⟨"WordWar$Army", "adopt", "(I)V"⟩, ⟨"WordWar$Army", "saveTo", "(LWordWar$Camp;)V"⟩, ⟨"WordWar$Army", "stands", "(I)Z"⟩, ⟨"WordWar$Army", "hasWord", "(I)Z"⟩, ⟨"WordWar$Army", "loadFrom", "(LWordWar$Camp;)V"⟩, ⟨"WordWar$Army", "find", "(I)I"⟩, ⟨"WordWar$Army", "sendHome", "(I)V"⟩, ⟨"WordWar$Words", "letterAt", "(II)I"⟩, ⟨"WordWar$Army", "add", "(III)V"⟩, ⟨"WordWar$Tape", "pass", "(I)Z"⟩, ⟨"WordWar", "law", "(I)I"⟩, ⟨"WordWar$LawReader", "read", "(LWordWar$Tape;LWordWar$Law;)V"⟩, ⟨"WordWar$Law", "clear", "()V"⟩, ⟨"WordWar$LawReader", "readClause", "()V"⟩, ⟨"WordWar$LawReader", "readSum", "(I)V"⟩, ⟨"WordWar$LawReader", "readProduct", "(I)V"⟩, ⟨"WordWar$LawReader", "readFactor", "(I)V"⟩, ⟨"WordWar$LawReader", "opens", "(I)Z"⟩, ⟨"WordWar$Tape", "atDigit", "()Z"⟩, ⟨"WordWar$LawReader", "readNumber", "()V"⟩, ⟨"WordWar$Law", "put", "(II)V"⟩, ⟨"WordWar$LawReader", "putSign", "(I)V"⟩, ⟨"WordWar$LawReader", "readCondition", "(I)V"⟩, ⟨"WordWar$LawReader", "readPart", "(I)V"⟩, ⟨"WordWar$LawReader", "readPiece", "(I)V"⟩, ⟨"WordWar$LawReader", "readOpened", "(II)V"⟩, ⟨"WordWar$Law", "putJump", "(II)I"⟩, ⟨"WordWar$Law", "aimHere", "(I)V"⟩, ⟨"WordWar", "seed", "(I)Z"⟩, ⟨"WordWar", "orders", "(II)I"⟩, ⟨"WordWar", "readActs", "(II)I"⟩, ⟨"WordWar$Acts", "read", "(LWordWar$Tape;)V"⟩, ⟨"WordWar$Acts", "canBegin", "(LWordWar$Tape;)Z"⟩, ⟨"WordWar$Acts", "readAct", "(LWordWar$Tape;)V"⟩, ⟨"WordWar$Words", "sizeOf", "(I)I"⟩, ⟨"WordWar$Acts", "takeChange", "(LWordWar$Tape;I)I"⟩, ⟨"WordWar", "doAct", "(II)Z"⟩, ⟨"WordWar$Army", "form", "(I)Z"⟩, ⟨"WordWar$Army", "canForm", "(I)Z"⟩, ⟨"WordWar$Army", "room", "()I"⟩, ⟨"java/lang/Integer", "bitCount", "(I)I"⟩, ⟨"WordWar$Words", "times", "(II)I"⟩, ⟨"WordWar$Army", "dissolve", "(I)Z"⟩, ⟨"WordWar$Words", "backwards", "(I)I"⟩, ⟨"WordWar$Army", "replace", "(II)Z"⟩, ⟨"WordWar", "attack", "(III)Z"⟩, ⟨"WordWar", "isAhead", "(IILWordWar$Army;)Z"⟩, ⟨"WordWar$Words", "keyOf", "(I[I)J"⟩, ⟨"WordWar", "tell", "(I)V"⟩, ⟨"WordWar", "tellWord", "(I)V"⟩, ⟨"WordWar", "strengthOf", "(I)I"⟩, ⟨"WordWar", "nextDraw", "()I"⟩, ⟨"WordWar$Law", "ask", "(I[I)I"⟩, ⟨"WordWar$Law", "run", "(I[I)I"⟩, ⟨"WordWar$Law", "pop", "()I"⟩, ⟨"WordWar$Law", "push", "(I)V"⟩, ⟨"WordWar$Law", "step", "(II[I)V"⟩, ⟨"WordWar$Law", "reckon", "(III)I"⟩, ⟨"WordWar$Law", "mostOf", "(I)I"⟩, ⟨"WordWar$Army", "lose", "(III)V"⟩, ⟨"WordWar$Words", "firstOf", "(II)I"⟩, ⟨"WordWar", "changeBySpy", "(LWordWar$Army;LWordWar$Army;I)Z"⟩, ⟨"WordWar", "judged", "(II)I"⟩, ⟨"WordWar", "turn", "()I"⟩, ⟨"WordWar", "deserts", "(II)Z"⟩, ⟨"WordWar", "word", "(III)I"⟩, ⟨"WordWar", "worthOf", "(II)I"⟩, ⟨"WordWar", "beats", "(II)I"⟩, ⟨"WordWar", "outcome", "(II)I"⟩, ⟨"WordWar", "place", "(III)I"⟩, ⟨"WordWar", "best", "(II)I"⟩, ⟨"WordWar", "prepareChooser", "(I)V"⟩, ⟨"WordWar$Chooser", "clear", "()V"⟩, ⟨"WordWar$Chooser", "offer", "(III)V"⟩, ⟨"WordWar$Words", "needs", "(II)J"⟩, ⟨"WordWar", "searchBest", "(IIII)I"⟩, ⟨"WordWar$Words", "packed", "([IIII)J"⟩, ⟨"WordWar$Chooser", "search", "(JJII)I"⟩, ⟨"WordWar$Chooser", "fits", "(JJ)Z"⟩, ⟨"WordWar$Chooser", "fillBounds", "(I)V"⟩, ⟨"WordWar$Chooser", "choose", "(IIJJII)V"⟩, ⟨"WordWar", "against", "(II)I"⟩, ⟨"WordWar", "beatenBy", "(ILWordWar$Army;)I"⟩, ⟨"WordWar", "atOnce", "(I)I"⟩, ⟨"WordWar$Army", "formable", "()I"⟩, ⟨"WordWar", "fillGains", "(II)V"⟩, ⟨"WordWar", "gainOf", "(II)I"⟩, ⟨"WordWar", "bothStay", "(IIII)Z"⟩, ⟨"WordWar", "exchange", "(II)I"⟩, ⟨"WordWar", "gainTogether", "(IIIII)I"⟩, ⟨"WordWar", "canExchange", "(III)Z"⟩, ⟨"WordWar", "wants", "(II)Z"⟩, ⟨"WordWar", "exchanged", "(III)Z"⟩, ⟨"WordWar", "home", "(II)Z"⟩, ⟨"WordWar", "peace", "(III)I"⟩, ⟨"WordWar$Treaty", "make", "(II[I)V"⟩, ⟨"WordWar$Treaty", "fillLeft", "(IIII)V"⟩, ⟨"WordWar$Treaty", "leftAt", "(IIIIII)I"⟩, ⟨"WordWar$Treaty", "takesFirst", "(IIIIZ)Z"⟩, ⟨"WordWar$Treaty", "holdsPlace", "(I)Z"⟩, ⟨"WordWar", "spy", "(III)I"⟩, ⟨"WordWar$Army", "nearTo", "(III)I"⟩, ⟨"WordWar$Words", "unlike", "(II)I"⟩, ⟨"WordWar", "fight", "(I)I"⟩, ⟨"WordWar$Fights", "take", "(LWordWar$Tape;)I"⟩, ⟨"WordWar$Fights", "change", "()V"⟩, ⟨"WordWar", "learnt", "(I)J"⟩, ⟨"WordWar$Fights", "countRows", "()J"⟩, ⟨"WordWar$Fights", "fillMust", "()V"⟩, ⟨"WordWar$Fights", "fillBegun", "()V"⟩, ⟨"WordWar$Fights", "firstRowAt", "(I)I"⟩, ⟨"WordWar", "ahead", "(II)J"⟩, ⟨"WordWar$Fights", "rowsWith", "(II)J"⟩, ⟨"WordWar$Fights", "fillEnded", "()V"⟩, ⟨"WordWar$Fights", "fillRows", "()V"⟩, ⟨"java/util/Arrays", "fill", "([JJ)V"⟩, ⟨"WordWar$Fights", "addRows", "(IIJ)V"⟩, ⟨"WordWar", "skirmish", "(I)J"⟩, ⟨"WordWar", "forget", "()I"⟩, ⟨"WordWar$Fights", "drop", "()I"⟩, ⟨"WordWar", "soldier", "(IIIII)Z"⟩, ⟨"WordWar", "isOnNet", "(I)Z"⟩, ⟨"WordWar$Soldiers", "enlist", "(IIIII)V"⟩, ⟨"WordWar", "march", "(IIIII)I"⟩, ⟨"WordWar$Soldiers", "assemble", "(III)Z"⟩, ⟨"WordWar$Soldiers", "hoursTo", "(IIII)I"⟩, ⟨"WordWar$Soldiers", "fillReach", "(I)V"⟩, ⟨"WordWar$Soldiers", "canFill", "(III)Z"⟩, ⟨"WordWar$Soldiers", "settle", "(II)Z"⟩, ⟨"WordWar$Soldiers", "chooseWho", "(I)V"⟩, ⟨"WordWar", "dead", "(II)I"⟩, ⟨"WordWar$Army", "total", "(I)I"⟩, ⟨"WordWar$Army", "mostAlike", "(I)I"⟩, ⟨"WordWar$Army", "letterInLine", "(II)I"⟩, ⟨"WordWar", "keep", "()I"⟩, ⟨"WordWar$Fights", "save", "()V"⟩, ⟨"WordWar$Soldiers", "save", "()V"⟩, ⟨"WordWar", "undo", "()Z"⟩, ⟨"WordWar$Fights", "load", "()V"⟩, ⟨"WordWar$Soldiers", "load", "()V"⟩, ⟨"WordWar", "check", "(II)I"⟩, ⟨"WordWar$Tape", "takeNumber", "()I"⟩, ⟨"WordWar", "count", "(I)I"⟩, ⟨"WordWar", "countHeld", "(II)I"⟩, ⟨"WordWar", "countOfSide", "(I)I"⟩, ⟨"WordWar$Soldiers", "enlisted", "()I"⟩, ⟨"WordWarModel", "<init>", "()V"⟩, ⟨"WordWarModel", "strength", "(II)Z"⟩, ⟨"WordWarModel", "isLetter", "(I)Z"⟩, ⟨"WordWarModel", "in", "(III)Z"⟩, ⟨"WordWarModel", "reserve", "(III)Z"⟩, ⟨"WordWarModel", "isSide", "(I)Z"⟩, ⟨"WordWarModel", "feed", "(IIIII)I"⟩, ⟨"WordWarModel", "types", "(I)V"⟩, ⟨"WordWarModel", "order", "(I)Z"⟩, ⟨"WordWarModel", "has", "(II)Z"⟩, ⟨"WordWarModel", "lexicon", "(II)I"⟩, ⟨"WordWarModel", "readsLexWord", "()Z"⟩, ⟨"WordWarModel", "isLetterHere", "()Z"⟩, ⟨"WordWarModel", "here", "()I"⟩, ⟨"WordWarModel", "wrongAt", "(II)Z"⟩, ⟨"WordWarModel", "readsWord", "([II)Z"⟩, ⟨"WordWarModel", "areAlike", "([III[III)Z"⟩, ⟨"WordWarModel", "takes", "(I)Z"⟩, ⟨"WordWarModel", "manyOf", "(I)I"⟩, ⟨"WordWarModel", "fieldOf", "(I)I"⟩, ⟨"WordWarModel", "isInNew", "(II)Z"⟩, ⟨"WordWarModel", "beginOf", "(II)I"⟩, ⟨"WordWarModel", "longOf", "(II)I"⟩, ⟨"WordWarModel", "goesHome", "(I[III)V"⟩, ⟨"WordWarModel", "adds", "([III)V"⟩, ⟨"WordWarModel", "min", "(II)I"⟩, ⟨"WordWarModel", "wordIn", "(I[III)I"⟩, ⟨"WordWarModel", "setField", "(II)V"⟩, ⟨"WordWarModel", "law", "(I)I"⟩, ⟨"WordWarModel", "readsClause", "()Z"⟩, ⟨"WordWarModel", "isClause", "(I)Z"⟩, ⟨"WordWarModel", "readsSum", "()Z"⟩, ⟨"WordWarModel", "readsFactor", "()Z"⟩, ⟨"WordWarModel", "opens", "(I)Z"⟩, ⟨"WordWarModel", "isDigit", "()Z"⟩, ⟨"WordWarModel", "readsNumber", "()Z"⟩, ⟨"WordWarModel", "notes", "(II)V"⟩, ⟨"WordWarModel", "factOf", "(I)I"⟩, ⟨"WordWarModel", "sumSign", "(I)I"⟩, ⟨"WordWarModel", "closesSums", "(Z)V"⟩, ⟨"WordWarModel", "waitTop", "()I"⟩, ⟨"WordWarModel", "hasOpenSum", "(I)Z"⟩, ⟨"WordWarModel", "readsCondition", "()Z"⟩, ⟨"WordWarModel", "readsCompared", "()Z"⟩, ⟨"WordWarModel", "endsPiece", "()V"⟩, ⟨"WordWarModel", "lands", "(Z)V"⟩, ⟨"WordWarModel", "jumps", "(I)V"⟩, ⟨"WordWarModel", "orders", "(II)I"⟩, ⟨"WordWarModel", "readsActs", "(I)Z"⟩, ⟨"WordWarModel", "readsAct", "()Z"⟩, ⟨"WordWarModel", "readsAttack", "()Z"⟩, ⟨"WordWarModel", "readsFirst", "()Z"⟩, ⟨"WordWarModel", "readsSpy", "()Z"⟩, ⟨"WordWarModel", "does", "(II)Z"⟩, ⟨"WordWarModel", "forms", "(II)Z"⟩, ⟨"WordWarModel", "canForm", "(II)Z"⟩, ⟨"WordWarModel", "bits", "(I)I"⟩, ⟨"WordWarModel", "isThere", "(I[III)Z"⟩, ⟨"WordWarModel", "stands", "(IIZ)V"⟩, ⟨"WordWarModel", "turns", "(II)Z"⟩, ⟨"WordWarModel", "spies", "(IIII)Z"⟩, ⟨"WordWarModel", "isBeating", "(III)Z"⟩, ⟨"WordWarModel", "compare", "(I[III[III)I"⟩, ⟨"WordWarModel", "loses", "(III)V"⟩, ⟨"WordWarModel", "draws", "()I"⟩, ⟨"WordWarModel", "feelsWord", "(II)V"⟩, ⟨"WordWarModel", "feels", "(I)V"⟩, ⟨"WordWarModel", "strengthIn", "(II)I"⟩, ⟨"WordWarModel", "byLaw", "(II)I"⟩, ⟨"WordWarModel", "comesTo", "(II)I"⟩, ⟨"WordWarModel", "reckon", "(III)I"⟩, ⟨"WordWarModel", "judged", "(II)I"⟩, ⟨"WordWarModel", "begins", "()V"⟩, ⟨"WordWarModel", "copies", "([I[II)V"⟩, ⟨"WordWarModel", "again", "()V"⟩, ⟨"WordWarModel", "turn", "()I"⟩, ⟨"WordWarModel", "word", "(III)I"⟩, ⟨"WordWarModel", "isWord", "(II)Z"⟩, ⟨"WordWarModel", "worthOf", "(II)I"⟩, ⟨"WordWarModel", "beats", "(II)I"⟩, ⟨"WordWarModel", "fightOf", "(II)I"⟩, ⟨"WordWarModel", "place", "(III)I"⟩, ⟨"WordWarModel", "best", "(II)I"⟩, ⟨"WordWarModel", "laysBest", "(I)I"⟩, ⟨"WordWarModel", "canBeFormed", "(II)Z"⟩, ⟨"WordWarModel", "against", "(II)I"⟩, ⟨"WordWarModel", "beatenBy", "(II)I"⟩, ⟨"WordWarModel", "atOnce", "(I)I"⟩, ⟨"WordWarModel", "laysGains", "()V"⟩, ⟨"WordWarModel", "rests", "(I)Z"⟩, ⟨"WordWarModel", "exchange", "(II)I"⟩, ⟨"WordWarModel", "areExchanged", "(III)Z"⟩, ⟨"WordWarModel", "exchanges", "(III)V"⟩, ⟨"WordWarModel", "exchanged", "(III)Z"⟩, ⟨"WordWarModel", "home", "(II)Z"⟩, ⟨"WordWarModel", "peace", "(III)I"⟩, ⟨"WordWarModel", "laysPeace", "(II)I"⟩, ⟨"WordWarModel", "laysShortest", "(II)V"⟩, ⟨"WordWarModel", "spy", "(III)I"⟩, ⟨"WordWarModel", "unlike", "(III)I"⟩, ⟨"WordWarModel", "bears", "(II)Z"⟩, ⟨"WordWarModel", "fight", "(I)I"⟩, ⟨"WordWarModel", "learnt", "(I)J"⟩, ⟨"WordWarModel", "laysMust", "()V"⟩, ⟨"WordWarModel", "laysWays", "()J"⟩, ⟨"WordWarModel", "ahead", "(II)J"⟩, ⟨"WordWarModel", "waysWith", "(II)J"⟩, ⟨"WordWarModel", "skirmish", "(I)J"⟩, ⟨"WordWarModel", "forget", "()I"⟩, ⟨"WordWarModel", "soldier", "(IIIII)Z"⟩, ⟨"WordWarModel", "march", "(IIIII)I"⟩, ⟨"WordWarModel", "laysHours", "(IIII)V"⟩, ⟨"WordWarModel", "size", "(I)I"⟩, ⟨"WordWarModel", "canMarch", "(III)Z"⟩, ⟨"WordWarModel", "finds", "(III)Z"⟩, ⟨"WordWarModel", "moves", "(II)V"⟩, ⟨"WordWarModel", "isFirst", "(IIII)Z"⟩, ⟨"WordWarModel", "forgetsFrom", "(I)V"⟩, ⟨"WordWarModel", "dead", "(II)I"⟩, ⟨"WordWarModel", "max", "(II)I"⟩, ⟨"WordWarModel", "seed", "(I)Z"⟩, ⟨"WordWarModel", "keep", "()I"⟩, ⟨"WordWarModel", "keepsField", "(I)V"⟩, ⟨"WordWarModel", "sumOf", "([II)I"⟩, ⟨"WordWarModel", "undo", "()Z"⟩, ⟨"WordWarModel", "undoesField", "(I)V"⟩, ⟨"WordWarModel", "check", "(II)I"⟩, ⟨"WordWarModel", "tapeNumber", "(I)I"⟩, ⟨"WordWarModel", "count", "(I)I"⟩, ⟨"WordWarModel", "soldierMany", "()I"⟩, ⟨"WordWarLaw", "law", "([I)Z"⟩]
def zY (n : Nat) : MethodName := zYl.getD n ⟨"", "", ""⟩
def zBl : List ByteArray := [prog_1_method_1_code, prog_10_method_1_code, prog_3_method_1_code, prog_4_method_1_code, prog_5_method_1_code, prog_21_method_103_code, prog_2_method_1_code, prog_8_method_1_code, prog_7_method_1_code, prog_11_method_1_code, prog_6_method_1_code, prog_9_method_1_code, prog_1_method_2_code, prog_1_method_61_code, prog_1_method_3_code, prog_1_method_60_code, prog_1_method_4_code, prog_10_method_2_code, prog_1_method_5_code, prog_10_method_4_code, prog_3_method_2_code, prog_10_method_11_code, prog_10_method_5_code, prog_1_method_36_code, prog_1_method_6_code, prog_10_method_3_code, prog_3_method_3_code, prog_10_method_7_code, prog_10_method_9_code, prog_10_method_14_code, prog_10_method_13_code, prog_12_method_3_code, prog_3_method_8_code, prog_10_method_6_code, prog_3_method_4_code, prog_3_method_5_code, prog_3_method_10_code, prog_3_method_9_code, prog_3_method_6_code, prog_3_method_7_code, prog_3_method_18_code, prog_12_method_2_code, prog_3_method_19_code, prog_10_method_10_code, prog_1_method_7_code, prog_8_method_2_code, prog_7_method_2_code, prog_8_method_3_code, prog_8_method_8_code, prog_8_method_9_code, prog_8_method_10_code, prog_8_method_12_code, prog_10_method_8_code, prog_8_method_11_code, prog_7_method_3_code, prog_8_method_13_code, prog_8_method_4_code, prog_8_method_5_code, prog_8_method_6_code, prog_8_method_7_code, prog_7_method_4_code, prog_7_method_5_code, prog_1_method_8_code, prog_1_method_9_code, prog_1_method_11_code, prog_2_method_2_code, prog_2_method_3_code, prog_2_method_4_code, prog_12_method_4_code, prog_2_method_5_code, prog_1_method_15_code, prog_3_method_14_code, prog_3_method_12_code, prog_3_method_11_code, prog_15_method_49_code, prog_12_method_8_code, prog_3_method_15_code, prog_12_method_6_code, prog_3_method_16_code, prog_1_method_17_code, prog_1_method_18_code, prog_12_method_7_code, prog_1_method_19_code, prog_1_method_20_code, prog_1_method_21_code, prog_1_method_14_code, prog_7_method_6_code, prog_7_method_8_code, prog_7_method_12_code, prog_7_method_11_code, prog_7_method_9_code, prog_7_method_10_code, prog_7_method_7_code, prog_3_method_17_code, prog_12_method_5_code, prog_1_method_16_code, prog_1_method_10_code, prog_1_method_12_code, prog_1_method_13_code, prog_1_method_23_code, prog_1_method_22_code, prog_1_method_24_code, prog_1_method_25_code, prog_1_method_26_code, prog_1_method_27_code, prog_1_method_28_code, prog_5_method_2_code, prog_5_method_3_code, prog_12_method_10_code, prog_1_method_29_code, prog_12_method_11_code, prog_5_method_4_code, prog_5_method_5_code, prog_5_method_6_code, prog_5_method_7_code, prog_1_method_30_code, prog_1_method_31_code, prog_1_method_32_code, prog_3_method_13_code, prog_1_method_33_code, prog_1_method_34_code, prog_1_method_35_code, prog_1_method_37_code, prog_1_method_38_code, prog_1_method_40_code, prog_1_method_39_code, prog_1_method_41_code, prog_1_method_42_code, prog_1_method_43_code, prog_11_method_3_code, prog_11_method_4_code, prog_11_method_5_code, prog_11_method_6_code, prog_11_method_2_code, prog_1_method_44_code, prog_3_method_23_code, prog_12_method_9_code, prog_1_method_45_code, prog_6_method_2_code, prog_6_method_6_code, prog_1_method_46_code, prog_6_method_7_code, prog_6_method_8_code, prog_6_method_9_code, prog_6_method_11_code, prog_1_method_47_code, prog_6_method_12_code, prog_6_method_10_code, prog_6_method_13_code, prog_21_method_101_code, prog_6_method_14_code, prog_1_method_48_code, prog_1_method_49_code, prog_6_method_3_code, prog_1_method_50_code, prog_1_method_52_code, prog_9_method_2_code, prog_1_method_51_code, prog_9_method_6_code, prog_9_method_7_code, prog_9_method_8_code, prog_9_method_10_code, prog_9_method_11_code, prog_9_method_9_code, prog_1_method_53_code, prog_3_method_20_code, prog_3_method_21_code, prog_3_method_22_code, prog_1_method_54_code, prog_6_method_4_code, prog_9_method_4_code, prog_1_method_55_code, prog_6_method_5_code, prog_9_method_5_code, prog_1_method_56_code, prog_10_method_12_code, prog_1_method_57_code, prog_1_method_58_code, prog_1_method_59_code, prog_9_method_3_code, prog_14_method_1_code, prog_14_method_9_code, prog_14_method_8_code, prog_14_method_2_code, prog_14_method_10_code, prog_14_method_7_code, prog_14_method_13_code, prog_14_method_12_code, prog_14_method_14_code, prog_14_method_5_code, prog_14_method_31_code, prog_14_method_29_code, prog_14_method_27_code, prog_14_method_32_code, prog_14_method_34_code, prog_14_method_28_code, prog_14_method_21_code, prog_14_method_35_code, prog_14_method_15_code, prog_14_method_16_code, prog_14_method_30_code, prog_14_method_19_code, prog_14_method_20_code, prog_14_method_26_code, prog_14_method_11_code, prog_14_method_3_code, prog_14_method_22_code, prog_14_method_17_code, prog_14_method_53_code, prog_14_method_52_code, prog_14_method_51_code, prog_14_method_45_code, prog_14_method_43_code, prog_14_method_38_code, prog_14_method_33_code, prog_14_method_36_code, prog_14_method_37_code, prog_14_method_40_code, prog_14_method_41_code, prog_14_method_42_code, prog_14_method_39_code, prog_14_method_44_code, prog_14_method_50_code, prog_14_method_49_code, prog_14_method_46_code, prog_14_method_47_code, prog_14_method_48_code, prog_14_method_74_code, prog_14_method_66_code, prog_14_method_65_code, prog_14_method_64_code, prog_14_method_62_code, prog_14_method_63_code, prog_14_method_73_code, prog_14_method_69_code, prog_14_method_68_code, prog_14_method_6_code, prog_14_method_25_code, prog_14_method_67_code, prog_14_method_70_code, prog_14_method_71_code, prog_14_method_24_code, prog_14_method_23_code, prog_14_method_72_code, prog_14_method_61_code, prog_14_method_59_code, prog_14_method_57_code, prog_14_method_58_code, prog_14_method_56_code, prog_14_method_55_code, prog_14_method_54_code, prog_14_method_78_code, prog_14_method_76_code, prog_14_method_75_code, prog_14_method_77_code, prog_14_method_79_code, prog_14_method_80_code, prog_14_method_18_code, prog_14_method_60_code, prog_14_method_82_code, prog_14_method_81_code, prog_14_method_83_code, prog_14_method_86_code, prog_14_method_85_code, prog_14_method_84_code, prog_14_method_88_code, prog_14_method_87_code, prog_14_method_91_code, prog_14_method_89_code, prog_14_method_90_code, prog_14_method_94_code, prog_14_method_92_code, prog_14_method_93_code, prog_14_method_95_code, prog_14_method_96_code, prog_14_method_99_code, prog_14_method_98_code, prog_14_method_97_code, prog_14_method_102_code, prog_14_method_100_code, prog_14_method_101_code, prog_14_method_103_code, prog_14_method_106_code, prog_14_method_104_code, prog_14_method_105_code, prog_14_method_108_code, prog_14_method_107_code, prog_14_method_109_code, prog_14_method_110_code, prog_14_method_111_code, prog_14_method_117_code, prog_14_method_113_code, prog_14_method_112_code, prog_14_method_116_code, prog_14_method_114_code, prog_14_method_115_code, prog_14_method_118_code, prog_14_method_119_code, prog_14_method_120_code, prog_14_method_4_code, prog_14_method_121_code, prog_14_method_125_code, prog_14_method_123_code, prog_14_method_122_code, prog_14_method_126_code, prog_14_method_124_code, prog_14_method_128_code, prog_14_method_127_code, prog_14_method_130_code, prog_14_method_129_code, code]
def zB (n : Nat) : ByteArray := zBl.getD n ByteArray.empty
def zOl : List (Option FieldType) := [none, none, none, none, none, none, none, none, none, none, none, none, some .boolean, some .boolean, some .boolean, some .boolean, some .int, none, some .boolean, none, some .boolean, some .int, some .int, some .boolean, some .int, some .boolean, some .int, some .boolean, none, some .int, some .int, some .int, some .int, some .boolean, none, none, some .boolean, some .boolean, none, some .int, none, some .int, none, some .boolean, some .int, none, none, none, none, none, none, some .boolean, some .boolean, none, none, none, none, none, none, none, some .int, none, some .boolean, some .int, some .int, none, some .boolean, none, some .int, some .int, some .boolean, some .boolean, some .boolean, some .int, some .int, some .int, some .boolean, some .int, some .boolean, some .boolean, some .boolean, some .long, none, none, some .int, some .int, some .int, some .int, some .int, none, none, some .int, some .int, none, some .int, some .boolean, some .int, some .int, some .boolean, some .int, some .int, some .int, some .int, some .int, some .int, none, none, none, some .long, some .int, some .long, some .int, some .boolean, none, none, some .int, some .int, some .int, some .int, none, some .int, some .boolean, some .int, some .int, some .boolean, some .boolean, some .boolean, some .boolean, some .int, none, none, some .int, some .boolean, some .boolean, some .int, some .int, some .int, some .int, some .int, none, some .long, some .long, none, none, some .int, some .long, some .long, none, none, none, none, some .long, some .int, some .int, some .boolean, some .boolean, none, some .int, some .boolean, some .int, none, some .boolean, some .boolean, none, some .int, some .int, some .int, some .int, some .int, none, none, some .boolean, none, none, some .int, some .int, some .int, some .int, some .int, some .int, none, some .boolean, some .boolean, some .boolean, some .boolean, some .boolean, some .int, none, some .boolean, some .boolean, some .int, some .boolean, some .boolean, some .int, some .boolean, some .boolean, some .boolean, some .boolean, some .int, some .int, some .boolean, some .int, some .int, none, none, some .int, some .int, none, some .int, some .boolean, some .boolean, some .boolean, some .boolean, some .boolean, some .boolean, some .boolean, none, some .int, some .int, none, some .int, some .boolean, some .boolean, some .boolean, none, none, none, some .int, some .boolean, some .boolean, some .boolean, some .boolean, some .boolean, some .boolean, some .boolean, some .boolean, some .int, some .boolean, none, some .boolean, some .boolean, some .boolean, some .int, none, some .int, none, none, some .int, some .int, some .int, some .int, some .int, none, none, none, some .int, some .int, some .boolean, some .int, some .int, some .int, some .int, some .int, some .int, some .boolean, some .int, some .int, some .int, none, some .boolean, some .int, some .boolean, none, some .boolean, some .boolean, some .int, some .int, none, some .int, some .int, some .boolean, some .int, some .long, none, some .long, some .long, some .long, some .long, some .int, some .boolean, some .int, none, some .int, some .boolean, some .boolean, none, some .boolean, none, some .int, some .int, some .boolean, some .int, none, some .int, some .boolean, none, some .int, some .int, some .int, some .int, some .boolean]
def zO (n : Nat) : Option FieldType := zOl.getD n none
def znM : Nat := 310
def zstl : List Bool := [false, false, false, false, false, true, false, false, false, false, false, false, false, true, false, true, false, false, false, false, false, false, false, true, false, false, false, false, false, false, false, true, true, false, false, false, false, false, false, false, false, true, false, false, false, false, false, false, false, false, false, false, false, false, false, false, false, false, false, false, false, false, false, false, false, false, true, false, true, true, false, false, false, false, true, true, false, true, false, false, true, true, false, false, false, false, false, false, false, false, false, false, true, false, true, false, false, false, false, false, false, false, false, false, false, false, false, false, true, false, true, false, true, false, false, false, true, false, false, false, false, false, false, false, false, false, false, false, false, false, false, false, false, false, false, false, true, false, false, false, false, false, false, false, false, false, false, false, false, true, false, false, false, false, false, true, false, false, false, false, false, false, false, false, false, false, false, false, false, false, false, false, false, false, false, false, false, false, false, false, false, false, true, true, false, true, false, false, false, true, false, false, false, false, false, false, true, false, false, false, false, true, false, false, true, true, false, false, false, false, true, false, false, false, false, false, false, true, true, false, false, false, false, false, false, false, false, false, false, false, false, false, false, false, false, false, true, false, false, false, false, false, false, false, false, false, false, false, false, false, true, false, false, true, false, false, false, false, false, false, false, false, false, false, false, false, false, false, false, false, false, false, false, false, false, false, false, false, false, false, false, false, false, false, false, false, false, false, false, false, false, false, true, false, false, false, false, false, false, true, false, false, false, false, false, false, false, false, false, false, false]
def zst (n : Nat) : Bool := zstl.getD n false
def zpnl : List Nat := [0, 0, 0, 0, 0, 2, 0, 0, 0, 0, 0, 0, 2, 1, 3, 1, 5, 1, 1, 1, 1, 0, 0, 2, 2, 3, 1, 0, 2, 0, 0, 3, 3, 0, 1, 1, 1, 1, 1, 1, 1, 2, 3, 1, 1, 2, 0, 0, 1, 1, 1, 1, 0, 0, 2, 1, 1, 1, 1, 2, 2, 1, 1, 2, 2, 1, 1, 1, 1, 2, 2, 1, 1, 0, 1, 2, 1, 1, 2, 3, 3, 2, 1, 1, 1, 0, 2, 2, 0, 1, 3, 3, 1, 3, 2, 3, 2, 0, 2, 3, 2, 2, 2, 3, 2, 1, 0, 3, 2, 4, 4, 4, 2, 1, 6, 2, 2, 1, 0, 2, 2, 4, 2, 5, 3, 2, 3, 2, 3, 3, 4, 6, 5, 1, 3, 3, 2, 1, 1, 0, 1, 0, 0, 0, 1, 2, 2, 0, 0, 2, 3, 1, 0, 0, 5, 1, 5, 5, 3, 4, 1, 3, 2, 1, 2, 1, 1, 2, 0, 0, 0, 0, 0, 0, 2, 0, 1, 2, 1, 0, 0, 2, 1, 3, 3, 1, 5, 1, 1, 2, 2, 0, 0, 0, 2, 2, 6, 1, 1, 1, 2, 2, 2, 4, 3, 2, 4, 2, 1, 0, 1, 0, 0, 1, 0, 0, 2, 1, 1, 1, 0, 1, 0, 0, 0, 1, 1, 2, 1, 0, 0, 0, 0, 2, 2, 2, 1, 4, 3, 2, 4, 3, 7, 3, 0, 2, 1, 2, 2, 2, 3, 2, 0, 3, 0, 0, 3, 2, 2, 2, 2, 3, 2, 1, 2, 2, 2, 1, 0, 1, 2, 3, 3, 3, 2, 3, 2, 2, 3, 3, 2, 1, 1, 0, 0, 2, 2, 1, 0, 5, 5, 4, 1, 3, 3, 2, 4, 1, 2, 2, 1, 0, 1, 2, 0, 1, 2, 1, 1, 0, 1]
def zpn (n : Nat) : Nat := zpnl.getD n 0
def zpm : List (Nat × Nat) := [(1, 25), (1, 33), (1, 67), (1, 73), (1, 123), (1, 160), (1, 165), (1, 188), (1, 201), (2, 1), (2, 19), (2, 57), (2, 152), (2, 156), (2, 159), (2, 163), (2, 166), (2, 170), (2, 174), (2, 178), (2, 185), (2, 189), (2, 193), (2, 198), (2, 201), (2, 205), (2, 209), (2, 213), (2, 218), (2, 222), (2, 226), (2, 233), (2, 236), (2, 239), (3, 4), (3, 7), (3, 14), (3, 18), (3, 22), (3, 26), (3, 31), (3, 34), (3, 37), (3, 42), (3, 46), (3, 50), (3, 54), (3, 61), (3, 119), (3, 123), (3, 127), (3, 132), (3, 135), (3, 140), (3, 144), (3, 150), (3, 156), (3, 160), (3, 164), (3, 168), (3, 172), (3, 177), (3, 182), (3, 187), (3, 192), (3, 195), (3, 201), (3, 208), (3, 213), (3, 217), (3, 223), (3, 227), (3, 231), (3, 235), (3, 239), (4, 5), (4, 8), (4, 12), (4, 17), (4, 22), (4, 26), (4, 29), (4, 34), (4, 38), (4, 43), (4, 48), (4, 51), (4, 56), (4, 60), (4, 64), (4, 68), (4, 72), (4, 75), (4, 82), (4, 88), (4, 92), (4, 97), (4, 103), (4, 108), (4, 111), (4, 118), (4, 121), (4, 126), (4, 129), (4, 133), (4, 138), (4, 141), (4, 146), (4, 150), (4, 154), (4, 157), (4, 164), (4, 169), (4, 176), (4, 180), (4, 183), (4, 187), (4, 190), (4, 194), (4, 199), (4, 204), (4, 208), (4, 211), (4, 216), (4, 220), (4, 224), (4, 228), (4, 232), (4, 236), (5, 0), (5, 6), (5, 10), (5, 17), (5, 20), (5, 24), (5, 28), (5, 32), (5, 36), (5, 40), (5, 51), (5, 54), (5, 58), (5, 63), (5, 68), (5, 73), (5, 77), (5, 82), (5, 88), (5, 92), (5, 95), (5, 99), (5, 102), (5, 109), (5, 113), (5, 117), (5, 121), (5, 124), (5, 128), (5, 132), (5, 139), (5, 146), (5, 150), (5, 155), (5, 160), (5, 163), (5, 167), (5, 171), (5, 175), (5, 179), (5, 183), (5, 188), (5, 193), (5, 197), (5, 201), (5, 205), (5, 209), (5, 213), (5, 218), (5, 222), (5, 225), (5, 231), (7, 33), (7, 37), (7, 40), (7, 43), (7, 47), (7, 50), (7, 55), (7, 58), (7, 62), (7, 65), (7, 70), (7, 74), (7, 78), (7, 82), (7, 86), (7, 89), (7, 93), (7, 97), (7, 101), (7, 105), (7, 108), (7, 112), (7, 116), (7, 119), (7, 122), (7, 126), (7, 130), (7, 133), (7, 138), (7, 141), (7, 145), (7, 149), (7, 153), (7, 158), (7, 162), (7, 166), (7, 169), (7, 172), (7, 176), (7, 180), (7, 184), (7, 188), (7, 192), (7, 196), (7, 200), (7, 204), (7, 207), (7, 212), (7, 216), (7, 220), (7, 224), (7, 228), (7, 232), (7, 236), (8, 0), (8, 3), (8, 7), (8, 11), (8, 15), (8, 19), (8, 23), (8, 27), (8, 31), (8, 35), (8, 40), (8, 44), (8, 48), (8, 52), (8, 56), (8, 59), (8, 62), (8, 67), (8, 70), (8, 74), (8, 77), (8, 81), (8, 86), (8, 90), (8, 93), (8, 98), (8, 101), (8, 105), (8, 110), (8, 114), (8, 117), (8, 122), (8, 125), (8, 130), (8, 134), (8, 137), (8, 142), (8, 146), (8, 149), (8, 153), (8, 157), (8, 162), (8, 166), (8, 170), (8, 175), (8, 179), (8, 182), (8, 186), (8, 192), (8, 196), (8, 200), (8, 205), (8, 209), (8, 213), (8, 217), (8, 221), (8, 226), (8, 229), (8, 233), (8, 237), (9, 1), (9, 5), (9, 9), (9, 12), (9, 16), (9, 19), (9, 24), (9, 29), (9, 33), (9, 36), (9, 41), (9, 44), (9, 49), (9, 52), (9, 57)]
def zps0 : List (Nat × Nat) := [(99, 0), (99, 0), (99, 0), (99, 0), (99, 0), (99, 0), (99, 0), (99, 0), (99, 0), (99, 0), (99, 0), (99, 0), (2, 153), (99, 0), (2, 160), (99, 0), (2, 167), (2, 171), (2, 175), (2, 179), (2, 186), (2, 190), (2, 194), (99, 0), (2, 202), (2, 206), (2, 210), (2, 214), (2, 219), (2, 223), (2, 227), (99, 0), (99, 0), (3, 0), (0, 0), (3, 8), (3, 15), (3, 19), (3, 23), (3, 27), (0, 1), (99, 0), (3, 38), (3, 43), (3, 47), (3, 51), (3, 55), (0, 2), (0, 3), (0, 4), (0, 5), (0, 6), (3, 136), (0, 7), (3, 145), (0, 8), (0, 9), (0, 10), (0, 11), (0, 12), (3, 173), (3, 178), (3, 183), (3, 188), (0, 13), (3, 196), (99, 0), (0, 14), (99, 0), (99, 0), (0, 15), (3, 228), (3, 232), (3, 236), (99, 0), (99, 0), (4, 9), (99, 0), (4, 18), (0, 16), (99, 0), (99, 0), (0, 17), (0, 18), (0, 19), (0, 20), (4, 52), (0, 21), (0, 22), (0, 23), (0, 24), (0, 25), (99, 0), (4, 83), (99, 0), (0, 26), (4, 98), (4, 104), (0, 27), (4, 112), (0, 28), (4, 122), (0, 29), (4, 130), (4, 134), (0, 30), (4, 142), (4, 147), (99, 0), (0, 31), (99, 0), (4, 165), (99, 0), (0, 32), (0, 33), (4, 184), (99, 0), (4, 191), (4, 195), (0, 34), (0, 35), (0, 36), (4, 212), (0, 37), (0, 38), (0, 39), (4, 229), (4, 233), (4, 237), (5, 1), (0, 40), (0, 41), (0, 42), (5, 21), (5, 25), (5, 29), (99, 0), (5, 37), (5, 41), (0, 43), (5, 55), (5, 59), (0, 44), (0, 45), (5, 74), (5, 78), (5, 83), (0, 46), (0, 47), (99, 0), (0, 48), (5, 103), (5, 110), (5, 114), (5, 118), (99, 0), (5, 125), (5, 129), (5, 133), (0, 49), (0, 50), (0, 51), (0, 52), (0, 53), (5, 164), (5, 168), (5, 172), (5, 176), (5, 180), (5, 184), (5, 189), (5, 194), (5, 198), (5, 202), (5, 206), (5, 210), (5, 214), (0, 54), (0, 55), (5, 226), (99, 0), (7, 34), (99, 0), (99, 0), (7, 44), (99, 0), (7, 51), (0, 56), (7, 59), (99, 0), (7, 66), (0, 57), (0, 58), (0, 59), (0, 60), (0, 61), (99, 0), (0, 62), (0, 63), (0, 64), (0, 65), (99, 0), (0, 66), (0, 67), (99, 0), (99, 0), (0, 68), (0, 69), (7, 134), (0, 70), (99, 0), (0, 71), (0, 72), (0, 73), (0, 74), (0, 75), (0, 76), (99, 0), (99, 0), (0, 77), (0, 78), (0, 79), (0, 80), (0, 81), (0, 82), (0, 83), (0, 84), (7, 208), (0, 85), (0, 86), (0, 87), (0, 88), (0, 89), (0, 90), (0, 91), (0, 92), (99, 0), (0, 93), (0, 94), (0, 95), (0, 96), (0, 97), (0, 98), (0, 99), (0, 100), (0, 101), (0, 102), (0, 103), (0, 104), (0, 105), (99, 0), (8, 63), (0, 106), (99, 0), (0, 107), (8, 78), (8, 82), (0, 108), (0, 109), (8, 94), (0, 110), (8, 102), (8, 106), (0, 111), (0, 112), (8, 118), (0, 113), (8, 126), (0, 114), (0, 115), (8, 138), (0, 116), (0, 117), (8, 150), (8, 154), (8, 158), (0, 118), (0, 119), (8, 171), (0, 120), (0, 121), (8, 183), (8, 187), (0, 122), (0, 123), (8, 201), (0, 124), (8, 210), (8, 214), (8, 218), (8, 222), (0, 125), (99, 0), (0, 126), (0, 127), (0, 128), (0, 129), (0, 130), (9, 13), (99, 0), (9, 20), (9, 25), (0, 131), (0, 132), (9, 37), (0, 133), (9, 45), (0, 134), (9, 53), (0, 135)]
def zpi : List (Nat × Nat) := [(1, 1), (1, 2), (1, 3), (1, 4), (1, 5), (1, 6), (1, 7), (1, 8), (1, 9), (1, 10), (1, 11), (1, 12), (1, 1), (1, 1), (1, 1), (1, 1), (1, 1), (1, 2), (1, 1), (1, 2), (1, 3), (1, 2), (1, 2), (1, 1), (1, 1), (1, 2), (1, 3), (1, 2), (1, 2), (1, 2), (1, 2), (1, 15), (1, 3), (1, 2), (1, 3), (1, 3), (1, 3), (1, 3), (1, 3), (1, 3), (1, 3), (1, 15), (1, 3), (1, 2), (1, 1), (1, 8), (1, 9), (1, 8), (1, 8), (1, 8), (1, 8), (1, 8), (1, 2), (1, 8), (1, 9), (1, 8), (1, 8), (1, 8), (1, 8), (1, 8), (1, 9), (1, 9), (1, 1), (1, 1), (1, 1), (1, 7), (1, 7), (1, 7), (1, 15), (1, 7), (1, 1), (1, 3), (1, 3), (1, 3), (1, 21), (1, 15), (1, 3), (1, 15), (1, 3), (1, 1), (1, 1), (1, 15), (1, 1), (1, 1), (1, 1), (1, 1), (1, 9), (1, 9), (1, 9), (1, 9), (1, 9), (1, 9), (1, 9), (1, 3), (1, 15), (1, 1), (1, 1), (1, 1), (1, 1), (1, 1), (1, 1), (1, 1), (1, 1), (1, 1), (1, 1), (1, 1), (1, 5), (1, 5), (1, 15), (1, 1), (1, 15), (1, 5), (1, 5), (1, 5), (1, 5), (1, 1), (1, 1), (1, 1), (1, 3), (1, 1), (1, 1), (1, 1), (1, 1), (1, 1), (1, 1), (1, 1), (1, 1), (1, 1), (1, 1), (1, 10), (1, 10), (1, 10), (1, 10), (1, 10), (1, 1), (1, 3), (1, 15), (1, 1), (1, 11), (1, 11), (1, 1), (1, 11), (1, 11), (1, 11), (1, 11), (1, 1), (1, 11), (1, 11), (1, 11), (1, 6), (1, 11), (1, 1), (1, 1), (1, 11), (1, 1), (1, 1), (1, 12), (1, 1), (1, 12), (1, 12), (1, 12), (1, 12), (1, 12), (1, 12), (1, 1), (1, 3), (1, 3), (1, 3), (1, 1), (1, 11), (1, 12), (1, 1), (1, 11), (1, 12), (1, 1), (1, 2), (1, 1), (1, 1), (1, 1), (1, 12), (1, 13), (1, 13), (1, 13), (1, 13), (1, 13), (1, 13), (1, 13), (1, 13), (1, 13), (1, 13), (1, 13), (1, 13), (1, 13), (1, 13), (1, 13), (1, 13), (1, 13), (1, 13), (1, 13), (1, 13), (1, 13), (1, 13), (1, 13), (1, 13), (1, 13), (1, 13), (1, 13), (1, 13), (1, 13), (1, 13), (1, 13), (1, 13), (1, 13), (1, 13), (1, 13), (1, 13), (1, 13), (1, 13), (1, 13), (1, 13), (1, 13), (1, 13), (1, 13), (1, 13), (1, 13), (1, 13), (1, 13), (1, 13), (1, 13), (1, 13), (1, 13), (1, 13), (1, 13), (1, 13), (1, 13), (1, 13), (1, 13), (1, 13), (1, 13), (1, 13), (1, 13), (1, 13), (1, 13), (1, 13), (1, 13), (1, 13), (1, 13), (1, 13), (1, 13), (1, 13), (1, 13), (1, 13), (1, 13), (1, 13), (1, 13), (1, 13), (1, 13), (1, 13), (1, 13), (1, 13), (1, 13), (1, 13), (1, 13), (1, 13), (1, 13), (1, 13), (1, 13), (1, 13), (1, 13), (1, 13), (1, 13), (1, 13), (1, 13), (1, 13), (1, 13), (1, 13), (1, 13), (1, 13), (1, 13), (1, 13), (1, 13), (1, 13), (1, 13), (1, 13), (1, 13), (1, 13), (1, 13), (1, 13), (1, 13), (1, 13), (1, 13), (1, 13), (1, 13), (1, 13), (1, 13), (1, 13), (1, 13), (1, 13), (1, 13), (1, 13), (1, 13), (1, 13), (1, 13), (1, 13), (1, 13), (1, 13), (1, 13), (1, 13), (1, 13), (1, 13)]
def zwp (l : List (Nat × Nat)) (n : Nat) : Option Cond := (zseg (l.getD n (99, 0)).1)[(l.getD n (99, 0)).2]?
theorem zwp_in {l : List (Nat × Nat)} {n : Nat} {w : Cond} (h : zwp l n = some w) : w ∈ lw_tbl := zseg_in (List.mem_of_getElem? h)
def zmchk (n : Nat) : Bool := decide (zwp zpm n = some (if zst n = true then .static (zY n) else .instanceMethod (zY n))) && (decide (zwp zpi n = some (.initialized (zY n).cls)) && ((zps0.getD n (99, 0)).1 == 99 || decide (zwp zps0 n = some (.selects (zY n).cls (zY n) (zY n)))) && (decide ((parseMethodDescriptor (zY n).desc).map (fun d => d.parameters.length) = some (zpn n)) && (plainName (zY n).cls && (!decide ((zY n).cls = "java/lang/invoke/MethodHandle") && (!decide ((zY n).cls = "java/lang/invoke/VarHandle") && (decide ((zP n).2.2.1 ≤ 41) && (!(zP n).2.1 || decide ((zY n).name = "<init>"))))))))
set_option maxRecDepth 100000 in
theorem zmc_0 : ∀ n, n < 40 → zmchk (0 + n) = true := by decide +kernel
set_option maxRecDepth 100000 in
theorem zmc_1 : ∀ n, n < 40 → zmchk (40 + n) = true := by decide +kernel
set_option maxRecDepth 100000 in
theorem zmc_2 : ∀ n, n < 40 → zmchk (80 + n) = true := by decide +kernel
set_option maxRecDepth 100000 in
theorem zmc_3 : ∀ n, n < 40 → zmchk (120 + n) = true := by decide +kernel
set_option maxRecDepth 100000 in
theorem zmc_4 : ∀ n, n < 40 → zmchk (160 + n) = true := by decide +kernel
set_option maxRecDepth 100000 in
theorem zmc_5 : ∀ n, n < 40 → zmchk (200 + n) = true := by decide +kernel
set_option maxRecDepth 100000 in
theorem zmc_6 : ∀ n, n < 40 → zmchk (240 + n) = true := by decide +kernel
set_option maxRecDepth 100000 in
theorem zmc_7 : ∀ n, n < 30 → zmchk (280 + n) = true := by decide +kernel
theorem zmc_all : ∀ n, n < znM → zmchk n = true := by
  intro n hn
  have hn : n < 310 := hn
  by_cases h0 : n < 40
  · have := zmc_0 (n - 0) (by omega)
    rwa [show 0 + (n - 0) = n by omega] at this
  by_cases h1 : n < 80
  · have := zmc_1 (n - 40) (by omega)
    rwa [show 40 + (n - 40) = n by omega] at this
  by_cases h2 : n < 120
  · have := zmc_2 (n - 80) (by omega)
    rwa [show 80 + (n - 80) = n by omega] at this
  by_cases h3 : n < 160
  · have := zmc_3 (n - 120) (by omega)
    rwa [show 120 + (n - 120) = n by omega] at this
  by_cases h4 : n < 200
  · have := zmc_4 (n - 160) (by omega)
    rwa [show 160 + (n - 160) = n by omega] at this
  by_cases h5 : n < 240
  · have := zmc_5 (n - 200) (by omega)
    rwa [show 200 + (n - 200) = n by omega] at this
  by_cases h6 : n < 280
  · have := zmc_6 (n - 240) (by omega)
    rwa [show 240 + (n - 240) = n by omega] at this
  by_cases h7 : n < 310
  · have := zmc_7 (n - 280) (by omega)
    rwa [show 280 + (n - 280) = n by omega] at this
  omega
theorem zcd_0 : Cond.code (zY 0) (zB 0) (zP 0).2.2.1 (zO 0) ∈ lw_tbl := zseg_in (j := 1) (List.mem_of_getElem? (i := 26) (show (zseg 1)[26]? = some (.code ⟨"WordWar", "<init>", "()V"⟩ prog_1_method_1_code 1 none) from rfl))
theorem zcd_1 : Cond.code (zY 1) (zB 1) (zP 1).2.2.1 (zO 1) ∈ lw_tbl := zseg_in (j := 1) (List.mem_of_getElem? (i := 34) (show (zseg 1)[34]? = some (.code ⟨"WordWar$Tape", "<init>", "()V"⟩ prog_10_method_1_code 1 none) from rfl))
theorem zcd_2 : Cond.code (zY 2) (zB 2) (zP 2).2.2.1 (zO 2) ∈ lw_tbl := zseg_in (j := 1) (List.mem_of_getElem? (i := 68) (show (zseg 1)[68]? = some (.code ⟨"WordWar$Army", "<init>", "()V"⟩ prog_3_method_1_code 2 none) from rfl))
theorem zcd_3 : Cond.code (zY 3) (zB 3) (zP 3).2.2.1 (zO 3) ∈ lw_tbl := zseg_in (j := 1) (List.mem_of_getElem? (i := 74) (show (zseg 1)[74]? = some (.code ⟨"WordWar$Camp", "<init>", "()V"⟩ prog_4_method_1_code 1 none) from rfl))
theorem zcd_4 : Cond.code (zY 4) (zB 4) (zP 4).2.2.1 (zO 4) ∈ lw_tbl := zseg_in (j := 1) (List.mem_of_getElem? (i := 124) (show (zseg 1)[124]? = some (.code ⟨"WordWar$Chooser", "<init>", "()V"⟩ prog_5_method_1_code 1 none) from rfl))
theorem zcd_5 : Cond.code (zY 5) (zB 5) (zP 5).2.2.1 (zO 5) ∈ lw_tbl := zseg_in (j := 1) (List.mem_of_getElem? (i := 161) (show (zseg 1)[161]? = some (.code ⟨"java/util/Arrays", "fill", "([II)V"⟩ prog_21_method_103_code 4 none) from rfl))
theorem zcd_6 : Cond.code (zY 6) (zB 6) (zP 6).2.2.1 (zO 6) ∈ lw_tbl := zseg_in (j := 1) (List.mem_of_getElem? (i := 166) (show (zseg 1)[166]? = some (.code ⟨"WordWar$Acts", "<init>", "()V"⟩ prog_2_method_1_code 1 none) from rfl))
theorem zcd_7 : Cond.code (zY 7) (zB 7) (zP 7).2.2.1 (zO 7) ∈ lw_tbl := zseg_in (j := 1) (List.mem_of_getElem? (i := 189) (show (zseg 1)[189]? = some (.code ⟨"WordWar$LawReader", "<init>", "()V"⟩ prog_8_method_1_code 1 none) from rfl))
theorem zcd_8 : Cond.code (zY 8) (zB 8) (zP 8).2.2.1 (zO 8) ∈ lw_tbl := zseg_in (j := 1) (List.mem_of_getElem? (i := 202) (show (zseg 1)[202]? = some (.code ⟨"WordWar$Law", "<init>", "()V"⟩ prog_7_method_1_code 1 none) from rfl))
theorem zcd_9 : Cond.code (zY 9) (zB 9) (zP 9).2.2.1 (zO 9) ∈ lw_tbl := zseg_in (j := 2) (List.mem_of_getElem? (i := 2) (show (zseg 2)[2]? = some (.code ⟨"WordWar$Treaty", "<init>", "()V"⟩ prog_11_method_1_code 1 none) from rfl))
theorem zcd_10 : Cond.code (zY 10) (zB 10) (zP 10).2.2.1 (zO 10) ∈ lw_tbl := zseg_in (j := 2) (List.mem_of_getElem? (i := 20) (show (zseg 2)[20]? = some (.code ⟨"WordWar$Fights", "<init>", "()V"⟩ prog_6_method_1_code 1 none) from rfl))
theorem zcd_11 : Cond.code (zY 11) (zB 11) (zP 11).2.2.1 (zO 11) ∈ lw_tbl := zseg_in (j := 2) (List.mem_of_getElem? (i := 58) (show (zseg 2)[58]? = some (.code ⟨"WordWar$Soldiers", "<init>", "()V"⟩ prog_9_method_1_code 1 none) from rfl))
theorem zcd_12 : Cond.code (zY 12) (zB 12) (zP 12).2.2.1 (zO 12) ∈ lw_tbl := zseg_in (j := 2) (List.mem_of_getElem? (i := 154) (show (zseg 2)[154]? = some (.code ⟨"WordWar", "strength", "(II)Z"⟩ prog_1_method_2_code 3 (some .boolean)) from rfl))
theorem zcd_13 : Cond.code (zY 13) (zB 13) (zP 13).2.2.1 (zO 13) ∈ lw_tbl := zseg_in (j := 2) (List.mem_of_getElem? (i := 157) (show (zseg 2)[157]? = some (.code ⟨"WordWar", "isLetter", "(I)Z"⟩ prog_1_method_61_code 1 (some .boolean)) from rfl))
theorem zcd_14 : Cond.code (zY 14) (zB 14) (zP 14).2.2.1 (zO 14) ∈ lw_tbl := zseg_in (j := 2) (List.mem_of_getElem? (i := 161) (show (zseg 2)[161]? = some (.code ⟨"WordWar", "reserve", "(III)Z"⟩ prog_1_method_3_code 4 (some .boolean)) from rfl))
theorem zcd_15 : Cond.code (zY 15) (zB 15) (zP 15).2.2.1 (zO 15) ∈ lw_tbl := zseg_in (j := 2) (List.mem_of_getElem? (i := 164) (show (zseg 2)[164]? = some (.code ⟨"WordWar", "isSide", "(I)Z"⟩ prog_1_method_60_code 1 (some .boolean)) from rfl))
theorem zcd_16 : Cond.code (zY 16) (zB 16) (zP 16).2.2.1 (zO 16) ∈ lw_tbl := zseg_in (j := 2) (List.mem_of_getElem? (i := 168) (show (zseg 2)[168]? = some (.code ⟨"WordWar", "feed", "(IIIII)I"⟩ prog_1_method_4_code 6 (some .int)) from rfl))
theorem zcd_17 : Cond.code (zY 17) (zB 17) (zP 17).2.2.1 (zO 17) ∈ lw_tbl := zseg_in (j := 2) (List.mem_of_getElem? (i := 172) (show (zseg 2)[172]? = some (.code ⟨"WordWar$Tape", "append", "(I)V"⟩ prog_10_method_2_code 3 none) from rfl))
theorem zcd_18 : Cond.code (zY 18) (zB 18) (zP 18).2.2.1 (zO 18) ∈ lw_tbl := zseg_in (j := 2) (List.mem_of_getElem? (i := 176) (show (zseg 2)[176]? = some (.code ⟨"WordWar", "order", "(I)Z"⟩ prog_1_method_5_code 2 (some .boolean)) from rfl))
theorem zcd_19 : Cond.code (zY 19) (zB 19) (zP 19).2.2.1 (zO 19) ∈ lw_tbl := zseg_in (j := 2) (List.mem_of_getElem? (i := 180) (show (zseg 2)[180]? = some (.code ⟨"WordWar$Tape", "open", "(I)V"⟩ prog_10_method_4_code 2 none) from rfl))
theorem zcd_20 : Cond.code (zY 20) (zB 20) (zP 20).2.2.1 (zO 20) ∈ lw_tbl := zseg_in (j := 2) (List.mem_of_getElem? (i := 187) (show (zseg 2)[187]? = some (.code ⟨"WordWar$Army", "takeOrder", "(LWordWar$Tape;)Z"⟩ prog_3_method_2_code 5 (some .boolean)) from rfl))
theorem zcd_21 : Cond.code (zY 21) (zB 21) (zP 21).2.2.1 (zO 21) ∈ lw_tbl := zseg_in (j := 2) (List.mem_of_getElem? (i := 191) (show (zseg 2)[191]? = some (.code ⟨"WordWar$Tape", "takeByte", "()I"⟩ prog_10_method_11_code 2 (some .int)) from rfl))
theorem zcd_22 : Cond.code (zY 22) (zB 22) (zP 22).2.2.1 (zO 22) ∈ lw_tbl := zseg_in (j := 2) (List.mem_of_getElem? (i := 195) (show (zseg 2)[195]? = some (.code ⟨"WordWar$Tape", "peek", "()I"⟩ prog_10_method_5_code 1 (some .int)) from rfl))
theorem zcd_23 : Cond.code (zY 23) (zB 23) (zP 23).2.2.1 (zO 23) ∈ lw_tbl := zseg_in (j := 2) (List.mem_of_getElem? (i := 199) (show (zseg 2)[199]? = some (.code ⟨"WordWar", "has", "(II)Z"⟩ prog_1_method_36_code 2 (some .boolean)) from rfl))
theorem zcd_24 : Cond.code (zY 24) (zB 24) (zP 24).2.2.1 (zO 24) ∈ lw_tbl := zseg_in (j := 2) (List.mem_of_getElem? (i := 203) (show (zseg 2)[203]? = some (.code ⟨"WordWar", "lexicon", "(II)I"⟩ prog_1_method_6_code 3 (some .int)) from rfl))
theorem zcd_25 : Cond.code (zY 25) (zB 25) (zP 25).2.2.1 (zO 25) ∈ lw_tbl := zseg_in (j := 2) (List.mem_of_getElem? (i := 207) (show (zseg 2)[207]? = some (.code ⟨"WordWar$Tape", "holdsText", "(III)Z"⟩ prog_10_method_3_code 4 (some .boolean)) from rfl))
theorem zcd_26 : Cond.code (zY 26) (zB 26) (zP 26).2.2.1 (zO 26) ∈ lw_tbl := zseg_in (j := 2) (List.mem_of_getElem? (i := 211) (show (zseg 2)[211]? = some (.code ⟨"WordWar$Army", "takeLexicon", "(LWordWar$Tape;)I"⟩ prog_3_method_3_code 5 (some .int)) from rfl))
theorem zcd_27 : Cond.code (zY 27) (zB 27) (zP 27).2.2.1 (zO 27) ∈ lw_tbl := zseg_in (j := 2) (List.mem_of_getElem? (i := 215) (show (zseg 2)[215]? = some (.code ⟨"WordWar$Tape", "atLetter", "()Z"⟩ prog_10_method_7_code 1 (some .boolean)) from rfl))
theorem zcd_28 : Cond.code (zY 28) (zB 28) (zP 28).2.2.1 (zO 28) ∈ lw_tbl := zseg_in (j := 2) (List.mem_of_getElem? (i := 220) (show (zseg 2)[220]? = some (.code ⟨"WordWar$Tape", "fail", "(II)V"⟩ prog_10_method_9_code 3 none) from rfl))
theorem zcd_29 : Cond.code (zY 29) (zB 29) (zP 29).2.2.1 (zO 29) ∈ lw_tbl := zseg_in (j := 2) (List.mem_of_getElem? (i := 224) (show (zseg 2)[224]? = some (.code ⟨"WordWar$Tape", "takeWord", "()I"⟩ prog_10_method_14_code 3 (some .int)) from rfl))
theorem zcd_30 : Cond.code (zY 30) (zB 30) (zP 30).2.2.1 (zO 30) ∈ lw_tbl := zseg_in (j := 2) (List.mem_of_getElem? (i := 228) (show (zseg 2)[228]? = some (.code ⟨"WordWar$Tape", "takeLetter", "()I"⟩ prog_10_method_13_code 1 (some .int)) from rfl))
theorem zcd_31 : Cond.code (zY 31) (zB 31) (zP 31).2.2.1 (zO 31) ∈ lw_tbl := zseg_in (j := 2) (List.mem_of_getElem? (i := 234) (show (zseg 2)[234]? = some (.code ⟨"WordWar$Words", "changed", "(III)I"⟩ prog_12_method_3_code 3 (some .int)) from rfl))
theorem zcd_32 : Cond.code (zY 32) (zB 32) (zP 32).2.2.1 (zO 32) ∈ lw_tbl := zseg_in (j := 2) (List.mem_of_getElem? (i := 237) (show (zseg 2)[237]? = some (.code ⟨"WordWar$Army", "indexOf", "([III)I"⟩ prog_3_method_8_code 4 (some .int)) from rfl))
theorem zcd_33 : Cond.code (zY 33) (zB 33) (zP 33).2.2.1 (zO 33) ∈ lw_tbl := zseg_in (j := 3) (List.mem_of_getElem? (i := 1) (show (zseg 3)[1]? = some (.code ⟨"WordWar$Tape", "atEnd", "()Z"⟩ prog_10_method_6_code 1 (some .boolean)) from rfl))
theorem zcd_34 : Cond.code (zY 34) (zB 34) (zP 34).2.2.1 (zO 34) ∈ lw_tbl := zseg_in (j := 3) (List.mem_of_getElem? (i := 5) (show (zseg 3)[5]? = some (.code ⟨"WordWar$Army", "adopt", "(I)V"⟩ prog_3_method_4_code 2 none) from rfl))
theorem zcd_35 : Cond.code (zY 35) (zB 35) (zP 35).2.2.1 (zO 35) ∈ lw_tbl := zseg_in (j := 3) (List.mem_of_getElem? (i := 9) (show (zseg 3)[9]? = some (.code ⟨"WordWar$Army", "saveTo", "(LWordWar$Camp;)V"⟩ prog_3_method_5_code 3 none) from rfl))
theorem zcd_36 : Cond.code (zY 36) (zB 36) (zP 36).2.2.1 (zO 36) ∈ lw_tbl := zseg_in (j := 3) (List.mem_of_getElem? (i := 16) (show (zseg 3)[16]? = some (.code ⟨"WordWar$Army", "stands", "(I)Z"⟩ prog_3_method_10_code 2 (some .boolean)) from rfl))
theorem zcd_37 : Cond.code (zY 37) (zB 37) (zP 37).2.2.1 (zO 37) ∈ lw_tbl := zseg_in (j := 3) (List.mem_of_getElem? (i := 20) (show (zseg 3)[20]? = some (.code ⟨"WordWar$Army", "hasWord", "(I)Z"⟩ prog_3_method_9_code 2 (some .boolean)) from rfl))
theorem zcd_38 : Cond.code (zY 38) (zB 38) (zP 38).2.2.1 (zO 38) ∈ lw_tbl := zseg_in (j := 3) (List.mem_of_getElem? (i := 24) (show (zseg 3)[24]? = some (.code ⟨"WordWar$Army", "loadFrom", "(LWordWar$Camp;)V"⟩ prog_3_method_6_code 4 none) from rfl))
theorem zcd_39 : Cond.code (zY 39) (zB 39) (zP 39).2.2.1 (zO 39) ∈ lw_tbl := zseg_in (j := 3) (List.mem_of_getElem? (i := 28) (show (zseg 3)[28]? = some (.code ⟨"WordWar$Army", "find", "(I)I"⟩ prog_3_method_7_code 2 (some .int)) from rfl))
theorem zcd_40 : Cond.code (zY 40) (zB 40) (zP 40).2.2.1 (zO 40) ∈ lw_tbl := zseg_in (j := 3) (List.mem_of_getElem? (i := 32) (show (zseg 3)[32]? = some (.code ⟨"WordWar$Army", "sendHome", "(I)V"⟩ prog_3_method_18_code 3 none) from rfl))
theorem zcd_41 : Cond.code (zY 41) (zB 41) (zP 41).2.2.1 (zO 41) ∈ lw_tbl := zseg_in (j := 3) (List.mem_of_getElem? (i := 35) (show (zseg 3)[35]? = some (.code ⟨"WordWar$Words", "letterAt", "(II)I"⟩ prog_12_method_2_code 2 (some .int)) from rfl))
theorem zcd_42 : Cond.code (zY 42) (zB 42) (zP 42).2.2.1 (zO 42) ∈ lw_tbl := zseg_in (j := 3) (List.mem_of_getElem? (i := 39) (show (zseg 3)[39]? = some (.code ⟨"WordWar$Army", "add", "(III)V"⟩ prog_3_method_19_code 4 none) from rfl))
theorem zcd_43 : Cond.code (zY 43) (zB 43) (zP 43).2.2.1 (zO 43) ∈ lw_tbl := zseg_in (j := 3) (List.mem_of_getElem? (i := 44) (show (zseg 3)[44]? = some (.code ⟨"WordWar$Tape", "pass", "(I)Z"⟩ prog_10_method_10_code 2 (some .boolean)) from rfl))
theorem zcd_44 : Cond.code (zY 44) (zB 44) (zP 44).2.2.1 (zO 44) ∈ lw_tbl := zseg_in (j := 3) (List.mem_of_getElem? (i := 48) (show (zseg 3)[48]? = some (.code ⟨"WordWar", "law", "(I)I"⟩ prog_1_method_7_code 3 (some .int)) from rfl))
theorem zcd_45 : Cond.code (zY 45) (zB 45) (zP 45).2.2.1 (zO 45) ∈ lw_tbl := zseg_in (j := 3) (List.mem_of_getElem? (i := 52) (show (zseg 3)[52]? = some (.code ⟨"WordWar$LawReader", "read", "(LWordWar$Tape;LWordWar$Law;)V"⟩ prog_8_method_2_code 4 none) from rfl))
theorem zcd_46 : Cond.code (zY 46) (zB 46) (zP 46).2.2.1 (zO 46) ∈ lw_tbl := zseg_in (j := 3) (List.mem_of_getElem? (i := 56) (show (zseg 3)[56]? = some (.code ⟨"WordWar$Law", "clear", "()V"⟩ prog_7_method_2_code 1 none) from rfl))
theorem zcd_47 : Cond.code (zY 47) (zB 47) (zP 47).2.2.1 (zO 47) ∈ lw_tbl := zseg_in (j := 3) (List.mem_of_getElem? (i := 62) (show (zseg 3)[62]? = some (.code ⟨"WordWar$LawReader", "readClause", "()V"⟩ prog_8_method_3_code 3 none) from rfl))
theorem zcd_48 : Cond.code (zY 48) (zB 48) (zP 48).2.2.1 (zO 48) ∈ lw_tbl := zseg_in (j := 3) (List.mem_of_getElem? (i := 120) (show (zseg 3)[120]? = some (.code ⟨"WordWar$LawReader", "readSum", "(I)V"⟩ prog_8_method_8_code 4 none) from rfl))
theorem zcd_49 : Cond.code (zY 49) (zB 49) (zP 49).2.2.1 (zO 49) ∈ lw_tbl := zseg_in (j := 3) (List.mem_of_getElem? (i := 124) (show (zseg 3)[124]? = some (.code ⟨"WordWar$LawReader", "readProduct", "(I)V"⟩ prog_8_method_9_code 4 none) from rfl))
theorem zcd_50 : Cond.code (zY 50) (zB 50) (zP 50).2.2.1 (zO 50) ∈ lw_tbl := zseg_in (j := 3) (List.mem_of_getElem? (i := 128) (show (zseg 3)[128]? = some (.code ⟨"WordWar$LawReader", "readFactor", "(I)V"⟩ prog_8_method_10_code 3 none) from rfl))
theorem zcd_51 : Cond.code (zY 51) (zB 51) (zP 51).2.2.1 (zO 51) ∈ lw_tbl := zseg_in (j := 3) (List.mem_of_getElem? (i := 133) (show (zseg 3)[133]? = some (.code ⟨"WordWar$LawReader", "opens", "(I)Z"⟩ prog_8_method_12_code 2 (some .boolean)) from rfl))
theorem zcd_52 : Cond.code (zY 52) (zB 52) (zP 52).2.2.1 (zO 52) ∈ lw_tbl := zseg_in (j := 3) (List.mem_of_getElem? (i := 137) (show (zseg 3)[137]? = some (.code ⟨"WordWar$Tape", "atDigit", "()Z"⟩ prog_10_method_8_code 1 (some .boolean)) from rfl))
theorem zcd_53 : Cond.code (zY 53) (zB 53) (zP 53).2.2.1 (zO 53) ∈ lw_tbl := zseg_in (j := 3) (List.mem_of_getElem? (i := 141) (show (zseg 3)[141]? = some (.code ⟨"WordWar$LawReader", "readNumber", "()V"⟩ prog_8_method_11_code 3 none) from rfl))
theorem zcd_54 : Cond.code (zY 54) (zB 54) (zP 54).2.2.1 (zO 54) ∈ lw_tbl := zseg_in (j := 3) (List.mem_of_getElem? (i := 146) (show (zseg 3)[146]? = some (.code ⟨"WordWar$Law", "put", "(II)V"⟩ prog_7_method_3_code 3 none) from rfl))
theorem zcd_55 : Cond.code (zY 55) (zB 55) (zP 55).2.2.1 (zO 55) ∈ lw_tbl := zseg_in (j := 3) (List.mem_of_getElem? (i := 151) (show (zseg 3)[151]? = some (.code ⟨"WordWar$LawReader", "putSign", "(I)V"⟩ prog_8_method_13_code 2 none) from rfl))
theorem zcd_56 : Cond.code (zY 56) (zB 56) (zP 56).2.2.1 (zO 56) ∈ lw_tbl := zseg_in (j := 3) (List.mem_of_getElem? (i := 157) (show (zseg 3)[157]? = some (.code ⟨"WordWar$LawReader", "readCondition", "(I)V"⟩ prog_8_method_4_code 4 none) from rfl))
theorem zcd_57 : Cond.code (zY 57) (zB 57) (zP 57).2.2.1 (zO 57) ∈ lw_tbl := zseg_in (j := 3) (List.mem_of_getElem? (i := 161) (show (zseg 3)[161]? = some (.code ⟨"WordWar$LawReader", "readPart", "(I)V"⟩ prog_8_method_5_code 4 none) from rfl))
theorem zcd_58 : Cond.code (zY 58) (zB 58) (zP 58).2.2.1 (zO 58) ∈ lw_tbl := zseg_in (j := 3) (List.mem_of_getElem? (i := 165) (show (zseg 3)[165]? = some (.code ⟨"WordWar$LawReader", "readPiece", "(I)V"⟩ prog_8_method_6_code 4 none) from rfl))
theorem zcd_59 : Cond.code (zY 59) (zB 59) (zP 59).2.2.1 (zO 59) ∈ lw_tbl := zseg_in (j := 3) (List.mem_of_getElem? (i := 169) (show (zseg 3)[169]? = some (.code ⟨"WordWar$LawReader", "readOpened", "(II)V"⟩ prog_8_method_7_code 3 none) from rfl))
theorem zcd_60 : Cond.code (zY 60) (zB 60) (zP 60).2.2.1 (zO 60) ∈ lw_tbl := zseg_in (j := 3) (List.mem_of_getElem? (i := 174) (show (zseg 3)[174]? = some (.code ⟨"WordWar$Law", "putJump", "(II)I"⟩ prog_7_method_4_code 3 (some .int)) from rfl))
theorem zcd_61 : Cond.code (zY 61) (zB 61) (zP 61).2.2.1 (zO 61) ∈ lw_tbl := zseg_in (j := 3) (List.mem_of_getElem? (i := 179) (show (zseg 3)[179]? = some (.code ⟨"WordWar$Law", "aimHere", "(I)V"⟩ prog_7_method_5_code 5 none) from rfl))
theorem zcd_62 : Cond.code (zY 62) (zB 62) (zP 62).2.2.1 (zO 62) ∈ lw_tbl := zseg_in (j := 3) (List.mem_of_getElem? (i := 184) (show (zseg 3)[184]? = some (.code ⟨"WordWar", "seed", "(I)Z"⟩ prog_1_method_8_code 2 (some .boolean)) from rfl))
theorem zcd_63 : Cond.code (zY 63) (zB 63) (zP 63).2.2.1 (zO 63) ∈ lw_tbl := zseg_in (j := 3) (List.mem_of_getElem? (i := 189) (show (zseg 3)[189]? = some (.code ⟨"WordWar", "orders", "(II)I"⟩ prog_1_method_9_code 6 (some .int)) from rfl))
theorem zcd_64 : Cond.code (zY 64) (zB 64) (zP 64).2.2.1 (zO 64) ∈ lw_tbl := zseg_in (j := 3) (List.mem_of_getElem? (i := 193) (show (zseg 3)[193]? = some (.code ⟨"WordWar", "readActs", "(II)I"⟩ prog_1_method_11_code 3 (some .int)) from rfl))
theorem zcd_65 : Cond.code (zY 65) (zB 65) (zP 65).2.2.1 (zO 65) ∈ lw_tbl := zseg_in (j := 3) (List.mem_of_getElem? (i := 197) (show (zseg 3)[197]? = some (.code ⟨"WordWar$Acts", "read", "(LWordWar$Tape;)V"⟩ prog_2_method_2_code 3 none) from rfl))
theorem zcd_66 : Cond.code (zY 66) (zB 66) (zP 66).2.2.1 (zO 66) ∈ lw_tbl := zseg_in (j := 3) (List.mem_of_getElem? (i := 202) (show (zseg 3)[202]? = some (.code ⟨"WordWar$Acts", "canBegin", "(LWordWar$Tape;)Z"⟩ prog_2_method_3_code 2 (some .boolean)) from rfl))
theorem zcd_67 : Cond.code (zY 67) (zB 67) (zP 67).2.2.1 (zO 67) ∈ lw_tbl := zseg_in (j := 3) (List.mem_of_getElem? (i := 209) (show (zseg 3)[209]? = some (.code ⟨"WordWar$Acts", "readAct", "(LWordWar$Tape;)V"⟩ prog_2_method_4_code 3 none) from rfl))
theorem zcd_68 : Cond.code (zY 68) (zB 68) (zP 68).2.2.1 (zO 68) ∈ lw_tbl := zseg_in (j := 3) (List.mem_of_getElem? (i := 214) (show (zseg 3)[214]? = some (.code ⟨"WordWar$Words", "sizeOf", "(I)I"⟩ prog_12_method_4_code 2 (some .int)) from rfl))
theorem zcd_69 : Cond.code (zY 69) (zB 69) (zP 69).2.2.1 (zO 69) ∈ lw_tbl := zseg_in (j := 3) (List.mem_of_getElem? (i := 218) (show (zseg 3)[218]? = some (.code ⟨"WordWar$Acts", "takeChange", "(LWordWar$Tape;I)I"⟩ prog_2_method_5_code 3 (some .int)) from rfl))
theorem zcd_70 : Cond.code (zY 70) (zB 70) (zP 70).2.2.1 (zO 70) ∈ lw_tbl := zseg_in (j := 3) (List.mem_of_getElem? (i := 224) (show (zseg 3)[224]? = some (.code ⟨"WordWar", "doAct", "(II)Z"⟩ prog_1_method_15_code 6 (some .boolean)) from rfl))
theorem zcd_71 : Cond.code (zY 71) (zB 71) (zP 71).2.2.1 (zO 71) ∈ lw_tbl := zseg_in (j := 3) (List.mem_of_getElem? (i := 229) (show (zseg 3)[229]? = some (.code ⟨"WordWar$Army", "form", "(I)Z"⟩ prog_3_method_14_code 4 (some .boolean)) from rfl))
theorem zcd_72 : Cond.code (zY 72) (zB 72) (zP 72).2.2.1 (zO 72) ∈ lw_tbl := zseg_in (j := 3) (List.mem_of_getElem? (i := 233) (show (zseg 3)[233]? = some (.code ⟨"WordWar$Army", "canForm", "(I)Z"⟩ prog_3_method_12_code 4 (some .boolean)) from rfl))
theorem zcd_73 : Cond.code (zY 73) (zB 73) (zP 73).2.2.1 (zO 73) ∈ lw_tbl := zseg_in (j := 3) (List.mem_of_getElem? (i := 237) (show (zseg 3)[237]? = some (.code ⟨"WordWar$Army", "room", "()I"⟩ prog_3_method_11_code 1 (some .int)) from rfl))
theorem zcd_74 : Cond.code (zY 74) (zB 74) (zP 74).2.2.1 (zO 74) ∈ lw_tbl := zseg_in (j := 4) (List.mem_of_getElem? (i := 0) (show (zseg 4)[0]? = some (.code ⟨"java/lang/Integer", "bitCount", "(I)I"⟩ prog_15_method_49_code 1 (some .int)) from rfl))
theorem zcd_75 : Cond.code (zY 75) (zB 75) (zP 75).2.2.1 (zO 75) ∈ lw_tbl := zseg_in (j := 4) (List.mem_of_getElem? (i := 6) (show (zseg 4)[6]? = some (.code ⟨"WordWar$Words", "times", "(II)I"⟩ prog_12_method_8_code 4 (some .int)) from rfl))
theorem zcd_76 : Cond.code (zY 76) (zB 76) (zP 76).2.2.1 (zO 76) ∈ lw_tbl := zseg_in (j := 4) (List.mem_of_getElem? (i := 10) (show (zseg 4)[10]? = some (.code ⟨"WordWar$Army", "dissolve", "(I)Z"⟩ prog_3_method_15_code 2 (some .boolean)) from rfl))
theorem zcd_77 : Cond.code (zY 77) (zB 77) (zP 77).2.2.1 (zO 77) ∈ lw_tbl := zseg_in (j := 4) (List.mem_of_getElem? (i := 13) (show (zseg 4)[13]? = some (.code ⟨"WordWar$Words", "backwards", "(I)I"⟩ prog_12_method_6_code 4 (some .int)) from rfl))
theorem zcd_78 : Cond.code (zY 78) (zB 78) (zP 78).2.2.1 (zO 78) ∈ lw_tbl := zseg_in (j := 4) (List.mem_of_getElem? (i := 19) (show (zseg 4)[19]? = some (.code ⟨"WordWar$Army", "replace", "(II)Z"⟩ prog_3_method_16_code 3 (some .boolean)) from rfl))
theorem zcd_79 : Cond.code (zY 79) (zB 79) (zP 79).2.2.1 (zO 79) ∈ lw_tbl := zseg_in (j := 4) (List.mem_of_getElem? (i := 23) (show (zseg 4)[23]? = some (.code ⟨"WordWar", "attack", "(III)Z"⟩ prog_1_method_17_code 11 (some .boolean)) from rfl))
theorem zcd_80 : Cond.code (zY 80) (zB 80) (zP 80).2.2.1 (zO 80) ∈ lw_tbl := zseg_in (j := 4) (List.mem_of_getElem? (i := 27) (show (zseg 4)[27]? = some (.code ⟨"WordWar", "isAhead", "(IILWordWar$Army;)Z"⟩ prog_1_method_18_code 3 (some .boolean)) from rfl))
theorem zcd_81 : Cond.code (zY 81) (zB 81) (zP 81).2.2.1 (zO 81) ∈ lw_tbl := zseg_in (j := 4) (List.mem_of_getElem? (i := 30) (show (zseg 4)[30]? = some (.code ⟨"WordWar$Words", "keyOf", "(I[I)J"⟩ prog_12_method_7_code 6 (some .long)) from rfl))
theorem zcd_82 : Cond.code (zY 82) (zB 82) (zP 82).2.2.1 (zO 82) ∈ lw_tbl := zseg_in (j := 4) (List.mem_of_getElem? (i := 35) (show (zseg 4)[35]? = some (.code ⟨"WordWar", "tell", "(I)V"⟩ prog_1_method_19_code 2 none) from rfl))
theorem zcd_83 : Cond.code (zY 83) (zB 83) (zP 83).2.2.1 (zO 83) ∈ lw_tbl := zseg_in (j := 4) (List.mem_of_getElem? (i := 39) (show (zseg 4)[39]? = some (.code ⟨"WordWar", "tellWord", "(I)V"⟩ prog_1_method_20_code 2 none) from rfl))
theorem zcd_84 : Cond.code (zY 84) (zB 84) (zP 84).2.2.1 (zO 84) ∈ lw_tbl := zseg_in (j := 4) (List.mem_of_getElem? (i := 44) (show (zseg 4)[44]? = some (.code ⟨"WordWar", "strengthOf", "(I)I"⟩ prog_1_method_21_code 5 (some .int)) from rfl))
theorem zcd_85 : Cond.code (zY 85) (zB 85) (zP 85).2.2.1 (zO 85) ∈ lw_tbl := zseg_in (j := 4) (List.mem_of_getElem? (i := 49) (show (zseg 4)[49]? = some (.code ⟨"WordWar", "nextDraw", "()I"⟩ prog_1_method_14_code 1 (some .int)) from rfl))
theorem zcd_86 : Cond.code (zY 86) (zB 86) (zP 86).2.2.1 (zO 86) ∈ lw_tbl := zseg_in (j := 4) (List.mem_of_getElem? (i := 53) (show (zseg 4)[53]? = some (.code ⟨"WordWar$Law", "ask", "(I[I)I"⟩ prog_7_method_6_code 4 (some .int)) from rfl))
theorem zcd_87 : Cond.code (zY 87) (zB 87) (zP 87).2.2.1 (zO 87) ∈ lw_tbl := zseg_in (j := 4) (List.mem_of_getElem? (i := 57) (show (zseg 4)[57]? = some (.code ⟨"WordWar$Law", "run", "(I[I)I"⟩ prog_7_method_8_code 9 (some .int)) from rfl))
theorem zcd_88 : Cond.code (zY 88) (zB 88) (zP 88).2.2.1 (zO 88) ∈ lw_tbl := zseg_in (j := 4) (List.mem_of_getElem? (i := 61) (show (zseg 4)[61]? = some (.code ⟨"WordWar$Law", "pop", "()I"⟩ prog_7_method_12_code 1 (some .int)) from rfl))
theorem zcd_89 : Cond.code (zY 89) (zB 89) (zP 89).2.2.1 (zO 89) ∈ lw_tbl := zseg_in (j := 4) (List.mem_of_getElem? (i := 65) (show (zseg 4)[65]? = some (.code ⟨"WordWar$Law", "push", "(I)V"⟩ prog_7_method_11_code 2 none) from rfl))
theorem zcd_90 : Cond.code (zY 90) (zB 90) (zP 90).2.2.1 (zO 90) ∈ lw_tbl := zseg_in (j := 4) (List.mem_of_getElem? (i := 69) (show (zseg 4)[69]? = some (.code ⟨"WordWar$Law", "step", "(II[I)V"⟩ prog_7_method_9_code 6 none) from rfl))
theorem zcd_91 : Cond.code (zY 91) (zB 91) (zP 91).2.2.1 (zO 91) ∈ lw_tbl := zseg_in (j := 4) (List.mem_of_getElem? (i := 73) (show (zseg 4)[73]? = some (.code ⟨"WordWar$Law", "reckon", "(III)I"⟩ prog_7_method_10_code 4 (some .int)) from rfl))
theorem zcd_92 : Cond.code (zY 92) (zB 92) (zP 92).2.2.1 (zO 92) ∈ lw_tbl := zseg_in (j := 4) (List.mem_of_getElem? (i := 76) (show (zseg 4)[76]? = some (.code ⟨"WordWar$Law", "mostOf", "(I)I"⟩ prog_7_method_7_code 1 (some .int)) from rfl))
theorem zcd_93 : Cond.code (zY 93) (zB 93) (zP 93).2.2.1 (zO 93) ∈ lw_tbl := zseg_in (j := 4) (List.mem_of_getElem? (i := 84) (show (zseg 4)[84]? = some (.code ⟨"WordWar$Army", "lose", "(III)V"⟩ prog_3_method_17_code 10 none) from rfl))
theorem zcd_94 : Cond.code (zY 94) (zB 94) (zP 94).2.2.1 (zO 94) ∈ lw_tbl := zseg_in (j := 4) (List.mem_of_getElem? (i := 89) (show (zseg 4)[89]? = some (.code ⟨"WordWar$Words", "firstOf", "(II)I"⟩ prog_12_method_5_code 2 (some .int)) from rfl))
theorem zcd_95 : Cond.code (zY 95) (zB 95) (zP 95).2.2.1 (zO 95) ∈ lw_tbl := zseg_in (j := 4) (List.mem_of_getElem? (i := 93) (show (zseg 4)[93]? = some (.code ⟨"WordWar", "changeBySpy", "(LWordWar$Army;LWordWar$Army;I)Z"⟩ prog_1_method_16_code 8 (some .boolean)) from rfl))
theorem zcd_96 : Cond.code (zY 96) (zB 96) (zP 96).2.2.1 (zO 96) ∈ lw_tbl := zseg_in (j := 4) (List.mem_of_getElem? (i := 99) (show (zseg 4)[99]? = some (.code ⟨"WordWar", "judged", "(II)I"⟩ prog_1_method_10_code 6 (some .int)) from rfl))
theorem zcd_97 : Cond.code (zY 97) (zB 97) (zP 97).2.2.1 (zO 97) ∈ lw_tbl := zseg_in (j := 4) (List.mem_of_getElem? (i := 105) (show (zseg 4)[105]? = some (.code ⟨"WordWar", "turn", "()I"⟩ prog_1_method_12_code 4 (some .int)) from rfl))
theorem zcd_98 : Cond.code (zY 98) (zB 98) (zP 98).2.2.1 (zO 98) ∈ lw_tbl := zseg_in (j := 4) (List.mem_of_getElem? (i := 109) (show (zseg 4)[109]? = some (.code ⟨"WordWar", "deserts", "(II)Z"⟩ prog_1_method_13_code 5 (some .boolean)) from rfl))
theorem zcd_99 : Cond.code (zY 99) (zB 99) (zP 99).2.2.1 (zO 99) ∈ lw_tbl := zseg_in (j := 4) (List.mem_of_getElem? (i := 113) (show (zseg 4)[113]? = some (.code ⟨"WordWar", "word", "(III)I"⟩ prog_1_method_23_code 6 (some .int)) from rfl))
theorem zcd_100 : Cond.code (zY 100) (zB 100) (zP 100).2.2.1 (zO 100) ∈ lw_tbl := zseg_in (j := 4) (List.mem_of_getElem? (i := 119) (show (zseg 4)[119]? = some (.code ⟨"WordWar", "worthOf", "(II)I"⟩ prog_1_method_22_code 3 (some .int)) from rfl))
theorem zcd_101 : Cond.code (zY 101) (zB 101) (zP 101).2.2.1 (zO 101) ∈ lw_tbl := zseg_in (j := 4) (List.mem_of_getElem? (i := 123) (show (zseg 4)[123]? = some (.code ⟨"WordWar", "beats", "(II)I"⟩ prog_1_method_24_code 3 (some .int)) from rfl))
theorem zcd_102 : Cond.code (zY 102) (zB 102) (zP 102).2.2.1 (zO 102) ∈ lw_tbl := zseg_in (j := 4) (List.mem_of_getElem? (i := 127) (show (zseg 4)[127]? = some (.code ⟨"WordWar", "outcome", "(II)I"⟩ prog_1_method_25_code 5 (some .int)) from rfl))
theorem zcd_103 : Cond.code (zY 103) (zB 103) (zP 103).2.2.1 (zO 103) ∈ lw_tbl := zseg_in (j := 4) (List.mem_of_getElem? (i := 131) (show (zseg 4)[131]? = some (.code ⟨"WordWar", "place", "(III)I"⟩ prog_1_method_26_code 8 (some .int)) from rfl))
theorem zcd_104 : Cond.code (zY 104) (zB 104) (zP 104).2.2.1 (zO 104) ∈ lw_tbl := zseg_in (j := 4) (List.mem_of_getElem? (i := 135) (show (zseg 4)[135]? = some (.code ⟨"WordWar", "best", "(II)I"⟩ prog_1_method_27_code 3 (some .int)) from rfl))
theorem zcd_105 : Cond.code (zY 105) (zB 105) (zP 105).2.2.1 (zO 105) ∈ lw_tbl := zseg_in (j := 4) (List.mem_of_getElem? (i := 139) (show (zseg 4)[139]? = some (.code ⟨"WordWar", "prepareChooser", "(I)V"⟩ prog_1_method_28_code 6 none) from rfl))
theorem zcd_106 : Cond.code (zY 106) (zB 106) (zP 106).2.2.1 (zO 106) ∈ lw_tbl := zseg_in (j := 4) (List.mem_of_getElem? (i := 143) (show (zseg 4)[143]? = some (.code ⟨"WordWar$Chooser", "clear", "()V"⟩ prog_5_method_2_code 1 none) from rfl))
theorem zcd_107 : Cond.code (zY 107) (zB 107) (zP 107).2.2.1 (zO 107) ∈ lw_tbl := zseg_in (j := 4) (List.mem_of_getElem? (i := 148) (show (zseg 4)[148]? = some (.code ⟨"WordWar$Chooser", "offer", "(III)V"⟩ prog_5_method_3_code 4 none) from rfl))
theorem zcd_108 : Cond.code (zY 108) (zB 108) (zP 108).2.2.1 (zO 108) ∈ lw_tbl := zseg_in (j := 4) (List.mem_of_getElem? (i := 151) (show (zseg 4)[151]? = some (.code ⟨"WordWar$Words", "needs", "(II)J"⟩ prog_12_method_10_code 6 (some .long)) from rfl))
theorem zcd_109 : Cond.code (zY 109) (zB 109) (zP 109).2.2.1 (zO 109) ∈ lw_tbl := zseg_in (j := 4) (List.mem_of_getElem? (i := 155) (show (zseg 4)[155]? = some (.code ⟨"WordWar", "searchBest", "(IIII)I"⟩ prog_1_method_29_code 10 (some .int)) from rfl))
theorem zcd_110 : Cond.code (zY 110) (zB 110) (zP 110).2.2.1 (zO 110) ∈ lw_tbl := zseg_in (j := 4) (List.mem_of_getElem? (i := 158) (show (zseg 4)[158]? = some (.code ⟨"WordWar$Words", "packed", "([IIII)J"⟩ prog_12_method_11_code 9 (some .long)) from rfl))
theorem zcd_111 : Cond.code (zY 111) (zB 111) (zP 111).2.2.1 (zO 111) ∈ lw_tbl := zseg_in (j := 4) (List.mem_of_getElem? (i := 166) (show (zseg 4)[166]? = some (.code ⟨"WordWar$Chooser", "search", "(JJII)I"⟩ prog_5_method_4_code 8 (some .int)) from rfl))
theorem zcd_112 : Cond.code (zY 112) (zB 112) (zP 112).2.2.1 (zO 112) ∈ lw_tbl := zseg_in (j := 4) (List.mem_of_getElem? (i := 170) (show (zseg 4)[170]? = some (.code ⟨"WordWar$Chooser", "fits", "(JJ)Z"⟩ prog_5_method_5_code 4 (some .boolean)) from rfl))
theorem zcd_113 : Cond.code (zY 113) (zB 113) (zP 113).2.2.1 (zO 113) ∈ lw_tbl := zseg_in (j := 4) (List.mem_of_getElem? (i := 177) (show (zseg 4)[177]? = some (.code ⟨"WordWar$Chooser", "fillBounds", "(I)V"⟩ prog_5_method_6_code 8 none) from rfl))
theorem zcd_114 : Cond.code (zY 114) (zB 114) (zP 114).2.2.1 (zO 114) ∈ lw_tbl := zseg_in (j := 4) (List.mem_of_getElem? (i := 181) (show (zseg 4)[181]? = some (.code ⟨"WordWar$Chooser", "choose", "(IIJJII)V"⟩ prog_5_method_7_code 13 none) from rfl))
theorem zcd_115 : Cond.code (zY 115) (zB 115) (zP 115).2.2.1 (zO 115) ∈ lw_tbl := zseg_in (j := 4) (List.mem_of_getElem? (i := 185) (show (zseg 4)[185]? = some (.code ⟨"WordWar", "against", "(II)I"⟩ prog_1_method_30_code 8 (some .int)) from rfl))
theorem zcd_116 : Cond.code (zY 116) (zB 116) (zP 116).2.2.1 (zO 116) ∈ lw_tbl := zseg_in (j := 4) (List.mem_of_getElem? (i := 188) (show (zseg 4)[188]? = some (.code ⟨"WordWar", "beatenBy", "(ILWordWar$Army;)I"⟩ prog_1_method_31_code 4 (some .int)) from rfl))
theorem zcd_117 : Cond.code (zY 117) (zB 117) (zP 117).2.2.1 (zO 117) ∈ lw_tbl := zseg_in (j := 4) (List.mem_of_getElem? (i := 192) (show (zseg 4)[192]? = some (.code ⟨"WordWar", "atOnce", "(I)I"⟩ prog_1_method_32_code 9 (some .int)) from rfl))
theorem zcd_118 : Cond.code (zY 118) (zB 118) (zP 118).2.2.1 (zO 118) ∈ lw_tbl := zseg_in (j := 4) (List.mem_of_getElem? (i := 196) (show (zseg 4)[196]? = some (.code ⟨"WordWar$Army", "formable", "()I"⟩ prog_3_method_13_code 3 (some .int)) from rfl))
theorem zcd_119 : Cond.code (zY 119) (zB 119) (zP 119).2.2.1 (zO 119) ∈ lw_tbl := zseg_in (j := 4) (List.mem_of_getElem? (i := 200) (show (zseg 4)[200]? = some (.code ⟨"WordWar", "fillGains", "(II)V"⟩ prog_1_method_33_code 5 none) from rfl))
theorem zcd_120 : Cond.code (zY 120) (zB 120) (zP 120).2.2.1 (zO 120) ∈ lw_tbl := zseg_in (j := 4) (List.mem_of_getElem? (i := 205) (show (zseg 4)[205]? = some (.code ⟨"WordWar", "gainOf", "(II)I"⟩ prog_1_method_34_code 4 (some .int)) from rfl))
theorem zcd_121 : Cond.code (zY 121) (zB 121) (zP 121).2.2.1 (zO 121) ∈ lw_tbl := zseg_in (j := 4) (List.mem_of_getElem? (i := 209) (show (zseg 4)[209]? = some (.code ⟨"WordWar", "bothStay", "(IIII)Z"⟩ prog_1_method_35_code 7 (some .boolean)) from rfl))
theorem zcd_122 : Cond.code (zY 122) (zB 122) (zP 122).2.2.1 (zO 122) ∈ lw_tbl := zseg_in (j := 4) (List.mem_of_getElem? (i := 213) (show (zseg 4)[213]? = some (.code ⟨"WordWar", "exchange", "(II)I"⟩ prog_1_method_37_code 10 (some .int)) from rfl))
theorem zcd_123 : Cond.code (zY 123) (zB 123) (zP 123).2.2.1 (zO 123) ∈ lw_tbl := zseg_in (j := 4) (List.mem_of_getElem? (i := 217) (show (zseg 4)[217]? = some (.code ⟨"WordWar", "gainTogether", "(IIIII)I"⟩ prog_1_method_38_code 9 (some .int)) from rfl))
theorem zcd_124 : Cond.code (zY 124) (zB 124) (zP 124).2.2.1 (zO 124) ∈ lw_tbl := zseg_in (j := 4) (List.mem_of_getElem? (i := 221) (show (zseg 4)[221]? = some (.code ⟨"WordWar", "canExchange", "(III)Z"⟩ prog_1_method_40_code 4 (some .boolean)) from rfl))
theorem zcd_125 : Cond.code (zY 125) (zB 125) (zP 125).2.2.1 (zO 125) ∈ lw_tbl := zseg_in (j := 4) (List.mem_of_getElem? (i := 225) (show (zseg 4)[225]? = some (.code ⟨"WordWar", "wants", "(II)Z"⟩ prog_1_method_39_code 6 (some .boolean)) from rfl))
theorem zcd_126 : Cond.code (zY 126) (zB 126) (zP 126).2.2.1 (zO 126) ∈ lw_tbl := zseg_in (j := 4) (List.mem_of_getElem? (i := 230) (show (zseg 4)[230]? = some (.code ⟨"WordWar", "exchanged", "(III)Z"⟩ prog_1_method_41_code 4 (some .boolean)) from rfl))
theorem zcd_127 : Cond.code (zY 127) (zB 127) (zP 127).2.2.1 (zO 127) ∈ lw_tbl := zseg_in (j := 4) (List.mem_of_getElem? (i := 234) (show (zseg 4)[234]? = some (.code ⟨"WordWar", "home", "(II)Z"⟩ prog_1_method_42_code 4 (some .boolean)) from rfl))
theorem zcd_128 : Cond.code (zY 128) (zB 128) (zP 128).2.2.1 (zO 128) ∈ lw_tbl := zseg_in (j := 4) (List.mem_of_getElem? (i := 238) (show (zseg 4)[238]? = some (.code ⟨"WordWar", "peace", "(III)I"⟩ prog_1_method_43_code 4 (some .int)) from rfl))
theorem zcd_129 : Cond.code (zY 129) (zB 129) (zP 129).2.2.1 (zO 129) ∈ lw_tbl := zseg_in (j := 5) (List.mem_of_getElem? (i := 2) (show (zseg 5)[2]? = some (.code ⟨"WordWar$Treaty", "make", "(II[I)V"⟩ prog_11_method_3_code 11 none) from rfl))
theorem zcd_130 : Cond.code (zY 130) (zB 130) (zP 130).2.2.1 (zO 130) ∈ lw_tbl := zseg_in (j := 5) (List.mem_of_getElem? (i := 7) (show (zseg 5)[7]? = some (.code ⟨"WordWar$Treaty", "fillLeft", "(IIII)V"⟩ prog_11_method_4_code 7 none) from rfl))
theorem zcd_131 : Cond.code (zY 131) (zB 131) (zP 131).2.2.1 (zO 131) ∈ lw_tbl := zseg_in (j := 5) (List.mem_of_getElem? (i := 11) (show (zseg 5)[11]? = some (.code ⟨"WordWar$Treaty", "leftAt", "(IIIIII)I"⟩ prog_11_method_5_code 7 (some .int)) from rfl))
theorem zcd_132 : Cond.code (zY 132) (zB 132) (zP 132).2.2.1 (zO 132) ∈ lw_tbl := zseg_in (j := 5) (List.mem_of_getElem? (i := 18) (show (zseg 5)[18]? = some (.code ⟨"WordWar$Treaty", "takesFirst", "(IIIIZ)Z"⟩ prog_11_method_6_code 8 (some .boolean)) from rfl))
theorem zcd_133 : Cond.code (zY 133) (zB 133) (zP 133).2.2.1 (zO 133) ∈ lw_tbl := zseg_in (j := 5) (List.mem_of_getElem? (i := 22) (show (zseg 5)[22]? = some (.code ⟨"WordWar$Treaty", "holdsPlace", "(I)Z"⟩ prog_11_method_2_code 2 (some .boolean)) from rfl))
theorem zcd_134 : Cond.code (zY 134) (zB 134) (zP 134).2.2.1 (zO 134) ∈ lw_tbl := zseg_in (j := 5) (List.mem_of_getElem? (i := 26) (show (zseg 5)[26]? = some (.code ⟨"WordWar", "spy", "(III)I"⟩ prog_1_method_44_code 7 (some .int)) from rfl))
theorem zcd_135 : Cond.code (zY 135) (zB 135) (zP 135).2.2.1 (zO 135) ∈ lw_tbl := zseg_in (j := 5) (List.mem_of_getElem? (i := 30) (show (zseg 5)[30]? = some (.code ⟨"WordWar$Army", "nearTo", "(III)I"⟩ prog_3_method_23_code 8 (some .int)) from rfl))
theorem zcd_136 : Cond.code (zY 136) (zB 136) (zP 136).2.2.1 (zO 136) ∈ lw_tbl := zseg_in (j := 5) (List.mem_of_getElem? (i := 33) (show (zseg 5)[33]? = some (.code ⟨"WordWar$Words", "unlike", "(II)I"⟩ prog_12_method_9_code 4 (some .int)) from rfl))
theorem zcd_137 : Cond.code (zY 137) (zB 137) (zP 137).2.2.1 (zO 137) ∈ lw_tbl := zseg_in (j := 5) (List.mem_of_getElem? (i := 38) (show (zseg 5)[38]? = some (.code ⟨"WordWar", "fight", "(I)I"⟩ prog_1_method_45_code 2 (some .int)) from rfl))
theorem zcd_138 : Cond.code (zY 138) (zB 138) (zP 138).2.2.1 (zO 138) ∈ lw_tbl := zseg_in (j := 5) (List.mem_of_getElem? (i := 42) (show (zseg 5)[42]? = some (.code ⟨"WordWar$Fights", "take", "(LWordWar$Tape;)I"⟩ prog_6_method_2_code 7 (some .int)) from rfl))
theorem zcd_139 : Cond.code (zY 139) (zB 139) (zP 139).2.2.1 (zO 139) ∈ lw_tbl := zseg_in (j := 5) (List.mem_of_getElem? (i := 52) (show (zseg 5)[52]? = some (.code ⟨"WordWar$Fights", "change", "()V"⟩ prog_6_method_6_code 1 none) from rfl))
theorem zcd_140 : Cond.code (zY 140) (zB 140) (zP 140).2.2.1 (zO 140) ∈ lw_tbl := zseg_in (j := 5) (List.mem_of_getElem? (i := 56) (show (zseg 5)[56]? = some (.code ⟨"WordWar", "learnt", "(I)J"⟩ prog_1_method_46_code 2 (some .long)) from rfl))
theorem zcd_141 : Cond.code (zY 141) (zB 141) (zP 141).2.2.1 (zO 141) ∈ lw_tbl := zseg_in (j := 5) (List.mem_of_getElem? (i := 60) (show (zseg 5)[60]? = some (.code ⟨"WordWar$Fights", "countRows", "()J"⟩ prog_6_method_7_code 1 (some .long)) from rfl))
theorem zcd_142 : Cond.code (zY 142) (zB 142) (zP 142).2.2.1 (zO 142) ∈ lw_tbl := zseg_in (j := 5) (List.mem_of_getElem? (i := 64) (show (zseg 5)[64]? = some (.code ⟨"WordWar$Fights", "fillMust", "()V"⟩ prog_6_method_8_code 4 none) from rfl))
theorem zcd_143 : Cond.code (zY 143) (zB 143) (zP 143).2.2.1 (zO 143) ∈ lw_tbl := zseg_in (j := 5) (List.mem_of_getElem? (i := 69) (show (zseg 5)[69]? = some (.code ⟨"WordWar$Fights", "fillBegun", "()V"⟩ prog_6_method_9_code 5 none) from rfl))
theorem zcd_144 : Cond.code (zY 144) (zB 144) (zP 144).2.2.1 (zO 144) ∈ lw_tbl := zseg_in (j := 5) (List.mem_of_getElem? (i := 75) (show (zseg 5)[75]? = some (.code ⟨"WordWar$Fights", "firstRowAt", "(I)I"⟩ prog_6_method_11_code 6 (some .int)) from rfl))
theorem zcd_145 : Cond.code (zY 145) (zB 145) (zP 145).2.2.1 (zO 145) ∈ lw_tbl := zseg_in (j := 5) (List.mem_of_getElem? (i := 79) (show (zseg 5)[79]? = some (.code ⟨"WordWar", "ahead", "(II)J"⟩ prog_1_method_47_code 3 (some .long)) from rfl))
theorem zcd_146 : Cond.code (zY 146) (zB 146) (zP 146).2.2.1 (zO 146) ∈ lw_tbl := zseg_in (j := 5) (List.mem_of_getElem? (i := 84) (show (zseg 5)[84]? = some (.code ⟨"WordWar$Fights", "rowsWith", "(II)J"⟩ prog_6_method_12_code 5 (some .long)) from rfl))
theorem zcd_147 : Cond.code (zY 147) (zB 147) (zP 147).2.2.1 (zO 147) ∈ lw_tbl := zseg_in (j := 5) (List.mem_of_getElem? (i := 89) (show (zseg 5)[89]? = some (.code ⟨"WordWar$Fights", "fillEnded", "()V"⟩ prog_6_method_10_code 5 none) from rfl))
theorem zcd_148 : Cond.code (zY 148) (zB 148) (zP 148).2.2.1 (zO 148) ∈ lw_tbl := zseg_in (j := 5) (List.mem_of_getElem? (i := 93) (show (zseg 5)[93]? = some (.code ⟨"WordWar$Fights", "fillRows", "()V"⟩ prog_6_method_13_code 5 none) from rfl))
theorem zcd_149 : Cond.code (zY 149) (zB 149) (zP 149).2.2.1 (zO 149) ∈ lw_tbl := zseg_in (j := 5) (List.mem_of_getElem? (i := 96) (show (zseg 5)[96]? = some (.code ⟨"java/util/Arrays", "fill", "([JJ)V"⟩ prog_21_method_101_code 5 none) from rfl))
theorem zcd_150 : Cond.code (zY 150) (zB 150) (zP 150).2.2.1 (zO 150) ∈ lw_tbl := zseg_in (j := 5) (List.mem_of_getElem? (i := 100) (show (zseg 5)[100]? = some (.code ⟨"WordWar$Fights", "addRows", "(IIJ)V"⟩ prog_6_method_14_code 6 none) from rfl))
theorem zcd_151 : Cond.code (zY 151) (zB 151) (zP 151).2.2.1 (zO 151) ∈ lw_tbl := zseg_in (j := 5) (List.mem_of_getElem? (i := 104) (show (zseg 5)[104]? = some (.code ⟨"WordWar", "skirmish", "(I)J"⟩ prog_1_method_48_code 9 (some .long)) from rfl))
theorem zcd_152 : Cond.code (zY 152) (zB 152) (zP 152).2.2.1 (zO 152) ∈ lw_tbl := zseg_in (j := 5) (List.mem_of_getElem? (i := 111) (show (zseg 5)[111]? = some (.code ⟨"WordWar", "forget", "()I"⟩ prog_1_method_49_code 1 (some .int)) from rfl))
theorem zcd_153 : Cond.code (zY 153) (zB 153) (zP 153).2.2.1 (zO 153) ∈ lw_tbl := zseg_in (j := 5) (List.mem_of_getElem? (i := 115) (show (zseg 5)[115]? = some (.code ⟨"WordWar$Fights", "drop", "()I"⟩ prog_6_method_3_code 2 (some .int)) from rfl))
theorem zcd_154 : Cond.code (zY 154) (zB 154) (zP 154).2.2.1 (zO 154) ∈ lw_tbl := zseg_in (j := 5) (List.mem_of_getElem? (i := 119) (show (zseg 5)[119]? = some (.code ⟨"WordWar", "soldier", "(IIIII)Z"⟩ prog_1_method_50_code 6 (some .boolean)) from rfl))
theorem zcd_155 : Cond.code (zY 155) (zB 155) (zP 155).2.2.1 (zO 155) ∈ lw_tbl := zseg_in (j := 5) (List.mem_of_getElem? (i := 122) (show (zseg 5)[122]? = some (.code ⟨"WordWar", "isOnNet", "(I)Z"⟩ prog_1_method_52_code 1 (some .boolean)) from rfl))
theorem zcd_156 : Cond.code (zY 156) (zB 156) (zP 156).2.2.1 (zO 156) ∈ lw_tbl := zseg_in (j := 5) (List.mem_of_getElem? (i := 126) (show (zseg 5)[126]? = some (.code ⟨"WordWar$Soldiers", "enlist", "(IIIII)V"⟩ prog_9_method_2_code 6 none) from rfl))
theorem zcd_157 : Cond.code (zY 157) (zB 157) (zP 157).2.2.1 (zO 157) ∈ lw_tbl := zseg_in (j := 5) (List.mem_of_getElem? (i := 130) (show (zseg 5)[130]? = some (.code ⟨"WordWar", "march", "(IIIII)I"⟩ prog_1_method_51_code 8 (some .int)) from rfl))
theorem zcd_158 : Cond.code (zY 158) (zB 158) (zP 158).2.2.1 (zO 158) ∈ lw_tbl := zseg_in (j := 5) (List.mem_of_getElem? (i := 134) (show (zseg 5)[134]? = some (.code ⟨"WordWar$Soldiers", "assemble", "(III)Z"⟩ prog_9_method_6_code 7 (some .boolean)) from rfl))
theorem zcd_159 : Cond.code (zY 159) (zB 159) (zP 159).2.2.1 (zO 159) ∈ lw_tbl := zseg_in (j := 5) (List.mem_of_getElem? (i := 140) (show (zseg 5)[140]? = some (.code ⟨"WordWar$Soldiers", "hoursTo", "(IIII)I"⟩ prog_9_method_7_code 7 (some .int)) from rfl))
theorem zcd_160 : Cond.code (zY 160) (zB 160) (zP 160).2.2.1 (zO 160) ∈ lw_tbl := zseg_in (j := 5) (List.mem_of_getElem? (i := 147) (show (zseg 5)[147]? = some (.code ⟨"WordWar$Soldiers", "fillReach", "(I)V"⟩ prog_9_method_8_code 4 none) from rfl))
theorem zcd_161 : Cond.code (zY 161) (zB 161) (zP 161).2.2.1 (zO 161) ∈ lw_tbl := zseg_in (j := 5) (List.mem_of_getElem? (i := 151) (show (zseg 5)[151]? = some (.code ⟨"WordWar$Soldiers", "canFill", "(III)Z"⟩ prog_9_method_10_code 5 (some .boolean)) from rfl))
theorem zcd_162 : Cond.code (zY 162) (zB 162) (zP 162).2.2.1 (zO 162) ∈ lw_tbl := zseg_in (j := 5) (List.mem_of_getElem? (i := 156) (show (zseg 5)[156]? = some (.code ⟨"WordWar$Soldiers", "settle", "(II)Z"⟩ prog_9_method_11_code 4 (some .boolean)) from rfl))
theorem zcd_163 : Cond.code (zY 163) (zB 163) (zP 163).2.2.1 (zO 163) ∈ lw_tbl := zseg_in (j := 5) (List.mem_of_getElem? (i := 161) (show (zseg 5)[161]? = some (.code ⟨"WordWar$Soldiers", "chooseWho", "(I)V"⟩ prog_9_method_9_code 6 none) from rfl))
theorem zcd_164 : Cond.code (zY 164) (zB 164) (zP 164).2.2.1 (zO 164) ∈ lw_tbl := zseg_in (j := 5) (List.mem_of_getElem? (i := 165) (show (zseg 5)[165]? = some (.code ⟨"WordWar", "dead", "(II)I"⟩ prog_1_method_53_code 5 (some .int)) from rfl))
theorem zcd_165 : Cond.code (zY 165) (zB 165) (zP 165).2.2.1 (zO 165) ∈ lw_tbl := zseg_in (j := 5) (List.mem_of_getElem? (i := 169) (show (zseg 5)[169]? = some (.code ⟨"WordWar$Army", "total", "(I)I"⟩ prog_3_method_20_code 4 (some .int)) from rfl))
theorem zcd_166 : Cond.code (zY 166) (zB 166) (zP 166).2.2.1 (zO 166) ∈ lw_tbl := zseg_in (j := 5) (List.mem_of_getElem? (i := 173) (show (zseg 5)[173]? = some (.code ⟨"WordWar$Army", "mostAlike", "(I)I"⟩ prog_3_method_21_code 4 (some .int)) from rfl))
theorem zcd_167 : Cond.code (zY 167) (zB 167) (zP 167).2.2.1 (zO 167) ∈ lw_tbl := zseg_in (j := 5) (List.mem_of_getElem? (i := 177) (show (zseg 5)[177]? = some (.code ⟨"WordWar$Army", "letterInLine", "(II)I"⟩ prog_3_method_22_code 5 (some .int)) from rfl))
theorem zcd_168 : Cond.code (zY 168) (zB 168) (zP 168).2.2.1 (zO 168) ∈ lw_tbl := zseg_in (j := 5) (List.mem_of_getElem? (i := 181) (show (zseg 5)[181]? = some (.code ⟨"WordWar", "keep", "()I"⟩ prog_1_method_54_code 1 (some .int)) from rfl))
theorem zcd_169 : Cond.code (zY 169) (zB 169) (zP 169).2.2.1 (zO 169) ∈ lw_tbl := zseg_in (j := 5) (List.mem_of_getElem? (i := 185) (show (zseg 5)[185]? = some (.code ⟨"WordWar$Fights", "save", "()V"⟩ prog_6_method_4_code 1 none) from rfl))
theorem zcd_170 : Cond.code (zY 170) (zB 170) (zP 170).2.2.1 (zO 170) ∈ lw_tbl := zseg_in (j := 5) (List.mem_of_getElem? (i := 190) (show (zseg 5)[190]? = some (.code ⟨"WordWar$Soldiers", "save", "()V"⟩ prog_9_method_4_code 1 none) from rfl))
theorem zcd_171 : Cond.code (zY 171) (zB 171) (zP 171).2.2.1 (zO 171) ∈ lw_tbl := zseg_in (j := 5) (List.mem_of_getElem? (i := 195) (show (zseg 5)[195]? = some (.code ⟨"WordWar", "undo", "()Z"⟩ prog_1_method_55_code 1 (some .boolean)) from rfl))
theorem zcd_172 : Cond.code (zY 172) (zB 172) (zP 172).2.2.1 (zO 172) ∈ lw_tbl := zseg_in (j := 5) (List.mem_of_getElem? (i := 199) (show (zseg 5)[199]? = some (.code ⟨"WordWar$Fights", "load", "()V"⟩ prog_6_method_5_code 1 none) from rfl))
theorem zcd_173 : Cond.code (zY 173) (zB 173) (zP 173).2.2.1 (zO 173) ∈ lw_tbl := zseg_in (j := 5) (List.mem_of_getElem? (i := 203) (show (zseg 5)[203]? = some (.code ⟨"WordWar$Soldiers", "load", "()V"⟩ prog_9_method_5_code 1 none) from rfl))
theorem zcd_174 : Cond.code (zY 174) (zB 174) (zP 174).2.2.1 (zO 174) ∈ lw_tbl := zseg_in (j := 5) (List.mem_of_getElem? (i := 207) (show (zseg 5)[207]? = some (.code ⟨"WordWar", "check", "(II)I"⟩ prog_1_method_56_code 4 (some .int)) from rfl))
theorem zcd_175 : Cond.code (zY 175) (zB 175) (zP 175).2.2.1 (zO 175) ∈ lw_tbl := zseg_in (j := 5) (List.mem_of_getElem? (i := 211) (show (zseg 5)[211]? = some (.code ⟨"WordWar$Tape", "takeNumber", "()I"⟩ prog_10_method_12_code 3 (some .int)) from rfl))
theorem zcd_176 : Cond.code (zY 176) (zB 176) (zP 176).2.2.1 (zO 176) ∈ lw_tbl := zseg_in (j := 5) (List.mem_of_getElem? (i := 215) (show (zseg 5)[215]? = some (.code ⟨"WordWar", "count", "(I)I"⟩ prog_1_method_57_code 2 (some .int)) from rfl))
theorem zcd_177 : Cond.code (zY 177) (zB 177) (zP 177).2.2.1 (zO 177) ∈ lw_tbl := zseg_in (j := 5) (List.mem_of_getElem? (i := 219) (show (zseg 5)[219]? = some (.code ⟨"WordWar", "countHeld", "(II)I"⟩ prog_1_method_58_code 3 (some .int)) from rfl))
theorem zcd_178 : Cond.code (zY 178) (zB 178) (zP 178).2.2.1 (zO 178) ∈ lw_tbl := zseg_in (j := 5) (List.mem_of_getElem? (i := 223) (show (zseg 5)[223]? = some (.code ⟨"WordWar", "countOfSide", "(I)I"⟩ prog_1_method_59_code 3 (some .int)) from rfl))
theorem zcd_179 : Cond.code (zY 179) (zB 179) (zP 179).2.2.1 (zO 179) ∈ lw_tbl := zseg_in (j := 5) (List.mem_of_getElem? (i := 227) (show (zseg 5)[227]? = some (.code ⟨"WordWar$Soldiers", "enlisted", "()I"⟩ prog_9_method_3_code 3 (some .int)) from rfl))
theorem zcd_180 : Cond.code (zY 180) (zB 180) (zP 180).2.2.1 (zO 180) ∈ lw_tbl := zseg_in (j := 5) (List.mem_of_getElem? (i := 232) (show (zseg 5)[232]? = some (.code ⟨"WordWarModel", "<init>", "()V"⟩ prog_14_method_1_code 3 none) from rfl))
theorem zcd_181 : Cond.code (zY 181) (zB 181) (zP 181).2.2.1 (zO 181) ∈ lw_tbl := zseg_in (j := 7) (List.mem_of_getElem? (i := 35) (show (zseg 7)[35]? = some (.code ⟨"WordWarModel", "strength", "(II)Z"⟩ prog_14_method_9_code 3 (some .boolean)) from rfl))
theorem zcd_182 : Cond.code (zY 182) (zB 182) (zP 182).2.2.1 (zO 182) ∈ lw_tbl := zseg_in (j := 7) (List.mem_of_getElem? (i := 38) (show (zseg 7)[38]? = some (.code ⟨"WordWarModel", "isLetter", "(I)Z"⟩ prog_14_method_8_code 1 (some .boolean)) from rfl))
theorem zcd_183 : Cond.code (zY 183) (zB 183) (zP 183).2.2.1 (zO 183) ∈ lw_tbl := zseg_in (j := 7) (List.mem_of_getElem? (i := 41) (show (zseg 7)[41]? = some (.code ⟨"WordWarModel", "in", "(III)Z"⟩ prog_14_method_2_code 3 (some .boolean)) from rfl))
theorem zcd_184 : Cond.code (zY 184) (zB 184) (zP 184).2.2.1 (zO 184) ∈ lw_tbl := zseg_in (j := 7) (List.mem_of_getElem? (i := 45) (show (zseg 7)[45]? = some (.code ⟨"WordWarModel", "reserve", "(III)Z"⟩ prog_14_method_10_code 4 (some .boolean)) from rfl))
theorem zcd_185 : Cond.code (zY 185) (zB 185) (zP 185).2.2.1 (zO 185) ∈ lw_tbl := zseg_in (j := 7) (List.mem_of_getElem? (i := 48) (show (zseg 7)[48]? = some (.code ⟨"WordWarModel", "isSide", "(I)Z"⟩ prog_14_method_7_code 1 (some .boolean)) from rfl))
theorem zcd_186 : Cond.code (zY 186) (zB 186) (zP 186).2.2.1 (zO 186) ∈ lw_tbl := zseg_in (j := 7) (List.mem_of_getElem? (i := 52) (show (zseg 7)[52]? = some (.code ⟨"WordWarModel", "feed", "(IIIII)I"⟩ prog_14_method_13_code 6 (some .int)) from rfl))
theorem zcd_187 : Cond.code (zY 187) (zB 187) (zP 187).2.2.1 (zO 187) ∈ lw_tbl := zseg_in (j := 7) (List.mem_of_getElem? (i := 56) (show (zseg 7)[56]? = some (.code ⟨"WordWarModel", "types", "(I)V"⟩ prog_14_method_12_code 3 none) from rfl))
theorem zcd_188 : Cond.code (zY 188) (zB 188) (zP 188).2.2.1 (zO 188) ∈ lw_tbl := zseg_in (j := 7) (List.mem_of_getElem? (i := 60) (show (zseg 7)[60]? = some (.code ⟨"WordWarModel", "order", "(I)Z"⟩ prog_14_method_14_code 4 (some .boolean)) from rfl))
theorem zcd_189 : Cond.code (zY 189) (zB 189) (zP 189).2.2.1 (zO 189) ∈ lw_tbl := zseg_in (j := 7) (List.mem_of_getElem? (i := 63) (show (zseg 7)[63]? = some (.code ⟨"WordWarModel", "has", "(II)Z"⟩ prog_14_method_5_code 2 (some .boolean)) from rfl))
theorem zcd_190 : Cond.code (zY 190) (zB 190) (zP 190).2.2.1 (zO 190) ∈ lw_tbl := zseg_in (j := 7) (List.mem_of_getElem? (i := 67) (show (zseg 7)[67]? = some (.code ⟨"WordWarModel", "lexicon", "(II)I"⟩ prog_14_method_31_code 7 (some .int)) from rfl))
theorem zcd_191 : Cond.code (zY 191) (zB 191) (zP 191).2.2.1 (zO 191) ∈ lw_tbl := zseg_in (j := 7) (List.mem_of_getElem? (i := 71) (show (zseg 7)[71]? = some (.code ⟨"WordWarModel", "readsLexWord", "()Z"⟩ prog_14_method_29_code 3 (some .boolean)) from rfl))
theorem zcd_192 : Cond.code (zY 192) (zB 192) (zP 192).2.2.1 (zO 192) ∈ lw_tbl := zseg_in (j := 7) (List.mem_of_getElem? (i := 75) (show (zseg 7)[75]? = some (.code ⟨"WordWarModel", "isLetterHere", "()Z"⟩ prog_14_method_27_code 1 (some .boolean)) from rfl))
theorem zcd_193 : Cond.code (zY 193) (zB 193) (zP 193).2.2.1 (zO 193) ∈ lw_tbl := zseg_in (j := 7) (List.mem_of_getElem? (i := 79) (show (zseg 7)[79]? = some (.code ⟨"WordWarModel", "here", "()I"⟩ prog_14_method_32_code 1 (some .int)) from rfl))
theorem zcd_194 : Cond.code (zY 194) (zB 194) (zP 194).2.2.1 (zO 194) ∈ lw_tbl := zseg_in (j := 7) (List.mem_of_getElem? (i := 83) (show (zseg 7)[83]? = some (.code ⟨"WordWarModel", "wrongAt", "(II)Z"⟩ prog_14_method_34_code 3 (some .boolean)) from rfl))
theorem zcd_195 : Cond.code (zY 195) (zB 195) (zP 195).2.2.1 (zO 195) ∈ lw_tbl := zseg_in (j := 7) (List.mem_of_getElem? (i := 87) (show (zseg 7)[87]? = some (.code ⟨"WordWarModel", "readsWord", "([II)Z"⟩ prog_14_method_28_code 3 (some .boolean)) from rfl))
theorem zcd_196 : Cond.code (zY 196) (zB 196) (zP 196).2.2.1 (zO 196) ∈ lw_tbl := zseg_in (j := 7) (List.mem_of_getElem? (i := 90) (show (zseg 7)[90]? = some (.code ⟨"WordWarModel", "areAlike", "([III[III)Z"⟩ prog_14_method_21_code 7 (some .boolean)) from rfl))
theorem zcd_197 : Cond.code (zY 197) (zB 197) (zP 197).2.2.1 (zO 197) ∈ lw_tbl := zseg_in (j := 7) (List.mem_of_getElem? (i := 94) (show (zseg 7)[94]? = some (.code ⟨"WordWarModel", "takes", "(I)Z"⟩ prog_14_method_35_code 2 (some .boolean)) from rfl))
theorem zcd_198 : Cond.code (zY 198) (zB 198) (zP 198).2.2.1 (zO 198) ∈ lw_tbl := zseg_in (j := 7) (List.mem_of_getElem? (i := 98) (show (zseg 7)[98]? = some (.code ⟨"WordWarModel", "manyOf", "(I)I"⟩ prog_14_method_15_code 2 (some .int)) from rfl))
theorem zcd_199 : Cond.code (zY 199) (zB 199) (zP 199).2.2.1 (zO 199) ∈ lw_tbl := zseg_in (j := 7) (List.mem_of_getElem? (i := 102) (show (zseg 7)[102]? = some (.code ⟨"WordWarModel", "fieldOf", "(I)I"⟩ prog_14_method_16_code 2 (some .int)) from rfl))
theorem zcd_200 : Cond.code (zY 200) (zB 200) (zP 200).2.2.1 (zO 200) ∈ lw_tbl := zseg_in (j := 7) (List.mem_of_getElem? (i := 106) (show (zseg 7)[106]? = some (.code ⟨"WordWarModel", "isInNew", "(II)Z"⟩ prog_14_method_30_code 4 (some .boolean)) from rfl))
theorem zcd_201 : Cond.code (zY 201) (zB 201) (zP 201).2.2.1 (zO 201) ∈ lw_tbl := zseg_in (j := 7) (List.mem_of_getElem? (i := 109) (show (zseg 7)[109]? = some (.code ⟨"WordWarModel", "beginOf", "(II)I"⟩ prog_14_method_19_code 2 (some .int)) from rfl))
theorem zcd_202 : Cond.code (zY 202) (zB 202) (zP 202).2.2.1 (zO 202) ∈ lw_tbl := zseg_in (j := 7) (List.mem_of_getElem? (i := 113) (show (zseg 7)[113]? = some (.code ⟨"WordWarModel", "longOf", "(II)I"⟩ prog_14_method_20_code 3 (some .int)) from rfl))
theorem zcd_203 : Cond.code (zY 203) (zB 203) (zP 203).2.2.1 (zO 203) ∈ lw_tbl := zseg_in (j := 7) (List.mem_of_getElem? (i := 117) (show (zseg 7)[117]? = some (.code ⟨"WordWarModel", "goesHome", "(I[III)V"⟩ prog_14_method_26_code 6 none) from rfl))
theorem zcd_204 : Cond.code (zY 204) (zB 204) (zP 204).2.2.1 (zO 204) ∈ lw_tbl := zseg_in (j := 7) (List.mem_of_getElem? (i := 120) (show (zseg 7)[120]? = some (.code ⟨"WordWarModel", "adds", "([III)V"⟩ prog_14_method_11_code 3 none) from rfl))
theorem zcd_205 : Cond.code (zY 205) (zB 205) (zP 205).2.2.1 (zO 205) ∈ lw_tbl := zseg_in (j := 7) (List.mem_of_getElem? (i := 123) (show (zseg 7)[123]? = some (.code ⟨"WordWarModel", "min", "(II)I"⟩ prog_14_method_3_code 2 (some .int)) from rfl))
theorem zcd_206 : Cond.code (zY 206) (zB 206) (zP 206).2.2.1 (zO 206) ∈ lw_tbl := zseg_in (j := 7) (List.mem_of_getElem? (i := 127) (show (zseg 7)[127]? = some (.code ⟨"WordWarModel", "wordIn", "(I[III)I"⟩ prog_14_method_22_code 6 (some .int)) from rfl))
theorem zcd_207 : Cond.code (zY 207) (zB 207) (zP 207).2.2.1 (zO 207) ∈ lw_tbl := zseg_in (j := 7) (List.mem_of_getElem? (i := 131) (show (zseg 7)[131]? = some (.code ⟨"WordWarModel", "setField", "(II)V"⟩ prog_14_method_17_code 3 none) from rfl))
theorem zcd_208 : Cond.code (zY 208) (zB 208) (zP 208).2.2.1 (zO 208) ∈ lw_tbl := zseg_in (j := 7) (List.mem_of_getElem? (i := 135) (show (zseg 7)[135]? = some (.code ⟨"WordWarModel", "law", "(I)I"⟩ prog_14_method_53_code 4 (some .int)) from rfl))
theorem zcd_209 : Cond.code (zY 209) (zB 209) (zP 209).2.2.1 (zO 209) ∈ lw_tbl := zseg_in (j := 7) (List.mem_of_getElem? (i := 139) (show (zseg 7)[139]? = some (.code ⟨"WordWarModel", "readsClause", "()Z"⟩ prog_14_method_52_code 2 (some .boolean)) from rfl))
theorem zcd_210 : Cond.code (zY 210) (zB 210) (zP 210).2.2.1 (zO 210) ∈ lw_tbl := zseg_in (j := 7) (List.mem_of_getElem? (i := 142) (show (zseg 7)[142]? = some (.code ⟨"WordWarModel", "isClause", "(I)Z"⟩ prog_14_method_51_code 1 (some .boolean)) from rfl))
theorem zcd_211 : Cond.code (zY 211) (zB 211) (zP 211).2.2.1 (zO 211) ∈ lw_tbl := zseg_in (j := 7) (List.mem_of_getElem? (i := 146) (show (zseg 7)[146]? = some (.code ⟨"WordWarModel", "readsSum", "()Z"⟩ prog_14_method_45_code 3 (some .boolean)) from rfl))
theorem zcd_212 : Cond.code (zY 212) (zB 212) (zP 212).2.2.1 (zO 212) ∈ lw_tbl := zseg_in (j := 7) (List.mem_of_getElem? (i := 150) (show (zseg 7)[150]? = some (.code ⟨"WordWarModel", "readsFactor", "()Z"⟩ prog_14_method_43_code 2 (some .boolean)) from rfl))
theorem zcd_213 : Cond.code (zY 213) (zB 213) (zP 213).2.2.1 (zO 213) ∈ lw_tbl := zseg_in (j := 7) (List.mem_of_getElem? (i := 154) (show (zseg 7)[154]? = some (.code ⟨"WordWarModel", "opens", "(I)Z"⟩ prog_14_method_38_code 2 (some .boolean)) from rfl))
theorem zcd_214 : Cond.code (zY 214) (zB 214) (zP 214).2.2.1 (zO 214) ∈ lw_tbl := zseg_in (j := 7) (List.mem_of_getElem? (i := 159) (show (zseg 7)[159]? = some (.code ⟨"WordWarModel", "isDigit", "()Z"⟩ prog_14_method_33_code 1 (some .boolean)) from rfl))
theorem zcd_215 : Cond.code (zY 215) (zB 215) (zP 215).2.2.1 (zO 215) ∈ lw_tbl := zseg_in (j := 7) (List.mem_of_getElem? (i := 163) (show (zseg 7)[163]? = some (.code ⟨"WordWarModel", "readsNumber", "()Z"⟩ prog_14_method_36_code 2 (some .boolean)) from rfl))
theorem zcd_216 : Cond.code (zY 216) (zB 216) (zP 216).2.2.1 (zO 216) ∈ lw_tbl := zseg_in (j := 7) (List.mem_of_getElem? (i := 167) (show (zseg 7)[167]? = some (.code ⟨"WordWarModel", "notes", "(II)V"⟩ prog_14_method_37_code 3 none) from rfl))
theorem zcd_217 : Cond.code (zY 217) (zB 217) (zP 217).2.2.1 (zO 217) ∈ lw_tbl := zseg_in (j := 7) (List.mem_of_getElem? (i := 170) (show (zseg 7)[170]? = some (.code ⟨"WordWarModel", "factOf", "(I)I"⟩ prog_14_method_40_code 1 (some .int)) from rfl))
theorem zcd_218 : Cond.code (zY 218) (zB 218) (zP 218).2.2.1 (zO 218) ∈ lw_tbl := zseg_in (j := 7) (List.mem_of_getElem? (i := 173) (show (zseg 7)[173]? = some (.code ⟨"WordWarModel", "sumSign", "(I)I"⟩ prog_14_method_41_code 1 (some .int)) from rfl))
theorem zcd_219 : Cond.code (zY 219) (zB 219) (zP 219).2.2.1 (zO 219) ∈ lw_tbl := zseg_in (j := 7) (List.mem_of_getElem? (i := 177) (show (zseg 7)[177]? = some (.code ⟨"WordWarModel", "closesSums", "(Z)V"⟩ prog_14_method_42_code 2 none) from rfl))
theorem zcd_220 : Cond.code (zY 220) (zB 220) (zP 220).2.2.1 (zO 220) ∈ lw_tbl := zseg_in (j := 7) (List.mem_of_getElem? (i := 181) (show (zseg 7)[181]? = some (.code ⟨"WordWarModel", "waitTop", "()I"⟩ prog_14_method_39_code 1 (some .int)) from rfl))
theorem zcd_221 : Cond.code (zY 221) (zB 221) (zP 221).2.2.1 (zO 221) ∈ lw_tbl := zseg_in (j := 7) (List.mem_of_getElem? (i := 185) (show (zseg 7)[185]? = some (.code ⟨"WordWarModel", "hasOpenSum", "(I)Z"⟩ prog_14_method_44_code 3 (some .boolean)) from rfl))
theorem zcd_222 : Cond.code (zY 222) (zB 222) (zP 222).2.2.1 (zO 222) ∈ lw_tbl := zseg_in (j := 7) (List.mem_of_getElem? (i := 189) (show (zseg 7)[189]? = some (.code ⟨"WordWarModel", "readsCondition", "()Z"⟩ prog_14_method_50_code 1 (some .boolean)) from rfl))
theorem zcd_223 : Cond.code (zY 223) (zB 223) (zP 223).2.2.1 (zO 223) ∈ lw_tbl := zseg_in (j := 7) (List.mem_of_getElem? (i := 193) (show (zseg 7)[193]? = some (.code ⟨"WordWarModel", "readsCompared", "()Z"⟩ prog_14_method_49_code 2 (some .boolean)) from rfl))
theorem zcd_224 : Cond.code (zY 224) (zB 224) (zP 224).2.2.1 (zO 224) ∈ lw_tbl := zseg_in (j := 7) (List.mem_of_getElem? (i := 197) (show (zseg 7)[197]? = some (.code ⟨"WordWarModel", "endsPiece", "()V"⟩ prog_14_method_46_code 1 none) from rfl))
theorem zcd_225 : Cond.code (zY 225) (zB 225) (zP 225).2.2.1 (zO 225) ∈ lw_tbl := zseg_in (j := 7) (List.mem_of_getElem? (i := 201) (show (zseg 7)[201]? = some (.code ⟨"WordWarModel", "lands", "(Z)V"⟩ prog_14_method_47_code 3 none) from rfl))
theorem zcd_226 : Cond.code (zY 226) (zB 226) (zP 226).2.2.1 (zO 226) ∈ lw_tbl := zseg_in (j := 7) (List.mem_of_getElem? (i := 205) (show (zseg 7)[205]? = some (.code ⟨"WordWarModel", "jumps", "(I)V"⟩ prog_14_method_48_code 2 none) from rfl))
theorem zcd_227 : Cond.code (zY 227) (zB 227) (zP 227).2.2.1 (zO 227) ∈ lw_tbl := zseg_in (j := 7) (List.mem_of_getElem? (i := 209) (show (zseg 7)[209]? = some (.code ⟨"WordWarModel", "orders", "(II)I"⟩ prog_14_method_74_code 5 (some .int)) from rfl))
theorem zcd_228 : Cond.code (zY 228) (zB 228) (zP 228).2.2.1 (zO 228) ∈ lw_tbl := zseg_in (j := 7) (List.mem_of_getElem? (i := 213) (show (zseg 7)[213]? = some (.code ⟨"WordWarModel", "readsActs", "(I)Z"⟩ prog_14_method_66_code 3 (some .boolean)) from rfl))
theorem zcd_229 : Cond.code (zY 229) (zB 229) (zP 229).2.2.1 (zO 229) ∈ lw_tbl := zseg_in (j := 7) (List.mem_of_getElem? (i := 217) (show (zseg 7)[217]? = some (.code ⟨"WordWarModel", "readsAct", "()Z"⟩ prog_14_method_65_code 4 (some .boolean)) from rfl))
theorem zcd_230 : Cond.code (zY 230) (zB 230) (zP 230).2.2.1 (zO 230) ∈ lw_tbl := zseg_in (j := 7) (List.mem_of_getElem? (i := 221) (show (zseg 7)[221]? = some (.code ⟨"WordWarModel", "readsAttack", "()Z"⟩ prog_14_method_64_code 2 (some .boolean)) from rfl))
theorem zcd_231 : Cond.code (zY 231) (zB 231) (zP 231).2.2.1 (zO 231) ∈ lw_tbl := zseg_in (j := 7) (List.mem_of_getElem? (i := 225) (show (zseg 7)[225]? = some (.code ⟨"WordWarModel", "readsFirst", "()Z"⟩ prog_14_method_62_code 2 (some .boolean)) from rfl))
theorem zcd_232 : Cond.code (zY 232) (zB 232) (zP 232).2.2.1 (zO 232) ∈ lw_tbl := zseg_in (j := 7) (List.mem_of_getElem? (i := 229) (show (zseg 7)[229]? = some (.code ⟨"WordWarModel", "readsSpy", "()Z"⟩ prog_14_method_63_code 2 (some .boolean)) from rfl))
theorem zcd_233 : Cond.code (zY 233) (zB 233) (zP 233).2.2.1 (zO 233) ∈ lw_tbl := zseg_in (j := 7) (List.mem_of_getElem? (i := 233) (show (zseg 7)[233]? = some (.code ⟨"WordWarModel", "does", "(II)Z"⟩ prog_14_method_73_code 7 (some .boolean)) from rfl))
theorem zcd_234 : Cond.code (zY 234) (zB 234) (zP 234).2.2.1 (zO 234) ∈ lw_tbl := zseg_in (j := 7) (List.mem_of_getElem? (i := 237) (show (zseg 7)[237]? = some (.code ⟨"WordWarModel", "forms", "(II)Z"⟩ prog_14_method_69_code 5 (some .boolean)) from rfl))
theorem zcd_235 : Cond.code (zY 235) (zB 235) (zP 235).2.2.1 (zO 235) ∈ lw_tbl := zseg_in (j := 8) (List.mem_of_getElem? (i := 1) (show (zseg 8)[1]? = some (.code ⟨"WordWarModel", "canForm", "(II)Z"⟩ prog_14_method_68_code 3 (some .boolean)) from rfl))
theorem zcd_236 : Cond.code (zY 236) (zB 236) (zP 236).2.2.1 (zO 236) ∈ lw_tbl := zseg_in (j := 8) (List.mem_of_getElem? (i := 4) (show (zseg 8)[4]? = some (.code ⟨"WordWarModel", "bits", "(I)I"⟩ prog_14_method_6_code 3 (some .int)) from rfl))
theorem zcd_237 : Cond.code (zY 237) (zB 237) (zP 237).2.2.1 (zO 237) ∈ lw_tbl := zseg_in (j := 8) (List.mem_of_getElem? (i := 8) (show (zseg 8)[8]? = some (.code ⟨"WordWarModel", "isThere", "(I[III)Z"⟩ prog_14_method_25_code 8 (some .boolean)) from rfl))
theorem zcd_238 : Cond.code (zY 238) (zB 238) (zP 238).2.2.1 (zO 238) ∈ lw_tbl := zseg_in (j := 8) (List.mem_of_getElem? (i := 12) (show (zseg 8)[12]? = some (.code ⟨"WordWarModel", "stands", "(IIZ)V"⟩ prog_14_method_67_code 4 none) from rfl))
theorem zcd_239 : Cond.code (zY 239) (zB 239) (zP 239).2.2.1 (zO 239) ∈ lw_tbl := zseg_in (j := 8) (List.mem_of_getElem? (i := 16) (show (zseg 8)[16]? = some (.code ⟨"WordWarModel", "turns", "(II)Z"⟩ prog_14_method_70_code 5 (some .boolean)) from rfl))
theorem zcd_240 : Cond.code (zY 240) (zB 240) (zP 240).2.2.1 (zO 240) ∈ lw_tbl := zseg_in (j := 8) (List.mem_of_getElem? (i := 20) (show (zseg 8)[20]? = some (.code ⟨"WordWarModel", "spies", "(IIII)Z"⟩ prog_14_method_71_code 9 (some .boolean)) from rfl))
theorem zcd_241 : Cond.code (zY 241) (zB 241) (zP 241).2.2.1 (zO 241) ∈ lw_tbl := zseg_in (j := 8) (List.mem_of_getElem? (i := 24) (show (zseg 8)[24]? = some (.code ⟨"WordWarModel", "isBeating", "(III)Z"⟩ prog_14_method_24_code 4 (some .boolean)) from rfl))
theorem zcd_242 : Cond.code (zY 242) (zB 242) (zP 242).2.2.1 (zO 242) ∈ lw_tbl := zseg_in (j := 8) (List.mem_of_getElem? (i := 28) (show (zseg 8)[28]? = some (.code ⟨"WordWarModel", "compare", "(I[III[III)I"⟩ prog_14_method_23_code 10 (some .int)) from rfl))
theorem zcd_243 : Cond.code (zY 243) (zB 243) (zP 243).2.2.1 (zO 243) ∈ lw_tbl := zseg_in (j := 8) (List.mem_of_getElem? (i := 32) (show (zseg 8)[32]? = some (.code ⟨"WordWarModel", "loses", "(III)V"⟩ prog_14_method_72_code 11 none) from rfl))
theorem zcd_244 : Cond.code (zY 244) (zB 244) (zP 244).2.2.1 (zO 244) ∈ lw_tbl := zseg_in (j := 8) (List.mem_of_getElem? (i := 36) (show (zseg 8)[36]? = some (.code ⟨"WordWarModel", "draws", "()I"⟩ prog_14_method_61_code 1 (some .int)) from rfl))
theorem zcd_245 : Cond.code (zY 245) (zB 245) (zP 245).2.2.1 (zO 245) ∈ lw_tbl := zseg_in (j := 8) (List.mem_of_getElem? (i := 41) (show (zseg 8)[41]? = some (.code ⟨"WordWarModel", "feelsWord", "(II)V"⟩ prog_14_method_59_code 3 none) from rfl))
theorem zcd_246 : Cond.code (zY 246) (zB 246) (zP 246).2.2.1 (zO 246) ∈ lw_tbl := zseg_in (j := 8) (List.mem_of_getElem? (i := 45) (show (zseg 8)[45]? = some (.code ⟨"WordWarModel", "feels", "(I)V"⟩ prog_14_method_57_code 3 none) from rfl))
theorem zcd_247 : Cond.code (zY 247) (zB 247) (zP 247).2.2.1 (zO 247) ∈ lw_tbl := zseg_in (j := 8) (List.mem_of_getElem? (i := 49) (show (zseg 8)[49]? = some (.code ⟨"WordWarModel", "strengthIn", "(II)I"⟩ prog_14_method_58_code 5 (some .int)) from rfl))
theorem zcd_248 : Cond.code (zY 248) (zB 248) (zP 248).2.2.1 (zO 248) ∈ lw_tbl := zseg_in (j := 8) (List.mem_of_getElem? (i := 53) (show (zseg 8)[53]? = some (.code ⟨"WordWarModel", "byLaw", "(II)I"⟩ prog_14_method_56_code 5 (some .int)) from rfl))
theorem zcd_249 : Cond.code (zY 249) (zB 249) (zP 249).2.2.1 (zO 249) ∈ lw_tbl := zseg_in (j := 8) (List.mem_of_getElem? (i := 57) (show (zseg 8)[57]? = some (.code ⟨"WordWarModel", "comesTo", "(II)I"⟩ prog_14_method_55_code 8 (some .int)) from rfl))
theorem zcd_250 : Cond.code (zY 250) (zB 250) (zP 250).2.2.1 (zO 250) ∈ lw_tbl := zseg_in (j := 8) (List.mem_of_getElem? (i := 60) (show (zseg 8)[60]? = some (.code ⟨"WordWarModel", "reckon", "(III)I"⟩ prog_14_method_54_code 3 (some .int)) from rfl))
theorem zcd_251 : Cond.code (zY 251) (zB 251) (zP 251).2.2.1 (zO 251) ∈ lw_tbl := zseg_in (j := 8) (List.mem_of_getElem? (i := 64) (show (zseg 8)[64]? = some (.code ⟨"WordWarModel", "judged", "(II)I"⟩ prog_14_method_78_code 4 (some .int)) from rfl))
theorem zcd_252 : Cond.code (zY 252) (zB 252) (zP 252).2.2.1 (zO 252) ∈ lw_tbl := zseg_in (j := 8) (List.mem_of_getElem? (i := 68) (show (zseg 8)[68]? = some (.code ⟨"WordWarModel", "begins", "()V"⟩ prog_14_method_76_code 1 none) from rfl))
theorem zcd_253 : Cond.code (zY 253) (zB 253) (zP 253).2.2.1 (zO 253) ∈ lw_tbl := zseg_in (j := 8) (List.mem_of_getElem? (i := 71) (show (zseg 8)[71]? = some (.code ⟨"WordWarModel", "copies", "([I[II)V"⟩ prog_14_method_75_code 4 none) from rfl))
theorem zcd_254 : Cond.code (zY 254) (zB 254) (zP 254).2.2.1 (zO 254) ∈ lw_tbl := zseg_in (j := 8) (List.mem_of_getElem? (i := 75) (show (zseg 8)[75]? = some (.code ⟨"WordWarModel", "again", "()V"⟩ prog_14_method_77_code 1 none) from rfl))
theorem zcd_255 : Cond.code (zY 255) (zB 255) (zP 255).2.2.1 (zO 255) ∈ lw_tbl := zseg_in (j := 8) (List.mem_of_getElem? (i := 79) (show (zseg 8)[79]? = some (.code ⟨"WordWarModel", "turn", "()I"⟩ prog_14_method_79_code 5 (some .int)) from rfl))
theorem zcd_256 : Cond.code (zY 256) (zB 256) (zP 256).2.2.1 (zO 256) ∈ lw_tbl := zseg_in (j := 8) (List.mem_of_getElem? (i := 83) (show (zseg 8)[83]? = some (.code ⟨"WordWarModel", "word", "(III)I"⟩ prog_14_method_80_code 4 (some .int)) from rfl))
theorem zcd_257 : Cond.code (zY 257) (zB 257) (zP 257).2.2.1 (zO 257) ∈ lw_tbl := zseg_in (j := 8) (List.mem_of_getElem? (i := 87) (show (zseg 8)[87]? = some (.code ⟨"WordWarModel", "isWord", "(II)Z"⟩ prog_14_method_18_code 3 (some .boolean)) from rfl))
theorem zcd_258 : Cond.code (zY 258) (zB 258) (zP 258).2.2.1 (zO 258) ∈ lw_tbl := zseg_in (j := 8) (List.mem_of_getElem? (i := 91) (show (zseg 8)[91]? = some (.code ⟨"WordWarModel", "worthOf", "(II)I"⟩ prog_14_method_60_code 3 (some .int)) from rfl))
theorem zcd_259 : Cond.code (zY 259) (zB 259) (zP 259).2.2.1 (zO 259) ∈ lw_tbl := zseg_in (j := 8) (List.mem_of_getElem? (i := 95) (show (zseg 8)[95]? = some (.code ⟨"WordWarModel", "beats", "(II)I"⟩ prog_14_method_82_code 3 (some .int)) from rfl))
theorem zcd_260 : Cond.code (zY 260) (zB 260) (zP 260).2.2.1 (zO 260) ∈ lw_tbl := zseg_in (j := 8) (List.mem_of_getElem? (i := 99) (show (zseg 8)[99]? = some (.code ⟨"WordWarModel", "fightOf", "(II)I"⟩ prog_14_method_81_code 5 (some .int)) from rfl))
theorem zcd_261 : Cond.code (zY 261) (zB 261) (zP 261).2.2.1 (zO 261) ∈ lw_tbl := zseg_in (j := 8) (List.mem_of_getElem? (i := 103) (show (zseg 8)[103]? = some (.code ⟨"WordWarModel", "place", "(III)I"⟩ prog_14_method_83_code 7 (some .int)) from rfl))
theorem zcd_262 : Cond.code (zY 262) (zB 262) (zP 262).2.2.1 (zO 262) ∈ lw_tbl := zseg_in (j := 8) (List.mem_of_getElem? (i := 107) (show (zseg 8)[107]? = some (.code ⟨"WordWarModel", "best", "(II)I"⟩ prog_14_method_86_code 4 (some .int)) from rfl))
theorem zcd_263 : Cond.code (zY 263) (zB 263) (zP 263).2.2.1 (zO 263) ∈ lw_tbl := zseg_in (j := 8) (List.mem_of_getElem? (i := 111) (show (zseg 8)[111]? = some (.code ⟨"WordWarModel", "laysBest", "(I)I"⟩ prog_14_method_85_code 6 (some .int)) from rfl))
theorem zcd_264 : Cond.code (zY 264) (zB 264) (zP 264).2.2.1 (zO 264) ∈ lw_tbl := zseg_in (j := 8) (List.mem_of_getElem? (i := 115) (show (zseg 8)[115]? = some (.code ⟨"WordWarModel", "canBeFormed", "(II)Z"⟩ prog_14_method_84_code 6 (some .boolean)) from rfl))
theorem zcd_265 : Cond.code (zY 265) (zB 265) (zP 265).2.2.1 (zO 265) ∈ lw_tbl := zseg_in (j := 8) (List.mem_of_getElem? (i := 119) (show (zseg 8)[119]? = some (.code ⟨"WordWarModel", "against", "(II)I"⟩ prog_14_method_88_code 7 (some .int)) from rfl))
theorem zcd_266 : Cond.code (zY 266) (zB 266) (zP 266).2.2.1 (zO 266) ∈ lw_tbl := zseg_in (j := 8) (List.mem_of_getElem? (i := 123) (show (zseg 8)[123]? = some (.code ⟨"WordWarModel", "beatenBy", "(II)I"⟩ prog_14_method_87_code 6 (some .int)) from rfl))
theorem zcd_267 : Cond.code (zY 267) (zB 267) (zP 267).2.2.1 (zO 267) ∈ lw_tbl := zseg_in (j := 8) (List.mem_of_getElem? (i := 127) (show (zseg 8)[127]? = some (.code ⟨"WordWarModel", "atOnce", "(I)I"⟩ prog_14_method_91_code 5 (some .int)) from rfl))
theorem zcd_268 : Cond.code (zY 268) (zB 268) (zP 268).2.2.1 (zO 268) ∈ lw_tbl := zseg_in (j := 8) (List.mem_of_getElem? (i := 131) (show (zseg 8)[131]? = some (.code ⟨"WordWarModel", "laysGains", "()V"⟩ prog_14_method_89_code 5 none) from rfl))
theorem zcd_269 : Cond.code (zY 269) (zB 269) (zP 269).2.2.1 (zO 269) ∈ lw_tbl := zseg_in (j := 8) (List.mem_of_getElem? (i := 135) (show (zseg 8)[135]? = some (.code ⟨"WordWarModel", "rests", "(I)Z"⟩ prog_14_method_90_code 4 (some .boolean)) from rfl))
theorem zcd_270 : Cond.code (zY 270) (zB 270) (zP 270).2.2.1 (zO 270) ∈ lw_tbl := zseg_in (j := 8) (List.mem_of_getElem? (i := 139) (show (zseg 8)[139]? = some (.code ⟨"WordWarModel", "exchange", "(II)I"⟩ prog_14_method_94_code 13 (some .int)) from rfl))
theorem zcd_271 : Cond.code (zY 271) (zB 271) (zP 271).2.2.1 (zO 271) ∈ lw_tbl := zseg_in (j := 8) (List.mem_of_getElem? (i := 143) (show (zseg 8)[143]? = some (.code ⟨"WordWarModel", "areExchanged", "(III)Z"⟩ prog_14_method_92_code 4 (some .boolean)) from rfl))
theorem zcd_272 : Cond.code (zY 272) (zB 272) (zP 272).2.2.1 (zO 272) ∈ lw_tbl := zseg_in (j := 8) (List.mem_of_getElem? (i := 147) (show (zseg 8)[147]? = some (.code ⟨"WordWarModel", "exchanges", "(III)V"⟩ prog_14_method_93_code 6 none) from rfl))
theorem zcd_273 : Cond.code (zY 273) (zB 273) (zP 273).2.2.1 (zO 273) ∈ lw_tbl := zseg_in (j := 8) (List.mem_of_getElem? (i := 151) (show (zseg 8)[151]? = some (.code ⟨"WordWarModel", "exchanged", "(III)Z"⟩ prog_14_method_95_code 4 (some .boolean)) from rfl))
theorem zcd_274 : Cond.code (zY 274) (zB 274) (zP 274).2.2.1 (zO 274) ∈ lw_tbl := zseg_in (j := 8) (List.mem_of_getElem? (i := 155) (show (zseg 8)[155]? = some (.code ⟨"WordWarModel", "home", "(II)Z"⟩ prog_14_method_96_code 4 (some .boolean)) from rfl))
theorem zcd_275 : Cond.code (zY 275) (zB 275) (zP 275).2.2.1 (zO 275) ∈ lw_tbl := zseg_in (j := 8) (List.mem_of_getElem? (i := 159) (show (zseg 8)[159]? = some (.code ⟨"WordWarModel", "peace", "(III)I"⟩ prog_14_method_99_code 5 (some .int)) from rfl))
theorem zcd_276 : Cond.code (zY 276) (zB 276) (zP 276).2.2.1 (zO 276) ∈ lw_tbl := zseg_in (j := 8) (List.mem_of_getElem? (i := 163) (show (zseg 8)[163]? = some (.code ⟨"WordWarModel", "laysPeace", "(II)I"⟩ prog_14_method_98_code 13 (some .int)) from rfl))
theorem zcd_277 : Cond.code (zY 277) (zB 277) (zP 277).2.2.1 (zO 277) ∈ lw_tbl := zseg_in (j := 8) (List.mem_of_getElem? (i := 167) (show (zseg 8)[167]? = some (.code ⟨"WordWarModel", "laysShortest", "(II)V"⟩ prog_14_method_97_code 8 none) from rfl))
theorem zcd_278 : Cond.code (zY 278) (zB 278) (zP 278).2.2.1 (zO 278) ∈ lw_tbl := zseg_in (j := 8) (List.mem_of_getElem? (i := 172) (show (zseg 8)[172]? = some (.code ⟨"WordWarModel", "spy", "(III)I"⟩ prog_14_method_102_code 6 (some .int)) from rfl))
theorem zcd_279 : Cond.code (zY 279) (zB 279) (zP 279).2.2.1 (zO 279) ∈ lw_tbl := zseg_in (j := 8) (List.mem_of_getElem? (i := 176) (show (zseg 8)[176]? = some (.code ⟨"WordWarModel", "unlike", "(III)I"⟩ prog_14_method_100_code 6 (some .int)) from rfl))
theorem zcd_280 : Cond.code (zY 280) (zB 280) (zP 280).2.2.1 (zO 280) ∈ lw_tbl := zseg_in (j := 8) (List.mem_of_getElem? (i := 180) (show (zseg 8)[180]? = some (.code ⟨"WordWarModel", "bears", "(II)Z"⟩ prog_14_method_101_code 5 (some .boolean)) from rfl))
theorem zcd_281 : Cond.code (zY 281) (zB 281) (zP 281).2.2.1 (zO 281) ∈ lw_tbl := zseg_in (j := 8) (List.mem_of_getElem? (i := 184) (show (zseg 8)[184]? = some (.code ⟨"WordWarModel", "fight", "(I)I"⟩ prog_14_method_103_code 4 (some .int)) from rfl))
theorem zcd_282 : Cond.code (zY 282) (zB 282) (zP 282).2.2.1 (zO 282) ∈ lw_tbl := zseg_in (j := 8) (List.mem_of_getElem? (i := 188) (show (zseg 8)[188]? = some (.code ⟨"WordWarModel", "learnt", "(I)J"⟩ prog_14_method_106_code 7 (some .long)) from rfl))
theorem zcd_283 : Cond.code (zY 283) (zB 283) (zP 283).2.2.1 (zO 283) ∈ lw_tbl := zseg_in (j := 8) (List.mem_of_getElem? (i := 193) (show (zseg 8)[193]? = some (.code ⟨"WordWarModel", "laysMust", "()V"⟩ prog_14_method_104_code 2 none) from rfl))
theorem zcd_284 : Cond.code (zY 284) (zB 284) (zP 284).2.2.1 (zO 284) ∈ lw_tbl := zseg_in (j := 8) (List.mem_of_getElem? (i := 197) (show (zseg 8)[197]? = some (.code ⟨"WordWarModel", "laysWays", "()J"⟩ prog_14_method_105_code 5 (some .long)) from rfl))
theorem zcd_285 : Cond.code (zY 285) (zB 285) (zP 285).2.2.1 (zO 285) ∈ lw_tbl := zseg_in (j := 8) (List.mem_of_getElem? (i := 202) (show (zseg 8)[202]? = some (.code ⟨"WordWarModel", "ahead", "(II)J"⟩ prog_14_method_108_code 3 (some .long)) from rfl))
theorem zcd_286 : Cond.code (zY 286) (zB 286) (zP 286).2.2.1 (zO 286) ∈ lw_tbl := zseg_in (j := 8) (List.mem_of_getElem? (i := 206) (show (zseg 8)[206]? = some (.code ⟨"WordWarModel", "waysWith", "(II)J"⟩ prog_14_method_107_code 3 (some .long)) from rfl))
theorem zcd_287 : Cond.code (zY 287) (zB 287) (zP 287).2.2.1 (zO 287) ∈ lw_tbl := zseg_in (j := 8) (List.mem_of_getElem? (i := 211) (show (zseg 8)[211]? = some (.code ⟨"WordWarModel", "skirmish", "(I)J"⟩ prog_14_method_109_code 12 (some .long)) from rfl))
theorem zcd_288 : Cond.code (zY 288) (zB 288) (zP 288).2.2.1 (zO 288) ∈ lw_tbl := zseg_in (j := 8) (List.mem_of_getElem? (i := 215) (show (zseg 8)[215]? = some (.code ⟨"WordWarModel", "forget", "()I"⟩ prog_14_method_110_code 2 (some .int)) from rfl))
theorem zcd_289 : Cond.code (zY 289) (zB 289) (zP 289).2.2.1 (zO 289) ∈ lw_tbl := zseg_in (j := 8) (List.mem_of_getElem? (i := 219) (show (zseg 8)[219]? = some (.code ⟨"WordWarModel", "soldier", "(IIIII)Z"⟩ prog_14_method_111_code 6 (some .boolean)) from rfl))
theorem zcd_290 : Cond.code (zY 290) (zB 290) (zP 290).2.2.1 (zO 290) ∈ lw_tbl := zseg_in (j := 8) (List.mem_of_getElem? (i := 223) (show (zseg 8)[223]? = some (.code ⟨"WordWarModel", "march", "(IIIII)I"⟩ prog_14_method_117_code 10 (some .int)) from rfl))
theorem zcd_291 : Cond.code (zY 291) (zB 291) (zP 291).2.2.1 (zO 291) ∈ lw_tbl := zseg_in (j := 8) (List.mem_of_getElem? (i := 227) (show (zseg 8)[227]? = some (.code ⟨"WordWarModel", "laysHours", "(IIII)V"⟩ prog_14_method_113_code 8 none) from rfl))
theorem zcd_292 : Cond.code (zY 292) (zB 292) (zP 292).2.2.1 (zO 292) ∈ lw_tbl := zseg_in (j := 8) (List.mem_of_getElem? (i := 230) (show (zseg 8)[230]? = some (.code ⟨"WordWarModel", "size", "(I)I"⟩ prog_14_method_112_code 1 (some .int)) from rfl))
theorem zcd_293 : Cond.code (zY 293) (zB 293) (zP 293).2.2.1 (zO 293) ∈ lw_tbl := zseg_in (j := 8) (List.mem_of_getElem? (i := 234) (show (zseg 8)[234]? = some (.code ⟨"WordWarModel", "canMarch", "(III)Z"⟩ prog_14_method_116_code 5 (some .boolean)) from rfl))
theorem zcd_294 : Cond.code (zY 294) (zB 294) (zP 294).2.2.1 (zO 294) ∈ lw_tbl := zseg_in (j := 8) (List.mem_of_getElem? (i := 238) (show (zseg 8)[238]? = some (.code ⟨"WordWarModel", "finds", "(III)Z"⟩ prog_14_method_114_code 9 (some .boolean)) from rfl))
theorem zcd_295 : Cond.code (zY 295) (zB 295) (zP 295).2.2.1 (zO 295) ∈ lw_tbl := zseg_in (j := 9) (List.mem_of_getElem? (i := 2) (show (zseg 9)[2]? = some (.code ⟨"WordWarModel", "moves", "(II)V"⟩ prog_14_method_115_code 4 none) from rfl))
theorem zcd_296 : Cond.code (zY 296) (zB 296) (zP 296).2.2.1 (zO 296) ∈ lw_tbl := zseg_in (j := 9) (List.mem_of_getElem? (i := 6) (show (zseg 9)[6]? = some (.code ⟨"WordWarModel", "isFirst", "(IIII)Z"⟩ prog_14_method_118_code 5 (some .boolean)) from rfl))
theorem zcd_297 : Cond.code (zY 297) (zB 297) (zP 297).2.2.1 (zO 297) ∈ lw_tbl := zseg_in (j := 9) (List.mem_of_getElem? (i := 10) (show (zseg 9)[10]? = some (.code ⟨"WordWarModel", "forgetsFrom", "(I)V"⟩ prog_14_method_119_code 3 none) from rfl))
theorem zcd_298 : Cond.code (zY 298) (zB 298) (zP 298).2.2.1 (zO 298) ∈ lw_tbl := zseg_in (j := 9) (List.mem_of_getElem? (i := 14) (show (zseg 9)[14]? = some (.code ⟨"WordWarModel", "dead", "(II)I"⟩ prog_14_method_120_code 7 (some .int)) from rfl))
theorem zcd_299 : Cond.code (zY 299) (zB 299) (zP 299).2.2.1 (zO 299) ∈ lw_tbl := zseg_in (j := 9) (List.mem_of_getElem? (i := 17) (show (zseg 9)[17]? = some (.code ⟨"WordWarModel", "max", "(II)I"⟩ prog_14_method_4_code 2 (some .int)) from rfl))
theorem zcd_300 : Cond.code (zY 300) (zB 300) (zP 300).2.2.1 (zO 300) ∈ lw_tbl := zseg_in (j := 9) (List.mem_of_getElem? (i := 21) (show (zseg 9)[21]? = some (.code ⟨"WordWarModel", "seed", "(I)Z"⟩ prog_14_method_121_code 2 (some .boolean)) from rfl))
theorem zcd_301 : Cond.code (zY 301) (zB 301) (zP 301).2.2.1 (zO 301) ∈ lw_tbl := zseg_in (j := 9) (List.mem_of_getElem? (i := 26) (show (zseg 9)[26]? = some (.code ⟨"WordWarModel", "keep", "()I"⟩ prog_14_method_125_code 1 (some .int)) from rfl))
theorem zcd_302 : Cond.code (zY 302) (zB 302) (zP 302).2.2.1 (zO 302) ∈ lw_tbl := zseg_in (j := 9) (List.mem_of_getElem? (i := 30) (show (zseg 9)[30]? = some (.code ⟨"WordWarModel", "keepsField", "(I)V"⟩ prog_14_method_123_code 5 none) from rfl))
theorem zcd_303 : Cond.code (zY 303) (zB 303) (zP 303).2.2.1 (zO 303) ∈ lw_tbl := zseg_in (j := 9) (List.mem_of_getElem? (i := 34) (show (zseg 9)[34]? = some (.code ⟨"WordWarModel", "sumOf", "([II)I"⟩ prog_14_method_122_code 5 (some .int)) from rfl))
theorem zcd_304 : Cond.code (zY 304) (zB 304) (zP 304).2.2.1 (zO 304) ∈ lw_tbl := zseg_in (j := 9) (List.mem_of_getElem? (i := 38) (show (zseg 9)[38]? = some (.code ⟨"WordWarModel", "undo", "()Z"⟩ prog_14_method_126_code 1 (some .boolean)) from rfl))
theorem zcd_305 : Cond.code (zY 305) (zB 305) (zP 305).2.2.1 (zO 305) ∈ lw_tbl := zseg_in (j := 9) (List.mem_of_getElem? (i := 42) (show (zseg 9)[42]? = some (.code ⟨"WordWarModel", "undoesField", "(I)V"⟩ prog_14_method_124_code 5 none) from rfl))
theorem zcd_306 : Cond.code (zY 306) (zB 306) (zP 306).2.2.1 (zO 306) ∈ lw_tbl := zseg_in (j := 9) (List.mem_of_getElem? (i := 46) (show (zseg 9)[46]? = some (.code ⟨"WordWarModel", "check", "(II)I"⟩ prog_14_method_128_code 4 (some .int)) from rfl))
theorem zcd_307 : Cond.code (zY 307) (zB 307) (zP 307).2.2.1 (zO 307) ∈ lw_tbl := zseg_in (j := 9) (List.mem_of_getElem? (i := 50) (show (zseg 9)[50]? = some (.code ⟨"WordWarModel", "tapeNumber", "(I)I"⟩ prog_14_method_127_code 4 (some .int)) from rfl))
theorem zcd_308 : Cond.code (zY 308) (zB 308) (zP 308).2.2.1 (zO 308) ∈ lw_tbl := zseg_in (j := 9) (List.mem_of_getElem? (i := 54) (show (zseg 9)[54]? = some (.code ⟨"WordWarModel", "count", "(I)I"⟩ prog_14_method_130_code 2 (some .int)) from rfl))
theorem zcd_309 : Cond.code (zY 309) (zB 309) (zP 309).2.2.1 (zO 309) ∈ lw_tbl := zseg_in (j := 9) (List.mem_of_getElem? (i := 58) (show (zseg 9)[58]? = some (.code ⟨"WordWarModel", "soldierMany", "()I"⟩ prog_14_method_129_code 3 (some .int)) from rfl))
set_option maxRecDepth 100000 in
theorem zcd_all (n : Nat) (hn : n < znM) : Cond.code (zY n) (zB n) (zP n).2.2.1 (zO n) ∈ lw_tbl := by
  have hn : n < 310 := hn
  match n, hn with
  | 0, _ => exact zcd_0
  | 1, _ => exact zcd_1
  | 2, _ => exact zcd_2
  | 3, _ => exact zcd_3
  | 4, _ => exact zcd_4
  | 5, _ => exact zcd_5
  | 6, _ => exact zcd_6
  | 7, _ => exact zcd_7
  | 8, _ => exact zcd_8
  | 9, _ => exact zcd_9
  | 10, _ => exact zcd_10
  | 11, _ => exact zcd_11
  | 12, _ => exact zcd_12
  | 13, _ => exact zcd_13
  | 14, _ => exact zcd_14
  | 15, _ => exact zcd_15
  | 16, _ => exact zcd_16
  | 17, _ => exact zcd_17
  | 18, _ => exact zcd_18
  | 19, _ => exact zcd_19
  | 20, _ => exact zcd_20
  | 21, _ => exact zcd_21
  | 22, _ => exact zcd_22
  | 23, _ => exact zcd_23
  | 24, _ => exact zcd_24
  | 25, _ => exact zcd_25
  | 26, _ => exact zcd_26
  | 27, _ => exact zcd_27
  | 28, _ => exact zcd_28
  | 29, _ => exact zcd_29
  | 30, _ => exact zcd_30
  | 31, _ => exact zcd_31
  | 32, _ => exact zcd_32
  | 33, _ => exact zcd_33
  | 34, _ => exact zcd_34
  | 35, _ => exact zcd_35
  | 36, _ => exact zcd_36
  | 37, _ => exact zcd_37
  | 38, _ => exact zcd_38
  | 39, _ => exact zcd_39
  | 40, _ => exact zcd_40
  | 41, _ => exact zcd_41
  | 42, _ => exact zcd_42
  | 43, _ => exact zcd_43
  | 44, _ => exact zcd_44
  | 45, _ => exact zcd_45
  | 46, _ => exact zcd_46
  | 47, _ => exact zcd_47
  | 48, _ => exact zcd_48
  | 49, _ => exact zcd_49
  | 50, _ => exact zcd_50
  | 51, _ => exact zcd_51
  | 52, _ => exact zcd_52
  | 53, _ => exact zcd_53
  | 54, _ => exact zcd_54
  | 55, _ => exact zcd_55
  | 56, _ => exact zcd_56
  | 57, _ => exact zcd_57
  | 58, _ => exact zcd_58
  | 59, _ => exact zcd_59
  | 60, _ => exact zcd_60
  | 61, _ => exact zcd_61
  | 62, _ => exact zcd_62
  | 63, _ => exact zcd_63
  | 64, _ => exact zcd_64
  | 65, _ => exact zcd_65
  | 66, _ => exact zcd_66
  | 67, _ => exact zcd_67
  | 68, _ => exact zcd_68
  | 69, _ => exact zcd_69
  | 70, _ => exact zcd_70
  | 71, _ => exact zcd_71
  | 72, _ => exact zcd_72
  | 73, _ => exact zcd_73
  | 74, _ => exact zcd_74
  | 75, _ => exact zcd_75
  | 76, _ => exact zcd_76
  | 77, _ => exact zcd_77
  | 78, _ => exact zcd_78
  | 79, _ => exact zcd_79
  | 80, _ => exact zcd_80
  | 81, _ => exact zcd_81
  | 82, _ => exact zcd_82
  | 83, _ => exact zcd_83
  | 84, _ => exact zcd_84
  | 85, _ => exact zcd_85
  | 86, _ => exact zcd_86
  | 87, _ => exact zcd_87
  | 88, _ => exact zcd_88
  | 89, _ => exact zcd_89
  | 90, _ => exact zcd_90
  | 91, _ => exact zcd_91
  | 92, _ => exact zcd_92
  | 93, _ => exact zcd_93
  | 94, _ => exact zcd_94
  | 95, _ => exact zcd_95
  | 96, _ => exact zcd_96
  | 97, _ => exact zcd_97
  | 98, _ => exact zcd_98
  | 99, _ => exact zcd_99
  | 100, _ => exact zcd_100
  | 101, _ => exact zcd_101
  | 102, _ => exact zcd_102
  | 103, _ => exact zcd_103
  | 104, _ => exact zcd_104
  | 105, _ => exact zcd_105
  | 106, _ => exact zcd_106
  | 107, _ => exact zcd_107
  | 108, _ => exact zcd_108
  | 109, _ => exact zcd_109
  | 110, _ => exact zcd_110
  | 111, _ => exact zcd_111
  | 112, _ => exact zcd_112
  | 113, _ => exact zcd_113
  | 114, _ => exact zcd_114
  | 115, _ => exact zcd_115
  | 116, _ => exact zcd_116
  | 117, _ => exact zcd_117
  | 118, _ => exact zcd_118
  | 119, _ => exact zcd_119
  | 120, _ => exact zcd_120
  | 121, _ => exact zcd_121
  | 122, _ => exact zcd_122
  | 123, _ => exact zcd_123
  | 124, _ => exact zcd_124
  | 125, _ => exact zcd_125
  | 126, _ => exact zcd_126
  | 127, _ => exact zcd_127
  | 128, _ => exact zcd_128
  | 129, _ => exact zcd_129
  | 130, _ => exact zcd_130
  | 131, _ => exact zcd_131
  | 132, _ => exact zcd_132
  | 133, _ => exact zcd_133
  | 134, _ => exact zcd_134
  | 135, _ => exact zcd_135
  | 136, _ => exact zcd_136
  | 137, _ => exact zcd_137
  | 138, _ => exact zcd_138
  | 139, _ => exact zcd_139
  | 140, _ => exact zcd_140
  | 141, _ => exact zcd_141
  | 142, _ => exact zcd_142
  | 143, _ => exact zcd_143
  | 144, _ => exact zcd_144
  | 145, _ => exact zcd_145
  | 146, _ => exact zcd_146
  | 147, _ => exact zcd_147
  | 148, _ => exact zcd_148
  | 149, _ => exact zcd_149
  | 150, _ => exact zcd_150
  | 151, _ => exact zcd_151
  | 152, _ => exact zcd_152
  | 153, _ => exact zcd_153
  | 154, _ => exact zcd_154
  | 155, _ => exact zcd_155
  | 156, _ => exact zcd_156
  | 157, _ => exact zcd_157
  | 158, _ => exact zcd_158
  | 159, _ => exact zcd_159
  | 160, _ => exact zcd_160
  | 161, _ => exact zcd_161
  | 162, _ => exact zcd_162
  | 163, _ => exact zcd_163
  | 164, _ => exact zcd_164
  | 165, _ => exact zcd_165
  | 166, _ => exact zcd_166
  | 167, _ => exact zcd_167
  | 168, _ => exact zcd_168
  | 169, _ => exact zcd_169
  | 170, _ => exact zcd_170
  | 171, _ => exact zcd_171
  | 172, _ => exact zcd_172
  | 173, _ => exact zcd_173
  | 174, _ => exact zcd_174
  | 175, _ => exact zcd_175
  | 176, _ => exact zcd_176
  | 177, _ => exact zcd_177
  | 178, _ => exact zcd_178
  | 179, _ => exact zcd_179
  | 180, _ => exact zcd_180
  | 181, _ => exact zcd_181
  | 182, _ => exact zcd_182
  | 183, _ => exact zcd_183
  | 184, _ => exact zcd_184
  | 185, _ => exact zcd_185
  | 186, _ => exact zcd_186
  | 187, _ => exact zcd_187
  | 188, _ => exact zcd_188
  | 189, _ => exact zcd_189
  | 190, _ => exact zcd_190
  | 191, _ => exact zcd_191
  | 192, _ => exact zcd_192
  | 193, _ => exact zcd_193
  | 194, _ => exact zcd_194
  | 195, _ => exact zcd_195
  | 196, _ => exact zcd_196
  | 197, _ => exact zcd_197
  | 198, _ => exact zcd_198
  | 199, _ => exact zcd_199
  | 200, _ => exact zcd_200
  | 201, _ => exact zcd_201
  | 202, _ => exact zcd_202
  | 203, _ => exact zcd_203
  | 204, _ => exact zcd_204
  | 205, _ => exact zcd_205
  | 206, _ => exact zcd_206
  | 207, _ => exact zcd_207
  | 208, _ => exact zcd_208
  | 209, _ => exact zcd_209
  | 210, _ => exact zcd_210
  | 211, _ => exact zcd_211
  | 212, _ => exact zcd_212
  | 213, _ => exact zcd_213
  | 214, _ => exact zcd_214
  | 215, _ => exact zcd_215
  | 216, _ => exact zcd_216
  | 217, _ => exact zcd_217
  | 218, _ => exact zcd_218
  | 219, _ => exact zcd_219
  | 220, _ => exact zcd_220
  | 221, _ => exact zcd_221
  | 222, _ => exact zcd_222
  | 223, _ => exact zcd_223
  | 224, _ => exact zcd_224
  | 225, _ => exact zcd_225
  | 226, _ => exact zcd_226
  | 227, _ => exact zcd_227
  | 228, _ => exact zcd_228
  | 229, _ => exact zcd_229
  | 230, _ => exact zcd_230
  | 231, _ => exact zcd_231
  | 232, _ => exact zcd_232
  | 233, _ => exact zcd_233
  | 234, _ => exact zcd_234
  | 235, _ => exact zcd_235
  | 236, _ => exact zcd_236
  | 237, _ => exact zcd_237
  | 238, _ => exact zcd_238
  | 239, _ => exact zcd_239
  | 240, _ => exact zcd_240
  | 241, _ => exact zcd_241
  | 242, _ => exact zcd_242
  | 243, _ => exact zcd_243
  | 244, _ => exact zcd_244
  | 245, _ => exact zcd_245
  | 246, _ => exact zcd_246
  | 247, _ => exact zcd_247
  | 248, _ => exact zcd_248
  | 249, _ => exact zcd_249
  | 250, _ => exact zcd_250
  | 251, _ => exact zcd_251
  | 252, _ => exact zcd_252
  | 253, _ => exact zcd_253
  | 254, _ => exact zcd_254
  | 255, _ => exact zcd_255
  | 256, _ => exact zcd_256
  | 257, _ => exact zcd_257
  | 258, _ => exact zcd_258
  | 259, _ => exact zcd_259
  | 260, _ => exact zcd_260
  | 261, _ => exact zcd_261
  | 262, _ => exact zcd_262
  | 263, _ => exact zcd_263
  | 264, _ => exact zcd_264
  | 265, _ => exact zcd_265
  | 266, _ => exact zcd_266
  | 267, _ => exact zcd_267
  | 268, _ => exact zcd_268
  | 269, _ => exact zcd_269
  | 270, _ => exact zcd_270
  | 271, _ => exact zcd_271
  | 272, _ => exact zcd_272
  | 273, _ => exact zcd_273
  | 274, _ => exact zcd_274
  | 275, _ => exact zcd_275
  | 276, _ => exact zcd_276
  | 277, _ => exact zcd_277
  | 278, _ => exact zcd_278
  | 279, _ => exact zcd_279
  | 280, _ => exact zcd_280
  | 281, _ => exact zcd_281
  | 282, _ => exact zcd_282
  | 283, _ => exact zcd_283
  | 284, _ => exact zcd_284
  | 285, _ => exact zcd_285
  | 286, _ => exact zcd_286
  | 287, _ => exact zcd_287
  | 288, _ => exact zcd_288
  | 289, _ => exact zcd_289
  | 290, _ => exact zcd_290
  | 291, _ => exact zcd_291
  | 292, _ => exact zcd_292
  | 293, _ => exact zcd_293
  | 294, _ => exact zcd_294
  | 295, _ => exact zcd_295
  | 296, _ => exact zcd_296
  | 297, _ => exact zcd_297
  | 298, _ => exact zcd_298
  | 299, _ => exact zcd_299
  | 300, _ => exact zcd_300
  | 301, _ => exact zcd_301
  | 302, _ => exact zcd_302
  | 303, _ => exact zcd_303
  | 304, _ => exact zcd_304
  | 305, _ => exact zcd_305
  | 306, _ => exact zcd_306
  | 307, _ => exact zcd_307
  | 308, _ => exact zcd_308
  | 309, _ => exact zcd_309
  | n + 310, h => exact absurd h (by omega)
