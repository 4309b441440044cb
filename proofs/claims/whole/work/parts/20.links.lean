/-! links of the program by classes: printed by wip/whole/gen/mkcode.py -/
def zl_W : List (Nat × Nat × Nat × Cond) := [(1, 1, 27, .methodLink "WordWar" 1 ⟨"java/lang/Object", "<init>", "()V"⟩),
  (7, 1, 30, .classLink "WordWar" 7 "WordWar$Tape"),
  (10, 2, 90, .fieldLink "WordWar" 10 "WordWar" "tape" "LWordWar$Tape;"),
  (16, 1, 63, .classLink "WordWar" 16 "WordWar$Army"),
  (18, 1, 66, .methodLink "WordWar" 18 ⟨"WordWar$Army", "<init>", "()V"⟩),
  (19, 2, 91, .fieldLink "WordWar" 19 "WordWar" "armies" "[LWordWar$Army;"),
  (23, 1, 119, .classLink "WordWar" 23 "WordWar$Chooser"),
  (26, 2, 92, .fieldLink "WordWar" 26 "WordWar" "choosers" "[LWordWar$Chooser;"),
  (30, 2, 93, .fieldLink "WordWar" 30 "WordWar" "strengths" "[I"),
  (34, 1, 159, .methodLink "WordWar" 34 ⟨"java/util/Arrays", "fill", "([II)V"⟩),
  (40, 1, 162, .classLink "WordWar" 40 "WordWar$Acts"),
  (43, 2, 94, .fieldLink "WordWar" 43 "WordWar" "acts" "LWordWar$Acts;"),
  (47, 1, 185, .classLink "WordWar" 47 "WordWar$LawReader"),
  (50, 2, 95, .fieldLink "WordWar" 50 "WordWar" "lawReader" "LWordWar$LawReader;"),
  (54, 1, 198, .classLink "WordWar" 54 "WordWar$Law"),
  (57, 2, 96, .fieldLink "WordWar" 57 "WordWar" "law" "LWordWar$Law;"),
  (61, 2, 97, .fieldLink "WordWar" 61 "WordWar" "spareLaw" "LWordWar$Law;"),
  (64, 2, 98, .fieldLink "WordWar" 64 "WordWar" "told" "[I"),
  (67, 2, 99, .fieldLink "WordWar" 67 "WordWar" "gains" "[I"),
  (70, 1, 238, .classLink "WordWar" 70 "WordWar$Treaty"),
  (73, 2, 100, .fieldLink "WordWar" 73 "WordWar" "treaty" "LWordWar$Treaty;"),
  (77, 2, 16, .classLink "WordWar" 77 "WordWar$Fights"),
  (80, 2, 101, .fieldLink "WordWar" 80 "WordWar" "fights" "LWordWar$Fights;"),
  (84, 2, 54, .classLink "WordWar" 84 "WordWar$Soldiers"),
  (87, 2, 102, .fieldLink "WordWar" 87 "WordWar" "soldiers" "LWordWar$Soldiers;"),
  (91, 2, 87, .classLink "WordWar" 91 "WordWar$Camp"),
  (94, 2, 103, .fieldLink "WordWar" 94 "WordWar" "kept" "[LWordWar$Camp;"),
  (98, 2, 104, .fieldLink "WordWar" 98 "WordWar" "judging" "[LWordWar$Camp;"),
  (101, 2, 109, .fieldLink "WordWar" 101 "WordWar" "drawn" "I"),
  (105, 2, 155, .methodLink "WordWar" 105 ⟨"WordWar", "isLetter", "(I)Z"⟩),
  (109, 2, 162, .methodLink "WordWar" 109 ⟨"WordWar", "isSide", "(I)Z"⟩),
  (112, 1, 93, .fieldLink "WordWar" 112 "WordWar$Army" "held" "[I"),
  (115, 1, 38, .fieldLink "WordWar" 115 "WordWar$Tape" "size" "I"),
  (118, 2, 169, .methodLink "WordWar" 118 ⟨"WordWar$Tape", "append", "(I)V"⟩),
  (122, 2, 177, .methodLink "WordWar" 122 ⟨"WordWar$Tape", "open", "(I)V"⟩),
  (125, 2, 184, .methodLink "WordWar" 125 ⟨"WordWar$Army", "takeOrder", "(LWordWar$Tape;)Z"⟩),
  (129, 2, 204, .methodLink "WordWar" 129 ⟨"WordWar$Tape", "holdsText", "(III)Z"⟩),
  (133, 2, 208, .methodLink "WordWar" 133 ⟨"WordWar$Army", "takeLexicon", "(LWordWar$Tape;)I"⟩),
  (137, 3, 49, .methodLink "WordWar" 137 ⟨"WordWar$LawReader", "read", "(LWordWar$Tape;LWordWar$Law;)V"⟩),
  (141, 1, 50, .fieldLink "WordWar" 141 "WordWar$Tape" "fault" "I"),
  (144, 1, 212, .fieldLink "WordWar" 144 "WordWar$Law" "clauses" "I"),
  (147, 3, 185, .constant "WordWar" 147 65535),
  (148, 3, 190, .methodLink "WordWar" 148 ⟨"WordWar", "readActs", "(II)I"⟩),
  (152, 1, 175, .fieldLink "WordWar" 152 "WordWar$Acts" "size" "I"),
  (153, 3, 221, .methodLink "WordWar" 153 ⟨"WordWar", "doAct", "(II)Z"⟩),
  (157, 4, 100, .methodLink "WordWar" 157 ⟨"WordWar$Army", "saveTo", "(LWordWar$Camp;)V"⟩),
  (161, 4, 101, .methodLink "WordWar" 161 ⟨"WordWar$Army", "loadFrom", "(LWordWar$Camp;)V"⟩),
  (164, 3, 194, .methodLink "WordWar" 164 ⟨"WordWar$Acts", "read", "(LWordWar$Tape;)V"⟩),
  (167, 4, 106, .methodLink "WordWar" 167 ⟨"WordWar", "deserts", "(II)Z"⟩),
  (170, 4, 95, .methodLink "WordWar" 170 ⟨"WordWar$Army", "add", "(III)V"⟩),
  (174, 2, 108, .fieldLink "WordWar" 174 "WordWar" "turns" "I"),
  (177, 4, 46, .methodLink "WordWar" 177 ⟨"WordWar", "nextDraw", "()I"⟩),
  (181, 4, 32, .methodLink "WordWar" 181 ⟨"WordWar", "tell", "(I)V"⟩),
  (184, 4, 50, .methodLink "WordWar" 184 ⟨"WordWar$Law", "ask", "(I[I)I"⟩),
  (188, 1, 171, .fieldLink "WordWar" 188 "WordWar$Acts" "word" "[I"),
  (191, 3, 225, .methodLink "WordWar" 191 ⟨"WordWar$Army", "find", "(I)I"⟩),
  (195, 1, 169, .fieldLink "WordWar" 195 "WordWar$Acts" "kind" "[I"),
  (198, 3, 226, .methodLink "WordWar" 198 ⟨"WordWar$Army", "form", "(I)Z"⟩),
  (201, 4, 7, .methodLink "WordWar" 201 ⟨"WordWar$Army", "dissolve", "(I)Z"⟩),
  (204, 4, 11, .methodLink "WordWar" 204 ⟨"WordWar$Words", "backwards", "(I)I"⟩),
  (209, 4, 16, .methodLink "WordWar" 209 ⟨"WordWar$Army", "replace", "(II)Z"⟩),
  (212, 1, 173, .fieldLink "WordWar" 212 "WordWar$Acts" "other" "[I"),
  (215, 4, 20, .methodLink "WordWar" 215 ⟨"WordWar", "attack", "(III)Z"⟩),
  (218, 4, 90, .methodLink "WordWar" 218 ⟨"WordWar", "changeBySpy", "(LWordWar$Army;LWordWar$Army;I)Z"⟩),
  (222, 4, 45, .methodLink "WordWar" 222 ⟨"WordWar$Words", "letterAt", "(II)I"⟩),
  (225, 4, 94, .methodLink "WordWar" 225 ⟨"WordWar$Words", "changed", "(III)I"⟩),
  (229, 4, 24, .methodLink "WordWar" 229 ⟨"WordWar$Army", "stands", "(I)Z"⟩),
  (232, 1, 95, .fieldLink "WordWar" 232 "WordWar$Army" "words" "[I"),
  (235, 4, 25, .methodLink "WordWar" 235 ⟨"WordWar", "isAhead", "(IILWordWar$Army;)Z"⟩),
  (239, 4, 36, .methodLink "WordWar" 239 ⟨"WordWar", "tellWord", "(I)V"⟩),
  (242, 4, 40, .methodLink "WordWar" 242 ⟨"WordWar$Words", "sizeOf", "(I)I"⟩),
  (245, 4, 41, .methodLink "WordWar" 245 ⟨"WordWar", "strengthOf", "(I)I"⟩),
  (248, 4, 81, .methodLink "WordWar" 248 ⟨"WordWar$Army", "lose", "(III)V"⟩),
  (251, 1, 91, .fieldLink "WordWar" 251 "WordWar$Army" "rank" "[I"),
  (254, 4, 28, .methodLink "WordWar" 254 ⟨"WordWar$Words", "keyOf", "(I[I)J"⟩),
  (258, 4, 114, .methodLink "WordWar" 258 ⟨"WordWar$Army", "hasWord", "(I)Z"⟩),
  (261, 4, 115, .methodLink "WordWar" 261 ⟨"WordWar$Army", "canForm", "(I)Z"⟩),
  (264, 4, 116, .methodLink "WordWar" 264 ⟨"WordWar", "worthOf", "(II)I"⟩),
  (267, 4, 124, .methodLink "WordWar" 267 ⟨"WordWar", "outcome", "(II)I"⟩),
  (270, 1, 99, .fieldLink "WordWar" 270 "WordWar$Army" "size" "I"),
  (271, 4, 136, .methodLink "WordWar" 271 ⟨"WordWar", "prepareChooser", "(I)V"⟩),
  (274, 4, 152, .methodLink "WordWar" 274 ⟨"WordWar", "searchBest", "(IIII)I"⟩),
  (278, 1, 136, .fieldLink "WordWar" 278 "WordWar$Chooser" "most" "I"),
  (281, 1, 138, .fieldLink "WordWar" 281 "WordWar$Chooser" "bits" "I"),
  (284, 4, 140, .methodLink "WordWar" 284 ⟨"WordWar$Chooser", "clear", "()V"⟩),
  (287, 4, 145, .methodLink "WordWar" 287 ⟨"WordWar$Chooser", "offer", "(III)V"⟩),
  (290, 4, 156, .methodLink "WordWar" 290 ⟨"WordWar$Words", "packed", "([IIII)J"⟩),
  (294, 4, 162, .methodLink "WordWar" 294 ⟨"WordWar$Army", "room", "()I"⟩),
  (297, 4, 163, .methodLink "WordWar" 297 ⟨"WordWar$Chooser", "search", "(JJII)I"⟩),
  (301, 4, 186, .methodLink "WordWar" 301 ⟨"WordWar", "beatenBy", "(ILWordWar$Army;)I"⟩),
  (305, 4, 193, .methodLink "WordWar" 305 ⟨"WordWar$Army", "formable", "()I"⟩),
  (308, 4, 197, .methodLink "WordWar" 308 ⟨"WordWar", "fillGains", "(II)V"⟩),
  (312, 4, 201, .methodLink "WordWar" 312 ⟨"WordWar", "has", "(II)Z"⟩),
  (315, 4, 206, .methodLink "WordWar" 315 ⟨"WordWar", "bothStay", "(IIII)Z"⟩),
  (319, 4, 202, .methodLink "WordWar" 319 ⟨"WordWar", "gainOf", "(II)I"⟩),
  (322, 1, 127, .fieldLink "WordWar" 322 "WordWar$Chooser" "worth" "[I"),
  (325, 4, 214, .methodLink "WordWar" 325 ⟨"WordWar", "gainTogether", "(IIIII)I"⟩),
  (329, 4, 218, .methodLink "WordWar" 329 ⟨"WordWar", "canExchange", "(III)Z"⟩),
  (332, 4, 222, .methodLink "WordWar" 332 ⟨"WordWar", "wants", "(II)Z"⟩),
  (335, 4, 226, .methodLink "WordWar" 335 ⟨"WordWar$Words", "times", "(II)I"⟩),
  (338, 4, 239, .methodLink "WordWar" 338 ⟨"WordWar$Treaty", "make", "(II[I)V"⟩),
  (342, 2, 7, .fieldLink "WordWar" 342 "WordWar$Treaty" "size" "I"),
  (343, 5, 19, .methodLink "WordWar" 343 ⟨"WordWar$Treaty", "holdsPlace", "(I)Z"⟩),
  (346, 2, 5, .fieldLink "WordWar" 346 "WordWar$Treaty" "row" "[I"),
  (349, 5, 27, .methodLink "WordWar" 349 ⟨"WordWar$Army", "nearTo", "(III)I"⟩),
  (352, 1, 129, .fieldLink "WordWar" 352 "WordWar$Chooser" "clash" "[I"),
  (355, 5, 34, .constantLong "WordWar" 355 141289400074368),
  (357, 5, 39, .methodLink "WordWar" 357 ⟨"WordWar$Fights", "take", "(LWordWar$Tape;)I"⟩),
  (360, 5, 57, .methodLink "WordWar" 360 ⟨"WordWar$Fights", "countRows", "()J"⟩),
  (364, 5, 70, .constantLong "WordWar" 364 (-3)),
  (366, 5, 71, .constantLong "WordWar" 366 (-2)),
  (368, 5, 72, .methodLink "WordWar" 368 ⟨"WordWar$Fights", "firstRowAt", "(I)I"⟩),
  (371, 5, 80, .constantLong "WordWar" 371 (-1)),
  (373, 5, 81, .methodLink "WordWar" 373 ⟨"WordWar$Fights", "rowsWith", "(II)J"⟩),
  (377, 5, 105, .methodLink "WordWar" 377 ⟨"java/lang/Math", "min", "(JJ)J"⟩),
  (383, 5, 112, .methodLink "WordWar" 383 ⟨"WordWar$Fights", "drop", "()I"⟩),
  (386, 5, 120, .methodLink "WordWar" 386 ⟨"WordWar", "isOnNet", "(I)Z"⟩),
  (389, 5, 123, .methodLink "WordWar" 389 ⟨"WordWar$Soldiers", "enlist", "(IIIII)V"⟩),
  (393, 5, 131, .methodLink "WordWar" 393 ⟨"WordWar$Soldiers", "assemble", "(III)Z"⟩),
  (396, 2, 61, .fieldLink "WordWar" 396 "WordWar$Soldiers" "hours" "I"),
  (399, 2, 63, .fieldLink "WordWar" 399 "WordWar$Soldiers" "who" "[I"),
  (402, 5, 166, .methodLink "WordWar" 402 ⟨"WordWar$Army", "total", "(I)I"⟩),
  (405, 5, 170, .methodLink "WordWar" 405 ⟨"WordWar$Army", "mostAlike", "(I)I"⟩),
  (408, 5, 174, .methodLink "WordWar" 408 ⟨"WordWar$Army", "letterInLine", "(II)I"⟩),
  (411, 5, 182, .methodLink "WordWar" 411 ⟨"WordWar$Fights", "save", "()V"⟩),
  (414, 5, 187, .methodLink "WordWar" 414 ⟨"WordWar$Soldiers", "save", "()V"⟩),
  (415, 2, 106, .fieldLink "WordWar" 415 "WordWar" "keptTurns" "I"),
  (418, 2, 107, .fieldLink "WordWar" 418 "WordWar" "keptDrawn" "I"),
  (421, 2, 105, .fieldLink "WordWar" 421 "WordWar" "anyKept" "Z"),
  (425, 5, 196, .methodLink "WordWar" 425 ⟨"WordWar$Fights", "load", "()V"⟩),
  (428, 5, 200, .methodLink "WordWar" 428 ⟨"WordWar$Soldiers", "load", "()V"⟩),
  (429, 5, 208, .methodLink "WordWar" 429 ⟨"WordWar$Tape", "takeNumber", "()I"⟩),
  (432, 1, 89, .fieldLink "WordWar" 432 "WordWar$Army" "row" "[I"),
  (433, 5, 216, .methodLink "WordWar" 433 ⟨"WordWar", "countHeld", "(II)I"⟩),
  (436, 5, 220, .methodLink "WordWar" 436 ⟨"WordWar", "countOfSide", "(I)I"⟩),
  (439, 2, 23, .fieldLink "WordWar" 439 "WordWar$Fights" "size" "I"),
  (440, 5, 224, .methodLink "WordWar" 440 ⟨"WordWar$Soldiers", "enlisted", "()I"⟩),
  (443, 1, 101, .fieldLink "WordWar" 443 "WordWar$Army" "field" "I")]
set_option maxRecDepth 100000 in
theorem zl_W_ok : (zl_W.map fun q => q.2).all zwat = true := by decide +kernel
def zl_Acts : List (Nat × Nat × Nat × Cond) := [(1, 1, 167, .methodLink "WordWar$Acts" 1 ⟨"java/lang/Object", "<init>", "()V"⟩),
  (9, 1, 168, .fieldLink "WordWar$Acts" 9 "WordWar$Acts" "kind" "[I"),
  (13, 1, 170, .fieldLink "WordWar$Acts" 13 "WordWar$Acts" "word" "[I"),
  (16, 1, 172, .fieldLink "WordWar$Acts" 16 "WordWar$Acts" "other" "[I"),
  (19, 1, 174, .fieldLink "WordWar$Acts" 19 "WordWar$Acts" "size" "I"),
  (23, 1, 46, .fieldLink "WordWar$Acts" 23 "WordWar$Tape" "fault" "I"),
  (28, 3, 198, .methodLink "WordWar$Acts" 28 ⟨"WordWar$Tape", "atEnd", "()Z"⟩),
  (32, 3, 199, .methodLink "WordWar$Acts" 32 ⟨"WordWar$Tape", "pass", "(I)Z"⟩),
  (36, 3, 200, .methodLink "WordWar$Acts" 36 ⟨"WordWar$Acts", "canBegin", "(LWordWar$Tape;)Z"⟩),
  (40, 1, 41, .fieldLink "WordWar$Acts" 40 "WordWar$Tape" "at" "I"),
  (43, 3, 205, .methodLink "WordWar$Acts" 43 ⟨"WordWar$Tape", "fail", "(II)V"⟩),
  (47, 3, 206, .methodLink "WordWar$Acts" 47 ⟨"WordWar$Acts", "readAct", "(LWordWar$Tape;)V"⟩),
  (51, 3, 203, .methodLink "WordWar$Acts" 51 ⟨"WordWar$Tape", "peek", "()I"⟩),
  (55, 3, 204, .methodLink "WordWar$Acts" 55 ⟨"WordWar$Tape", "atLetter", "()Z"⟩),
  (58, 3, 210, .methodLink "WordWar$Acts" 58 ⟨"WordWar$Tape", "takeByte", "()I"⟩),
  (61, 3, 211, .methodLink "WordWar$Acts" 61 ⟨"WordWar$Tape", "takeWord", "()I"⟩),
  (64, 3, 212, .methodLink "WordWar$Acts" 64 ⟨"WordWar$Words", "sizeOf", "(I)I"⟩),
  (70, 3, 216, .methodLink "WordWar$Acts" 70 ⟨"WordWar$Acts", "takeChange", "(LWordWar$Tape;I)I"⟩),
  (74, 3, 219, .methodLink "WordWar$Acts" 74 ⟨"WordWar$Tape", "atDigit", "()Z"⟩),
  (77, 3, 220, .methodLink "WordWar$Acts" 77 ⟨"WordWar$Tape", "takeLetter", "()I"⟩)]
set_option maxRecDepth 100000 in
theorem zl_Acts_ok : (zl_Acts.map fun q => q.2).all zwat = true := by decide +kernel
def zl_Army : List (Nat × Nat × Nat × Cond) := [(3, 1, 69, .methodLink "WordWar$Army" 3 ⟨"java/lang/Object", "<init>", "()V"⟩),
  (9, 1, 88, .fieldLink "WordWar$Army" 9 "WordWar$Army" "row" "[I"),
  (15, 1, 90, .fieldLink "WordWar$Army" 15 "WordWar$Army" "rank" "[I"),
  (18, 1, 92, .fieldLink "WordWar$Army" 18 "WordWar$Army" "held" "[I"),
  (21, 1, 94, .fieldLink "WordWar$Army" 21 "WordWar$Army" "words" "[I"),
  (24, 1, 96, .fieldLink "WordWar$Army" 24 "WordWar$Army" "newWords" "[I"),
  (27, 1, 70, .classLink "WordWar$Army" 27 "WordWar$Camp"),
  (30, 1, 97, .fieldLink "WordWar$Army" 30 "WordWar$Army" "moving" "LWordWar$Camp;"),
  (34, 2, 188, .methodLink "WordWar$Army" 34 ⟨"WordWar$Tape", "takeByte", "()I"⟩),
  (48, 1, 40, .fieldLink "WordWar$Army" 48 "WordWar$Tape" "at" "I"),
  (52, 2, 212, .methodLink "WordWar$Army" 52 ⟨"WordWar$Tape", "atLetter", "()Z"⟩),
  (56, 2, 217, .methodLink "WordWar$Army" 56 ⟨"WordWar$Tape", "fail", "(II)V"⟩),
  (60, 2, 221, .methodLink "WordWar$Army" 60 ⟨"WordWar$Tape", "takeWord", "()I"⟩),
  (63, 1, 48, .fieldLink "WordWar$Army" 63 "WordWar$Tape" "fault" "I"),
  (66, 2, 235, .methodLink "WordWar$Army" 66 ⟨"WordWar$Army", "indexOf", "([III)I"⟩),
  (70, 2, 238, .methodLink "WordWar$Army" 70 ⟨"WordWar$Tape", "atEnd", "()Z"⟩),
  (73, 3, 2, .methodLink "WordWar$Army" 73 ⟨"WordWar$Army", "adopt", "(I)V"⟩),
  (77, 1, 98, .fieldLink "WordWar$Army" 77 "WordWar$Army" "size" "I"),
  (80, 3, 41, .methodLink "WordWar$Army" 80 ⟨"WordWar$Tape", "pass", "(I)Z"⟩),
  (83, 3, 6, .methodLink "WordWar$Army" 83 ⟨"WordWar$Army", "saveTo", "(LWordWar$Camp;)V"⟩),
  (87, 3, 10, .methodLink "WordWar$Army" 87 ⟨"java/lang/System", "arraycopy", "(Ljava/lang/Object;ILjava/lang/Object;II)V"⟩),
  (93, 3, 21, .methodLink "WordWar$Army" 93 ⟨"WordWar$Army", "loadFrom", "(LWordWar$Camp;)V"⟩),
  (96, 1, 77, .fieldLink "WordWar$Army" 96 "WordWar$Camp" "held" "[I"),
  (97, 1, 80, .fieldLink "WordWar$Army" 97 "WordWar$Camp" "size" "I"),
  (98, 3, 13, .methodLink "WordWar$Army" 98 ⟨"WordWar$Army", "stands", "(I)Z"⟩),
  (101, 1, 79, .fieldLink "WordWar$Army" 101 "WordWar$Camp" "standing" "[I"),
  (104, 1, 100, .fieldLink "WordWar$Army" 104 "WordWar$Army" "field" "I"),
  (107, 3, 25, .methodLink "WordWar$Army" 107 ⟨"WordWar$Army", "find", "(I)I"⟩),
  (111, 3, 29, .methodLink "WordWar$Army" 111 ⟨"WordWar$Army", "sendHome", "(I)V"⟩),
  (114, 3, 17, .methodLink "WordWar$Army" 114 ⟨"WordWar$Army", "hasWord", "(I)Z"⟩),
  (117, 3, 238, .methodLink "WordWar$Army" 117 ⟨"java/lang/Integer", "bitCount", "(I)I"⟩),
  (122, 3, 234, .methodLink "WordWar$Army" 122 ⟨"WordWar$Army", "room", "()I"⟩),
  (125, 3, 33, .methodLink "WordWar$Army" 125 ⟨"WordWar$Words", "letterAt", "(II)I"⟩),
  (131, 4, 4, .methodLink "WordWar$Army" 131 ⟨"WordWar$Words", "times", "(II)I"⟩),
  (134, 3, 230, .methodLink "WordWar$Army" 134 ⟨"WordWar$Army", "canForm", "(I)Z"⟩),
  (137, 4, 85, .methodLink "WordWar$Army" 137 ⟨"WordWar$Words", "sizeOf", "(I)I"⟩),
  (140, 4, 86, .methodLink "WordWar$Army" 140 ⟨"java/lang/Math", "max", "(II)I"⟩),
  (145, 3, 36, .methodLink "WordWar$Army" 145 ⟨"WordWar$Army", "add", "(III)V"⟩),
  (149, 4, 87, .methodLink "WordWar$Army" 149 ⟨"WordWar$Words", "firstOf", "(II)I"⟩),
  (152, 3, 40, .methodLink "WordWar$Army" 152 ⟨"java/lang/Math", "min", "(II)I"⟩),
  (155, 5, 31, .methodLink "WordWar$Army" 155 ⟨"WordWar$Words", "unlike", "(II)I"⟩)]
set_option maxRecDepth 100000 in
theorem zl_Army_ok : (zl_Army.map fun q => q.2).all zwat = true := by decide +kernel
def zl_Camp : List (Nat × Nat × Nat × Cond) := [(3, 1, 75, .methodLink "WordWar$Camp" 3 ⟨"java/lang/Object", "<init>", "()V"⟩),
  (9, 1, 76, .fieldLink "WordWar$Camp" 9 "WordWar$Camp" "held" "[I"),
  (15, 1, 78, .fieldLink "WordWar$Camp" 15 "WordWar$Camp" "standing" "[I")]
set_option maxRecDepth 100000 in
theorem zl_Camp_ok : (zl_Camp.map fun q => q.2).all zwat = true := by decide +kernel
def zl_Cho : List (Nat × Nat × Nat × Cond) := [(3, 1, 125, .methodLink "WordWar$Chooser" 3 ⟨"java/lang/Object", "<init>", "()V"⟩),
  (9, 1, 126, .fieldLink "WordWar$Chooser" 9 "WordWar$Chooser" "worth" "[I"),
  (15, 1, 128, .fieldLink "WordWar$Chooser" 15 "WordWar$Chooser" "clash" "[I"),
  (18, 1, 130, .fieldLink "WordWar$Chooser" 18 "WordWar$Chooser" "low" "[J"),
  (22, 1, 131, .fieldLink "WordWar$Chooser" 22 "WordWar$Chooser" "high" "[J"),
  (25, 1, 132, .fieldLink "WordWar$Chooser" 25 "WordWar$Chooser" "bound" "[I"),
  (28, 1, 133, .fieldLink "WordWar$Chooser" 28 "WordWar$Chooser" "offered" "I"),
  (32, 4, 144, .methodLink "WordWar$Chooser" 32 ⟨"java/util/Arrays", "fill", "([II)V"⟩),
  (38, 4, 149, .methodLink "WordWar$Chooser" 38 ⟨"WordWar$Words", "needs", "(II)J"⟩),
  (44, 1, 134, .fieldLink "WordWar$Chooser" 44 "WordWar$Chooser" "usable" "I"),
  (51, 4, 168, .methodLink "WordWar$Chooser" 51 ⟨"WordWar$Chooser", "fits", "(JJ)Z"⟩),
  (55, 4, 172, .methodLink "WordWar$Chooser" 55 ⟨"java/lang/Math", "min", "(II)I"⟩),
  (61, 4, 173, .methodLink "WordWar$Chooser" 61 ⟨"java/lang/Math", "max", "(II)I"⟩),
  (64, 4, 174, .methodLink "WordWar$Chooser" 64 ⟨"WordWar$Chooser", "fillBounds", "(I)V"⟩),
  (68, 1, 135, .fieldLink "WordWar$Chooser" 68 "WordWar$Chooser" "most" "I"),
  (71, 1, 137, .fieldLink "WordWar$Chooser" 71 "WordWar$Chooser" "bits" "I"),
  (74, 4, 178, .methodLink "WordWar$Chooser" 74 ⟨"WordWar$Chooser", "choose", "(IIJJII)V"⟩),
  (78, 4, 171, .constantLong "WordWar$Chooser" 78 141289400074368)]
set_option maxRecDepth 100000 in
theorem zl_Cho_ok : (zl_Cho.map fun q => q.2).all zwat = true := by decide +kernel
def zl_Fig : List (Nat × Nat × Nat × Cond) := [(3, 2, 21, .methodLink "WordWar$Fights" 3 ⟨"java/lang/Object", "<init>", "()V"⟩),
  (11, 2, 25, .fieldLink "WordWar$Fights" 11 "WordWar$Fights" "pairs" "[I"),
  (15, 2, 26, .fieldLink "WordWar$Fights" 15 "WordWar$Fights" "keptPairs" "[I"),
  (18, 2, 27, .fieldLink "WordWar$Fights" 18 "WordWar$Fights" "must" "[I"),
  (21, 2, 28, .fieldLink "WordWar$Fights" 21 "WordWar$Fights" "begun" "[I"),
  (24, 2, 29, .fieldLink "WordWar$Fights" 24 "WordWar$Fights" "ended" "[I"),
  (27, 2, 30, .fieldLink "WordWar$Fights" 27 "WordWar$Fights" "rows" "[J"),
  (31, 5, 43, .methodLink "WordWar$Fights" 31 ⟨"WordWar$Tape", "takeWord", "()I"⟩),
  (37, 1, 45, .fieldLink "WordWar$Fights" 37 "WordWar$Tape" "fault" "I"),
  (41, 5, 44, .methodLink "WordWar$Fights" 41 ⟨"WordWar$Tape", "pass", "(I)Z"⟩),
  (45, 5, 45, .methodLink "WordWar$Fights" 45 ⟨"WordWar$Tape", "atEnd", "()Z"⟩),
  (49, 1, 39, .fieldLink "WordWar$Fights" 49 "WordWar$Tape" "at" "I"),
  (52, 5, 46, .methodLink "WordWar$Fights" 52 ⟨"WordWar$Tape", "fail", "(II)V"⟩),
  (56, 5, 47, .methodLink "WordWar$Fights" 56 ⟨"WordWar$Words", "letterAt", "(II)I"⟩),
  (65, 2, 22, .fieldLink "WordWar$Fights" 65 "WordWar$Fights" "size" "I"),
  (68, 5, 49, .methodLink "WordWar$Fights" 68 ⟨"WordWar$Fights", "change", "()V"⟩),
  (71, 5, 186, .methodLink "WordWar$Fights" 71 ⟨"java/lang/System", "arraycopy", "(Ljava/lang/Object;ILjava/lang/Object;II)V"⟩),
  (77, 2, 24, .fieldLink "WordWar$Fights" 77 "WordWar$Fights" "keptSize" "I"),
  (80, 2, 31, .fieldLink "WordWar$Fights" 80 "WordWar$Fights" "counted" "Z"),
  (84, 2, 32, .fieldLink "WordWar$Fights" 84 "WordWar$Fights" "compared" "Z"),
  (87, 5, 61, .methodLink "WordWar$Fights" 87 ⟨"WordWar$Fights", "fillMust", "()V"⟩),
  (90, 5, 66, .methodLink "WordWar$Fights" 90 ⟨"WordWar$Fights", "fillBegun", "()V"⟩),
  (93, 5, 65, .methodLink "WordWar$Fights" 93 ⟨"java/util/Arrays", "fill", "([II)V"⟩),
  (99, 5, 85, .methodLink "WordWar$Fights" 99 ⟨"WordWar$Fights", "countRows", "()J"⟩),
  (103, 5, 86, .methodLink "WordWar$Fights" 103 ⟨"WordWar$Fights", "fillEnded", "()V"⟩),
  (106, 5, 90, .methodLink "WordWar$Fights" 106 ⟨"WordWar$Fights", "fillRows", "()V"⟩),
  (109, 5, 94, .methodLink "WordWar$Fights" 109 ⟨"java/util/Arrays", "fill", "([JJ)V"⟩),
  (112, 5, 97, .methodLink "WordWar$Fights" 112 ⟨"WordWar$Fights", "addRows", "(IIJ)V"⟩)]
set_option maxRecDepth 100000 in
theorem zl_Fig_ok : (zl_Fig.map fun q => q.2).all zwat = true := by decide +kernel
def zl_Law : List (Nat × Nat × Nat × Cond) := [(3, 1, 203, .methodLink "WordWar$Law" 3 ⟨"java/lang/Object", "<init>", "()V"⟩),
  (11, 1, 204, .fieldLink "WordWar$Law" 11 "WordWar$Law" "letters" "[I"),
  (15, 1, 206, .fieldLink "WordWar$Law" 15 "WordWar$Law" "values" "[I"),
  (18, 1, 208, .fieldLink "WordWar$Law" 18 "WordWar$Law" "conditions" "[I"),
  (21, 1, 213, .fieldLink "WordWar$Law" 21 "WordWar$Law" "steps" "[I"),
  (24, 1, 216, .fieldLink "WordWar$Law" 24 "WordWar$Law" "stack" "[I"),
  (27, 1, 210, .fieldLink "WordWar$Law" 27 "WordWar$Law" "clauses" "I"),
  (31, 1, 214, .fieldLink "WordWar$Law" 31 "WordWar$Law" "size" "I"),
  (34, 3, 175, .methodLink "WordWar$Law" 34 ⟨"WordWar$Law", "put", "(II)V"⟩),
  (38, 4, 54, .methodLink "WordWar$Law" 38 ⟨"WordWar$Law", "run", "(I[I)I"⟩),
  (42, 4, 74, .methodLink "WordWar$Law" 42 ⟨"WordWar$Law", "mostOf", "(I)I"⟩),
  (46, 4, 77, .methodLink "WordWar$Law" 46 ⟨"java/lang/Math", "min", "(II)I"⟩),
  (52, 4, 78, .methodLink "WordWar$Law" 52 ⟨"java/lang/Math", "max", "(II)I"⟩),
  (55, 1, 217, .fieldLink "WordWar$Law" 55 "WordWar$Law" "depth" "I"),
  (58, 1, 218, .fieldLink "WordWar$Law" 58 "WordWar$Law" "refused" "Z"),
  (62, 4, 58, .methodLink "WordWar$Law" 62 ⟨"WordWar$Law", "pop", "()I"⟩),
  (66, 4, 62, .methodLink "WordWar$Law" 66 ⟨"WordWar$Law", "push", "(I)V"⟩),
  (70, 4, 66, .methodLink "WordWar$Law" 70 ⟨"WordWar$Law", "step", "(II[I)V"⟩),
  (74, 4, 70, .methodLink "WordWar$Law" 74 ⟨"WordWar$Law", "reckon", "(III)I"⟩)]
set_option maxRecDepth 100000 in
theorem zl_Law_ok : (zl_Law.map fun q => q.2).all zwat = true := by decide +kernel
def zl_Rdr : List (Nat × Nat × Nat × Cond) := [(3, 1, 190, .methodLink "WordWar$LawReader" 3 ⟨"java/lang/Object", "<init>", "()V"⟩),
  (9, 1, 191, .fieldLink "WordWar$LawReader" 9 "WordWar$LawReader" "text" "LWordWar$Tape;"),
  (15, 1, 192, .fieldLink "WordWar$LawReader" 15 "WordWar$LawReader" "target" "LWordWar$Law;"),
  (19, 3, 53, .methodLink "WordWar$LawReader" 19 ⟨"WordWar$Law", "clear", "()V"⟩),
  (24, 1, 47, .fieldLink "WordWar$LawReader" 24 "WordWar$Tape" "fault" "I"),
  (30, 3, 57, .methodLink "WordWar$LawReader" 30 ⟨"WordWar$Tape", "atEnd", "()Z"⟩),
  (34, 3, 58, .methodLink "WordWar$LawReader" 34 ⟨"WordWar$Tape", "pass", "(I)Z"⟩),
  (38, 3, 59, .methodLink "WordWar$LawReader" 38 ⟨"WordWar$LawReader", "readClause", "()V"⟩),
  (41, 3, 63, .methodLink "WordWar$LawReader" 41 ⟨"WordWar$Tape", "peek", "()I"⟩),
  (47, 3, 65, .methodLink "WordWar$LawReader" 47 ⟨"WordWar$LawReader", "placeOf", "(Ljava/lang/String;I)I"⟩),
  (51, 1, 42, .fieldLink "WordWar$LawReader" 51 "WordWar$Tape" "at" "I"),
  (54, 3, 116, .methodLink "WordWar$LawReader" 54 ⟨"WordWar$Tape", "fail", "(II)V"⟩),
  (58, 1, 211, .fieldLink "WordWar$LawReader" 58 "WordWar$Law" "clauses" "I"),
  (61, 1, 205, .fieldLink "WordWar$LawReader" 61 "WordWar$Law" "letters" "[I"),
  (65, 1, 207, .fieldLink "WordWar$LawReader" 65 "WordWar$Law" "values" "[I"),
  (68, 1, 215, .fieldLink "WordWar$LawReader" 68 "WordWar$Law" "size" "I"),
  (71, 3, 117, .methodLink "WordWar$LawReader" 71 ⟨"WordWar$LawReader", "readSum", "(I)V"⟩),
  (75, 3, 143, .methodLink "WordWar$LawReader" 75 ⟨"WordWar$Law", "put", "(II)V"⟩),
  (78, 1, 209, .fieldLink "WordWar$LawReader" 78 "WordWar$Law" "conditions" "[I"),
  (81, 3, 154, .methodLink "WordWar$LawReader" 81 ⟨"WordWar$LawReader", "readCondition", "(I)V"⟩),
  (84, 3, 158, .methodLink "WordWar$LawReader" 84 ⟨"WordWar$LawReader", "readPart", "(I)V"⟩),
  (87, 3, 171, .methodLink "WordWar$LawReader" 87 ⟨"WordWar$Law", "putJump", "(II)I"⟩),
  (91, 3, 176, .methodLink "WordWar$LawReader" 91 ⟨"WordWar$Law", "aimHere", "(I)V"⟩),
  (94, 3, 162, .methodLink "WordWar$LawReader" 94 ⟨"WordWar$LawReader", "readPiece", "(I)V"⟩),
  (97, 3, 130, .methodLink "WordWar$LawReader" 97 ⟨"WordWar$LawReader", "opens", "(I)Z"⟩),
  (100, 3, 166, .methodLink "WordWar$LawReader" 100 ⟨"WordWar$LawReader", "readOpened", "(II)V"⟩),
  (105, 3, 148, .methodLink "WordWar$LawReader" 105 ⟨"WordWar$LawReader", "putSign", "(I)V"⟩),
  (108, 3, 121, .methodLink "WordWar$LawReader" 108 ⟨"WordWar$LawReader", "readProduct", "(I)V"⟩),
  (113, 3, 142, .methodLink "WordWar$LawReader" 113 ⟨"WordWar$Tape", "takeByte", "()I"⟩),
  (116, 3, 125, .methodLink "WordWar$LawReader" 116 ⟨"WordWar$LawReader", "readFactor", "(I)V"⟩),
  (123, 3, 134, .methodLink "WordWar$LawReader" 123 ⟨"WordWar$Tape", "atDigit", "()Z"⟩),
  (126, 3, 138, .methodLink "WordWar$LawReader" 126 ⟨"WordWar$LawReader", "readNumber", "()V"⟩),
  (131, 3, 68, .methodLink "WordWar$LawReader" 131 ⟨"java/lang/String", "length", "()I"⟩),
  (136, 3, 78, .methodLink "WordWar$LawReader" 136 ⟨"java/lang/String", "charAt", "(I)C"⟩)]
set_option maxRecDepth 100000 in
theorem zl_Rdr_ok : (zl_Rdr.map fun q => q.2).all zwat = true := by decide +kernel
def zl_Sol : List (Nat × Nat × Nat × Cond) := [(3, 2, 59, .methodLink "WordWar$Soldiers" 3 ⟨"java/lang/Object", "<init>", "()V"⟩),
  (9, 2, 62, .fieldLink "WordWar$Soldiers" 9 "WordWar$Soldiers" "who" "[I"),
  (15, 2, 64, .fieldLink "WordWar$Soldiers" 15 "WordWar$Soldiers" "roll" "[I"),
  (18, 2, 65, .fieldLink "WordWar$Soldiers" 18 "WordWar$Soldiers" "keptRoll" "[I"),
  (21, 2, 66, .fieldLink "WordWar$Soldiers" 21 "WordWar$Soldiers" "needed" "[I"),
  (24, 2, 67, .fieldLink "WordWar$Soldiers" 24 "WordWar$Soldiers" "reach" "[I"),
  (27, 2, 68, .fieldLink "WordWar$Soldiers" 27 "WordWar$Soldiers" "taken" "[I"),
  (30, 5, 191, .methodLink "WordWar$Soldiers" 30 ⟨"java/lang/System", "arraycopy", "(Ljava/lang/Object;ILjava/lang/Object;II)V"⟩),
  (36, 5, 135, .methodLink "WordWar$Soldiers" 36 ⟨"WordWar$Words", "sizeOf", "(I)I"⟩),
  (42, 5, 136, .methodLink "WordWar$Soldiers" 42 ⟨"WordWar$Words", "letterAt", "(II)I"⟩),
  (46, 5, 137, .methodLink "WordWar$Soldiers" 46 ⟨"WordWar$Soldiers", "hoursTo", "(IIII)I"⟩),
  (50, 2, 60, .fieldLink "WordWar$Soldiers" 50 "WordWar$Soldiers" "hours" "I"),
  (54, 5, 144, .methodLink "WordWar$Soldiers" 54 ⟨"WordWar$Soldiers", "fillReach", "(I)V"⟩),
  (58, 5, 148, .methodLink "WordWar$Soldiers" 58 ⟨"WordWar$Soldiers", "canFill", "(III)Z"⟩),
  (62, 5, 158, .methodLink "WordWar$Soldiers" 62 ⟨"WordWar$Soldiers", "chooseWho", "(I)V"⟩),
  (65, 5, 141, .methodLink "WordWar$Soldiers" 65 ⟨"java/lang/Math", "abs", "(I)I"⟩),
  (74, 5, 152, .methodLink "WordWar$Soldiers" 74 ⟨"java/util/Arrays", "fill", "([II)V"⟩),
  (80, 2, 69, .fieldLink "WordWar$Soldiers" 80 "WordWar$Soldiers" "seen" "I"),
  (83, 5, 153, .methodLink "WordWar$Soldiers" 83 ⟨"WordWar$Soldiers", "settle", "(II)Z"⟩)]
set_option maxRecDepth 100000 in
theorem zl_Sol_ok : (zl_Sol.map fun q => q.2).all zwat = true := by decide +kernel
def zl_Tape : List (Nat × Nat × Nat × Cond) := [(3, 1, 35, .methodLink "WordWar$Tape" 3 ⟨"java/lang/Object", "<init>", "()V"⟩),
  (11, 1, 36, .fieldLink "WordWar$Tape" 11 "WordWar$Tape" "bytes" "[I"),
  (15, 1, 37, .fieldLink "WordWar$Tape" 15 "WordWar$Tape" "size" "I"),
  (19, 1, 43, .fieldLink "WordWar$Tape" 19 "WordWar$Tape" "at" "I"),
  (22, 2, 181, .methodLink "WordWar$Tape" 22 ⟨"java/lang/Math", "min", "(II)I"⟩),
  (28, 1, 44, .fieldLink "WordWar$Tape" 28 "WordWar$Tape" "end" "I"),
  (31, 1, 49, .fieldLink "WordWar$Tape" 31 "WordWar$Tape" "fault" "I"),
  (34, 2, 192, .methodLink "WordWar$Tape" 34 ⟨"WordWar$Tape", "peek", "()I"⟩),
  (42, 2, 230, .methodLink "WordWar$Tape" 42 ⟨"WordWar$Tape", "fail", "(II)V"⟩),
  (46, 2, 231, .methodLink "WordWar$Tape" 46 ⟨"WordWar$Tape", "takeByte", "()I"⟩),
  (49, 2, 229, .methodLink "WordWar$Tape" 49 ⟨"WordWar$Tape", "atLetter", "()Z"⟩),
  (53, 2, 225, .methodLink "WordWar$Tape" 53 ⟨"WordWar$Tape", "takeLetter", "()I"⟩),
  (56, 2, 232, .methodLink "WordWar$Tape" 56 ⟨"WordWar$Words", "changed", "(III)I"⟩)]
set_option maxRecDepth 100000 in
theorem zl_Tape_ok : (zl_Tape.map fun q => q.2).all zwat = true := by decide +kernel
def zl_Tre : List (Nat × Nat × Nat × Cond) := [(3, 2, 3, .methodLink "WordWar$Treaty" 3 ⟨"java/lang/Object", "<init>", "()V"⟩),
  (9, 2, 4, .fieldLink "WordWar$Treaty" 9 "WordWar$Treaty" "row" "[I"),
  (15, 2, 8, .fieldLink "WordWar$Treaty" 15 "WordWar$Treaty" "left" "[I"),
  (18, 2, 6, .fieldLink "WordWar$Treaty" 18 "WordWar$Treaty" "size" "I"),
  (22, 5, 3, .methodLink "WordWar$Treaty" 22 ⟨"WordWar$Words", "sizeOf", "(I)I"⟩),
  (28, 5, 4, .methodLink "WordWar$Treaty" 28 ⟨"WordWar$Treaty", "fillLeft", "(IIII)V"⟩),
  (32, 5, 12, .methodLink "WordWar$Treaty" 32 ⟨"WordWar$Words", "letterAt", "(II)I"⟩),
  (40, 5, 15, .methodLink "WordWar$Treaty" 40 ⟨"WordWar$Treaty", "takesFirst", "(IIIIZ)Z"⟩),
  (44, 5, 8, .methodLink "WordWar$Treaty" 44 ⟨"WordWar$Treaty", "leftAt", "(IIIIII)I"⟩),
  (48, 5, 13, .methodLink "WordWar$Treaty" 48 ⟨"java/lang/Math", "min", "(II)I"⟩)]
set_option maxRecDepth 100000 in
theorem zl_Tre_ok : (zl_Tre.map fun q => q.2).all zwat = true := by decide +kernel
def zl_Wrd : List (Nat × Nat × Nat × Cond) := [(9, 3, 215, .methodLink "WordWar$Words" 9 ⟨"WordWar$Words", "letterAt", "(II)I"⟩),
  (15, 4, 14, .methodLink "WordWar$Words" 15 ⟨"WordWar$Words", "sizeOf", "(I)I"⟩),
  (19, 4, 15, .methodLink "WordWar$Words" 19 ⟨"WordWar$Words", "changed", "(III)I"⟩),
  (27, 4, 159, .constantLong "WordWar$Words" 27 141289400074368),
  (29, 4, 160, .methodLink "WordWar$Words" 29 ⟨"java/lang/Math", "min", "(II)I"⟩),
  (34, 4, 161, .methodLink "WordWar$Words" 34 ⟨"java/lang/Math", "max", "(II)I"⟩)]
set_option maxRecDepth 100000 in
theorem zl_Wrd_ok : (zl_Wrd.map fun q => q.2).all zwat = true := by decide +kernel
def zl_L : List (Nat × Nat × Nat × Cond) := [(7, 1, 22, .classLink "WordWarLaw" 7 "WordWar"),
  (9, 1, 24, .methodLink "WordWarLaw" 9 ⟨"WordWar", "<init>", "()V"⟩),
  (10, 5, 228, .classLink "WordWarLaw" 10 "WordWarModel"),
  (12, 5, 230, .methodLink "WordWarLaw" 12 ⟨"WordWarModel", "<init>", "()V"⟩),
  (13, 2, 151, .methodLink "WordWarLaw" 13 ⟨"WordWar", "strength", "(II)Z"⟩),
  (17, 7, 32, .methodLink "WordWarLaw" 17 ⟨"WordWarModel", "strength", "(II)Z"⟩),
  (18, 2, 158, .methodLink "WordWarLaw" 18 ⟨"WordWar", "reserve", "(III)Z"⟩),
  (22, 7, 42, .methodLink "WordWarLaw" 22 ⟨"WordWarModel", "reserve", "(III)Z"⟩),
  (23, 2, 165, .methodLink "WordWarLaw" 23 ⟨"WordWar", "feed", "(IIIII)I"⟩),
  (27, 7, 49, .methodLink "WordWarLaw" 27 ⟨"WordWarModel", "feed", "(IIIII)I"⟩),
  (28, 2, 173, .methodLink "WordWarLaw" 28 ⟨"WordWar", "order", "(I)Z"⟩),
  (32, 7, 57, .methodLink "WordWarLaw" 32 ⟨"WordWarModel", "order", "(I)Z"⟩),
  (33, 2, 200, .methodLink "WordWarLaw" 33 ⟨"WordWar", "lexicon", "(II)I"⟩),
  (37, 7, 64, .methodLink "WordWarLaw" 37 ⟨"WordWarModel", "lexicon", "(II)I"⟩),
  (38, 3, 45, .methodLink "WordWarLaw" 38 ⟨"WordWar", "law", "(I)I"⟩),
  (42, 7, 132, .methodLink "WordWarLaw" 42 ⟨"WordWarModel", "law", "(I)I"⟩),
  (43, 3, 186, .methodLink "WordWarLaw" 43 ⟨"WordWar", "orders", "(II)I"⟩),
  (46, 7, 206, .methodLink "WordWarLaw" 46 ⟨"WordWarModel", "orders", "(II)I"⟩),
  (47, 4, 96, .methodLink "WordWarLaw" 47 ⟨"WordWar", "judged", "(II)I"⟩),
  (50, 8, 61, .methodLink "WordWarLaw" 50 ⟨"WordWarModel", "judged", "(II)I"⟩),
  (51, 4, 102, .methodLink "WordWarLaw" 51 ⟨"WordWar", "turn", "()I"⟩),
  (55, 8, 76, .methodLink "WordWarLaw" 55 ⟨"WordWarModel", "turn", "()I"⟩),
  (56, 4, 110, .methodLink "WordWarLaw" 56 ⟨"WordWar", "word", "(III)I"⟩),
  (60, 8, 80, .methodLink "WordWarLaw" 60 ⟨"WordWarModel", "word", "(III)I"⟩),
  (61, 4, 120, .methodLink "WordWarLaw" 61 ⟨"WordWar", "beats", "(II)I"⟩),
  (64, 8, 92, .methodLink "WordWarLaw" 64 ⟨"WordWarModel", "beats", "(II)I"⟩),
  (65, 4, 128, .methodLink "WordWarLaw" 65 ⟨"WordWar", "place", "(III)I"⟩),
  (68, 8, 100, .methodLink "WordWarLaw" 68 ⟨"WordWarModel", "place", "(III)I"⟩),
  (69, 4, 132, .methodLink "WordWarLaw" 69 ⟨"WordWar", "best", "(II)I"⟩),
  (72, 8, 104, .methodLink "WordWarLaw" 72 ⟨"WordWarModel", "best", "(II)I"⟩),
  (73, 4, 182, .methodLink "WordWarLaw" 73 ⟨"WordWar", "against", "(II)I"⟩),
  (76, 8, 116, .methodLink "WordWarLaw" 76 ⟨"WordWarModel", "against", "(II)I"⟩),
  (77, 4, 189, .methodLink "WordWarLaw" 77 ⟨"WordWar", "atOnce", "(I)I"⟩),
  (80, 8, 124, .methodLink "WordWarLaw" 80 ⟨"WordWarModel", "atOnce", "(I)I"⟩),
  (81, 4, 210, .methodLink "WordWarLaw" 81 ⟨"WordWar", "exchange", "(II)I"⟩),
  (84, 8, 136, .methodLink "WordWarLaw" 84 ⟨"WordWarModel", "exchange", "(II)I"⟩),
  (85, 4, 227, .methodLink "WordWarLaw" 85 ⟨"WordWar", "exchanged", "(III)Z"⟩),
  (88, 8, 148, .methodLink "WordWarLaw" 88 ⟨"WordWarModel", "exchanged", "(III)Z"⟩),
  (89, 4, 231, .methodLink "WordWarLaw" 89 ⟨"WordWar", "home", "(II)Z"⟩),
  (92, 8, 152, .methodLink "WordWarLaw" 92 ⟨"WordWarModel", "home", "(II)Z"⟩),
  (93, 4, 235, .methodLink "WordWarLaw" 93 ⟨"WordWar", "peace", "(III)I"⟩),
  (96, 8, 156, .methodLink "WordWarLaw" 96 ⟨"WordWarModel", "peace", "(III)I"⟩),
  (97, 5, 23, .methodLink "WordWarLaw" 97 ⟨"WordWar", "spy", "(III)I"⟩),
  (100, 8, 169, .methodLink "WordWarLaw" 100 ⟨"WordWarModel", "spy", "(III)I"⟩),
  (101, 5, 35, .methodLink "WordWarLaw" 101 ⟨"WordWar", "fight", "(I)I"⟩),
  (104, 8, 181, .methodLink "WordWarLaw" 104 ⟨"WordWarModel", "fight", "(I)I"⟩),
  (105, 5, 53, .methodLink "WordWarLaw" 105 ⟨"WordWar", "learnt", "(I)J"⟩),
  (109, 8, 185, .methodLink "WordWarLaw" 109 ⟨"WordWarModel", "learnt", "(I)J"⟩),
  (110, 5, 76, .methodLink "WordWarLaw" 110 ⟨"WordWar", "ahead", "(II)J"⟩),
  (114, 8, 199, .methodLink "WordWarLaw" 114 ⟨"WordWarModel", "ahead", "(II)J"⟩),
  (115, 5, 101, .methodLink "WordWarLaw" 115 ⟨"WordWar", "skirmish", "(I)J"⟩),
  (118, 8, 208, .methodLink "WordWarLaw" 118 ⟨"WordWarModel", "skirmish", "(I)J"⟩),
  (119, 5, 108, .methodLink "WordWarLaw" 119 ⟨"WordWar", "forget", "()I"⟩),
  (122, 8, 212, .methodLink "WordWarLaw" 122 ⟨"WordWarModel", "forget", "()I"⟩),
  (123, 5, 116, .methodLink "WordWarLaw" 123 ⟨"WordWar", "soldier", "(IIIII)Z"⟩),
  (127, 8, 216, .methodLink "WordWarLaw" 127 ⟨"WordWarModel", "soldier", "(IIIII)Z"⟩),
  (128, 5, 127, .methodLink "WordWarLaw" 128 ⟨"WordWar", "march", "(IIIII)I"⟩),
  (131, 8, 220, .methodLink "WordWarLaw" 131 ⟨"WordWarModel", "march", "(IIIII)I"⟩),
  (132, 5, 162, .methodLink "WordWarLaw" 132 ⟨"WordWar", "dead", "(II)I"⟩),
  (135, 9, 11, .methodLink "WordWarLaw" 135 ⟨"WordWarModel", "dead", "(II)I"⟩),
  (136, 3, 181, .methodLink "WordWarLaw" 136 ⟨"WordWar", "seed", "(I)Z"⟩),
  (139, 9, 18, .methodLink "WordWarLaw" 139 ⟨"WordWarModel", "seed", "(I)Z"⟩),
  (140, 5, 178, .methodLink "WordWarLaw" 140 ⟨"WordWar", "keep", "()I"⟩),
  (143, 9, 23, .methodLink "WordWarLaw" 143 ⟨"WordWarModel", "keep", "()I"⟩),
  (144, 5, 192, .methodLink "WordWarLaw" 144 ⟨"WordWar", "undo", "()Z"⟩),
  (148, 9, 35, .methodLink "WordWarLaw" 148 ⟨"WordWarModel", "undo", "()Z"⟩),
  (149, 5, 204, .methodLink "WordWarLaw" 149 ⟨"WordWar", "check", "(II)I"⟩),
  (152, 9, 43, .methodLink "WordWarLaw" 152 ⟨"WordWarModel", "check", "(II)I"⟩),
  (153, 5, 212, .methodLink "WordWarLaw" 153 ⟨"WordWar", "count", "(I)I"⟩),
  (156, 9, 51, .methodLink "WordWarLaw" 156 ⟨"WordWarModel", "count", "(I)I"⟩)]
set_option maxRecDepth 100000 in
theorem zl_L_ok : (zl_L.map fun q => q.2).all zwat = true := by decide +kernel
def zl_M : List (Nat × Nat × Nat × Cond) := [(1, 5, 233, .methodLink "WordWarModel" 1 ⟨"java/lang/Object", "<init>", "()V"⟩),
  (7, 5, 236, .fieldLink "WordWarModel" 7 "WordWarModel" "strengthOf" "[I"),
  (13, 5, 237, .fieldLink "WordWarModel" 13 "WordWarModel" "orderAt" "[I"),
  (16, 5, 238, .fieldLink "WordWarModel" 16 "WordWarModel" "rankOf" "[I"),
  (19, 5, 239, .fieldLink "WordWarModel" 19 "WordWarModel" "reserveOf" "[I"),
  (22, 6, 0, .fieldLink "WordWarModel" 22 "WordWarModel" "graveOf" "[I"),
  (25, 6, 1, .fieldLink "WordWarModel" 25 "WordWarModel" "prisonOf" "[I"),
  (28, 6, 2, .fieldLink "WordWarModel" 28 "WordWarModel" "tape" "[B"),
  (32, 6, 12, .fieldLink "WordWarModel" 32 "WordWarModel" "lexAt" "[I"),
  (35, 6, 13, .fieldLink "WordWarModel" 35 "WordWarModel" "lexLong" "[I"),
  (38, 6, 14, .fieldLink "WordWarModel" 38 "WordWarModel" "newAt" "[I"),
  (41, 6, 15, .fieldLink "WordWarModel" 41 "WordWarModel" "newLong" "[I"),
  (44, 6, 22, .fieldLink "WordWarModel" 44 "WordWarModel" "said" "[I"),
  (47, 6, 23, .fieldLink "WordWarModel" 47 "WordWarModel" "waits" "[I"),
  (50, 6, 24, .fieldLink "WordWarModel" 50 "WordWarModel" "saidLetter" "[I"),
  (53, 6, 25, .fieldLink "WordWarModel" 53 "WordWarModel" "saidFrom" "[I"),
  (56, 6, 26, .fieldLink "WordWarModel" 56 "WordWarModel" "saidHalf" "[I"),
  (59, 6, 27, .fieldLink "WordWarModel" 59 "WordWarModel" "saidTo" "[I"),
  (62, 6, 28, .fieldLink "WordWarModel" 62 "WordWarModel" "codes" "[I"),
  (65, 6, 29, .fieldLink "WordWarModel" 65 "WordWarModel" "clauseOf" "[I"),
  (68, 6, 30, .fieldLink "WordWarModel" 68 "WordWarModel" "codeFrom" "[I"),
  (71, 6, 31, .fieldLink "WordWarModel" 71 "WordWarModel" "codeHalf" "[I"),
  (74, 6, 32, .fieldLink "WordWarModel" 74 "WordWarModel" "codeTo" "[I"),
  (77, 6, 33, .fieldLink "WordWarModel" 77 "WordWarModel" "stack" "[I"),
  (80, 6, 34, .fieldLink "WordWarModel" 80 "WordWarModel" "facts" "[I"),
  (83, 6, 35, .fieldLink "WordWarModel" 83 "WordWarModel" "actKind" "[I"),
  (86, 6, 36, .fieldLink "WordWarModel" 86 "WordWarModel" "actA" "[I"),
  (89, 6, 37, .fieldLink "WordWarModel" 89 "WordWarModel" "longA" "[I"),
  (92, 6, 38, .fieldLink "WordWarModel" 92 "WordWarModel" "actB" "[I"),
  (95, 6, 39, .fieldLink "WordWarModel" 95 "WordWarModel" "longB" "[I"),
  (98, 6, 40, .fieldLink "WordWarModel" 98 "WordWarModel" "actPlace" "[I"),
  (101, 6, 41, .fieldLink "WordWarModel" 101 "WordWarModel" "actLetter" "[I"),
  (104, 6, 43, .fieldLink "WordWarModel" 104 "WordWarModel" "rowNow" "[I"),
  (107, 6, 44, .fieldLink "WordWarModel" 107 "WordWarModel" "asideReserve" "[I"),
  (110, 6, 45, .fieldLink "WordWarModel" 110 "WordWarModel" "asideGrave" "[I"),
  (113, 6, 46, .fieldLink "WordWarModel" 113 "WordWarModel" "asidePrison" "[I"),
  (116, 6, 50, .fieldLink "WordWarModel" 116 "WordWarModel" "needs" "[I"),
  (119, 6, 51, .fieldLink "WordWarModel" 119 "WordWarModel" "worths" "[I"),
  (122, 6, 53, .fieldLink "WordWarModel" 122 "WordWarModel" "gains" "[I"),
  (125, 6, 54, .fieldLink "WordWarModel" 125 "WordWarModel" "isTwo" "[Z"),
  (129, 6, 55, .fieldLink "WordWarModel" 129 "WordWarModel" "shortest" "[I"),
  (132, 6, 56, .fieldLink "WordWarModel" 132 "WordWarModel" "peaceRow" "[I"),
  (135, 6, 57, .fieldLink "WordWarModel" 135 "WordWarModel" "fightA" "[I"),
  (138, 6, 58, .fieldLink "WordWarModel" 138 "WordWarModel" "fightB" "[I"),
  (141, 6, 59, .fieldLink "WordWarModel" 141 "WordWarModel" "mustBe" "[I"),
  (144, 6, 60, .fieldLink "WordWarModel" 144 "WordWarModel" "waysFrom" "[J"),
  (148, 6, 62, .fieldLink "WordWarModel" 148 "WordWarModel" "soldierFor" "[I"),
  (151, 6, 63, .fieldLink "WordWarModel" 151 "WordWarModel" "soldierX" "[I"),
  (154, 6, 64, .fieldLink "WordWarModel" 154 "WordWarModel" "soldierY" "[I"),
  (157, 6, 65, .fieldLink "WordWarModel" 157 "WordWarModel" "soldierPace" "[I"),
  (160, 6, 66, .fieldLink "WordWarModel" 160 "WordWarModel" "hoursTo" "[I"),
  (163, 6, 67, .fieldLink "WordWarModel" 163 "WordWarModel" "goesFor" "[I"),
  (166, 6, 68, .fieldLink "WordWarModel" 166 "WordWarModel" "cameFrom" "[I"),
  (169, 6, 69, .fieldLink "WordWarModel" 169 "WordWarModel" "queue" "[I"),
  (172, 6, 74, .fieldLink "WordWarModel" 172 "WordWarModel" "keptReserve" "[I"),
  (175, 6, 75, .fieldLink "WordWarModel" 175 "WordWarModel" "keptGrave" "[I"),
  (178, 6, 76, .fieldLink "WordWarModel" 178 "WordWarModel" "keptPrison" "[I"),
  (181, 6, 77, .fieldLink "WordWarModel" 181 "WordWarModel" "keptMany" "[I"),
  (184, 6, 78, .fieldLink "WordWarModel" 184 "WordWarModel" "keptAt" "[I"),
  (187, 6, 79, .fieldLink "WordWarModel" 187 "WordWarModel" "keptLong" "[I"),
  (190, 6, 80, .fieldLink "WordWarModel" 190 "WordWarModel" "keptFightA" "[I"),
  (193, 6, 81, .fieldLink "WordWarModel" 193 "WordWarModel" "keptFightB" "[I"),
  (196, 6, 82, .fieldLink "WordWarModel" 196 "WordWarModel" "keptFor" "[I"),
  (199, 6, 83, .fieldLink "WordWarModel" 199 "WordWarModel" "keptSoldierX" "[I"),
  (202, 6, 84, .fieldLink "WordWarModel" 202 "WordWarModel" "keptSoldierY" "[I"),
  (205, 6, 85, .fieldLink "WordWarModel" 205 "WordWarModel" "keptPace" "[I"),
  (208, 5, 234, .fieldLink "WordWarModel" 208 "WordWarModel" "x0" "I"),
  (212, 7, 36, .methodLink "WordWarModel" 212 ⟨"WordWarModel", "isLetter", "(I)Z"⟩),
  (216, 7, 39, .methodLink "WordWarModel" 216 ⟨"WordWarModel", "in", "(III)Z"⟩),
  (220, 7, 46, .methodLink "WordWarModel" 220 ⟨"WordWarModel", "isSide", "(I)Z"⟩),
  (223, 7, 121, .methodLink "WordWarModel" 223 ⟨"WordWarModel", "min", "(II)I"⟩),
  (227, 6, 3, .fieldLink "WordWarModel" 227 "WordWarModel" "taped" "I"),
  (230, 7, 53, .methodLink "WordWarModel" 230 ⟨"WordWarModel", "types", "(I)V"⟩),
  (234, 7, 61, .methodLink "WordWarModel" 234 ⟨"WordWarModel", "has", "(II)Z"⟩),
  (238, 6, 8, .fieldLink "WordWarModel" 238 "WordWarModel" "lexMany0" "I"),
  (241, 6, 9, .fieldLink "WordWarModel" 241 "WordWarModel" "lexMany1" "I"),
  (244, 6, 10, .fieldLink "WordWarModel" 244 "WordWarModel" "field0" "I"),
  (247, 6, 11, .fieldLink "WordWarModel" 247 "WordWarModel" "field1" "I"),
  (250, 7, 95, .methodLink "WordWarModel" 250 ⟨"WordWarModel", "manyOf", "(I)I"⟩),
  (254, 7, 107, .methodLink "WordWarModel" 254 ⟨"WordWarModel", "beginOf", "(II)I"⟩),
  (257, 7, 110, .methodLink "WordWarModel" 257 ⟨"WordWarModel", "longOf", "(II)I"⟩),
  (260, 7, 88, .methodLink "WordWarModel" 260 ⟨"WordWarModel", "areAlike", "([III[III)Z"⟩),
  (264, 8, 25, .methodLink "WordWarModel" 264 ⟨"WordWarModel", "compare", "(I[III[III)I"⟩),
  (268, 7, 118, .methodLink "WordWarModel" 268 ⟨"WordWarModel", "adds", "([III)V"⟩),
  (272, 7, 76, .methodLink "WordWarModel" 272 ⟨"WordWarModel", "here", "()I"⟩),
  (276, 6, 7, .fieldLink "WordWarModel" 276 "WordWarModel" "number0" "I"),
  (279, 7, 72, .methodLink "WordWarModel" 279 ⟨"WordWarModel", "isLetterHere", "()Z"⟩),
  (283, 6, 4, .fieldLink "WordWarModel" 283 "WordWarModel" "place0" "I"),
  (286, 7, 80, .methodLink "WordWarModel" 286 ⟨"WordWarModel", "wrongAt", "(II)Z"⟩),
  (289, 6, 16, .fieldLink "WordWarModel" 289 "WordWarModel" "newMany" "I"),
  (292, 7, 84, .methodLink "WordWarModel" 292 ⟨"WordWarModel", "readsWord", "([II)Z"⟩),
  (296, 6, 5, .fieldLink "WordWarModel" 296 "WordWarModel" "length0" "I"),
  (299, 7, 68, .methodLink "WordWarModel" 299 ⟨"WordWarModel", "readsLexWord", "()Z"⟩),
  (302, 7, 91, .methodLink "WordWarModel" 302 ⟨"WordWarModel", "takes", "(I)Z"⟩),
  (305, 6, 6, .fieldLink "WordWarModel" 305 "WordWarModel" "fault" "I"),
  (308, 7, 99, .methodLink "WordWarModel" 308 ⟨"WordWarModel", "fieldOf", "(I)I"⟩),
  (311, 7, 103, .methodLink "WordWarModel" 311 ⟨"WordWarModel", "isInNew", "(II)Z"⟩),
  (314, 7, 114, .methodLink "WordWarModel" 314 ⟨"WordWarModel", "goesHome", "(I[III)V"⟩),
  (318, 7, 124, .methodLink "WordWarModel" 318 ⟨"WordWarModel", "wordIn", "(I[III)I"⟩),
  (322, 7, 128, .methodLink "WordWarModel" 322 ⟨"WordWarModel", "setField", "(II)V"⟩),
  (326, 7, 156, .methodLink "WordWarModel" 326 ⟨"WordWarModel", "isDigit", "()Z"⟩),
  (329, 6, 18, .fieldLink "WordWarModel" 329 "WordWarModel" "codeMany" "I"),
  (332, 7, 155, .constant "WordWarModel" 332 1048576),
  (333, 6, 17, .fieldLink "WordWarModel" 333 "WordWarModel" "open" "I"),
  (336, 6, 19, .fieldLink "WordWarModel" 336 "WordWarModel" "waiting" "I"),
  (339, 7, 178, .methodLink "WordWarModel" 339 ⟨"WordWarModel", "waitTop", "()I"⟩),
  (342, 7, 164, .methodLink "WordWarModel" 342 ⟨"WordWarModel", "notes", "(II)V"⟩),
  (345, 7, 151, .methodLink "WordWarModel" 345 ⟨"WordWarModel", "opens", "(I)Z"⟩),
  (348, 7, 160, .methodLink "WordWarModel" 348 ⟨"WordWarModel", "readsNumber", "()Z"⟩),
  (351, 7, 168, .methodLink "WordWarModel" 351 ⟨"WordWarModel", "factOf", "(I)I"⟩),
  (354, 7, 147, .methodLink "WordWarModel" 354 ⟨"WordWarModel", "readsFactor", "()Z"⟩),
  (357, 7, 171, .methodLink "WordWarModel" 357 ⟨"WordWarModel", "sumSign", "(I)I"⟩),
  (360, 7, 174, .methodLink "WordWarModel" 360 ⟨"WordWarModel", "closesSums", "(Z)V"⟩),
  (364, 7, 182, .methodLink "WordWarModel" 364 ⟨"WordWarModel", "hasOpenSum", "(I)Z"⟩),
  (367, 7, 143, .methodLink "WordWarModel" 367 ⟨"WordWarModel", "readsSum", "()Z"⟩),
  (370, 7, 194, .methodLink "WordWarModel" 370 ⟨"WordWarModel", "endsPiece", "()V"⟩),
  (373, 7, 190, .methodLink "WordWarModel" 373 ⟨"WordWarModel", "readsCompared", "()Z"⟩),
  (376, 7, 198, .methodLink "WordWarModel" 376 ⟨"WordWarModel", "lands", "(Z)V"⟩),
  (379, 7, 202, .methodLink "WordWarModel" 379 ⟨"WordWarModel", "jumps", "(I)V"⟩),
  (382, 7, 140, .methodLink "WordWarModel" 382 ⟨"WordWarModel", "isClause", "(I)Z"⟩),
  (385, 6, 20, .fieldLink "WordWarModel" 385 "WordWarModel" "saidMany" "I"),
  (388, 7, 186, .methodLink "WordWarModel" 388 ⟨"WordWarModel", "readsCondition", "()Z"⟩),
  (391, 7, 136, .methodLink "WordWarModel" 391 ⟨"WordWarModel", "readsClause", "()Z"⟩),
  (394, 6, 21, .fieldLink "WordWarModel" 394 "WordWarModel" "clauses" "I"),
  (397, 8, 58, .methodLink "WordWarModel" 397 ⟨"WordWarModel", "reckon", "(III)I"⟩),
  (401, 8, 54, .methodLink "WordWarModel" 401 ⟨"WordWarModel", "comesTo", "(II)I"⟩),
  (404, 5, 235, .fieldLink "WordWarModel" 404 "WordWarModel" "turn0" "I"),
  (407, 8, 42, .methodLink "WordWarModel" 407 ⟨"WordWarModel", "feels", "(I)V"⟩),
  (410, 8, 46, .methodLink "WordWarModel" 410 ⟨"WordWarModel", "strengthIn", "(II)I"⟩),
  (413, 8, 38, .methodLink "WordWarModel" 413 ⟨"WordWarModel", "feelsWord", "(II)V"⟩),
  (416, 8, 50, .methodLink "WordWarModel" 416 ⟨"WordWarModel", "byLaw", "(II)I"⟩),
  (419, 8, 37, .constant "WordWarModel" 419 65536),
  (420, 6, 42, .fieldLink "WordWarModel" 420 "WordWarModel" "actMany" "I"),
  (423, 7, 222, .methodLink "WordWarModel" 423 ⟨"WordWarModel", "readsFirst", "()Z"⟩),
  (426, 7, 218, .methodLink "WordWarModel" 426 ⟨"WordWarModel", "readsAttack", "()Z"⟩),
  (429, 7, 226, .methodLink "WordWarModel" 429 ⟨"WordWarModel", "readsSpy", "()Z"⟩),
  (432, 7, 214, .methodLink "WordWarModel" 432 ⟨"WordWarModel", "readsAct", "()Z"⟩),
  (435, 8, 2, .methodLink "WordWarModel" 435 ⟨"WordWarModel", "bits", "(I)I"⟩),
  (438, 8, 5, .methodLink "WordWarModel" 438 ⟨"WordWarModel", "isThere", "(I[III)Z"⟩),
  (442, 7, 238, .methodLink "WordWarModel" 442 ⟨"WordWarModel", "canForm", "(II)Z"⟩),
  (445, 8, 9, .methodLink "WordWarModel" 445 ⟨"WordWarModel", "stands", "(IIZ)V"⟩),
  (449, 8, 33, .methodLink "WordWarModel" 449 ⟨"WordWarModel", "draws", "()I"⟩),
  (452, 7, 234, .methodLink "WordWarModel" 452 ⟨"WordWarModel", "forms", "(II)Z"⟩),
  (455, 8, 13, .methodLink "WordWarModel" 455 ⟨"WordWarModel", "turns", "(II)Z"⟩),
  (458, 8, 17, .methodLink "WordWarModel" 458 ⟨"WordWarModel", "spies", "(IIII)Z"⟩),
  (462, 8, 21, .methodLink "WordWarModel" 462 ⟨"WordWarModel", "isBeating", "(III)Z"⟩),
  (465, 8, 29, .methodLink "WordWarModel" 465 ⟨"WordWarModel", "loses", "(III)V"⟩),
  (469, 7, 210, .methodLink "WordWarModel" 469 ⟨"WordWarModel", "readsActs", "(I)Z"⟩),
  (472, 7, 230, .methodLink "WordWarModel" 472 ⟨"WordWarModel", "does", "(II)Z"⟩),
  (475, 6, 47, .fieldLink "WordWarModel" 475 "WordWarModel" "asideX" "I"),
  (478, 6, 48, .fieldLink "WordWarModel" 478 "WordWarModel" "asideField0" "I"),
  (481, 6, 49, .fieldLink "WordWarModel" 481 "WordWarModel" "asideField1" "I"),
  (484, 8, 69, .methodLink "WordWarModel" 484 ⟨"WordWarModel", "copies", "([I[II)V"⟩),
  (488, 8, 65, .methodLink "WordWarModel" 488 ⟨"WordWarModel", "begins", "()V"⟩),
  (491, 8, 72, .methodLink "WordWarModel" 491 ⟨"WordWarModel", "again", "()V"⟩),
  (494, 8, 84, .methodLink "WordWarModel" 494 ⟨"WordWarModel", "isWord", "(II)Z"⟩),
  (497, 8, 88, .methodLink "WordWarModel" 497 ⟨"WordWarModel", "worthOf", "(II)I"⟩),
  (500, 8, 96, .methodLink "WordWarModel" 500 ⟨"WordWarModel", "fightOf", "(II)I"⟩),
  (503, 8, 112, .methodLink "WordWarModel" 503 ⟨"WordWarModel", "canBeFormed", "(II)Z"⟩),
  (506, 6, 52, .fieldLink "WordWarModel" 506 "WordWarModel" "bestSet" "I"),
  (509, 8, 108, .methodLink "WordWarModel" 509 ⟨"WordWarModel", "laysBest", "(I)I"⟩),
  (512, 8, 120, .methodLink "WordWarModel" 512 ⟨"WordWarModel", "beatenBy", "(II)I"⟩),
  (515, 8, 128, .methodLink "WordWarModel" 515 ⟨"WordWarModel", "laysGains", "()V"⟩),
  (518, 8, 132, .methodLink "WordWarModel" 518 ⟨"WordWarModel", "rests", "(I)Z"⟩),
  (521, 8, 140, .methodLink "WordWarModel" 521 ⟨"WordWarModel", "areExchanged", "(III)Z"⟩),
  (524, 8, 144, .methodLink "WordWarModel" 524 ⟨"WordWarModel", "exchanges", "(III)V"⟩),
  (527, 8, 168, .constant "WordWarModel" 527 1000000000),
  (528, 8, 164, .methodLink "WordWarModel" 528 ⟨"WordWarModel", "laysShortest", "(II)V"⟩),
  (531, 8, 160, .methodLink "WordWarModel" 531 ⟨"WordWarModel", "laysPeace", "(II)I"⟩),
  (534, 8, 173, .methodLink "WordWarModel" 534 ⟨"WordWarModel", "unlike", "(III)I"⟩),
  (537, 8, 177, .methodLink "WordWarModel" 537 ⟨"WordWarModel", "bears", "(II)Z"⟩),
  (540, 6, 61, .fieldLink "WordWarModel" 540 "WordWarModel" "fights" "I"),
  (543, 8, 189, .constantLong "WordWarModel" 543 (-3)),
  (545, 8, 190, .methodLink "WordWarModel" 545 ⟨"WordWarModel", "laysMust", "()V"⟩),
  (548, 8, 194, .methodLink "WordWarModel" 548 ⟨"WordWarModel", "laysWays", "()J"⟩),
  (552, 8, 198, .constantLong "WordWarModel" 552 (-2)),
  (554, 8, 203, .methodLink "WordWarModel" 554 ⟨"WordWarModel", "waysWith", "(II)J"⟩),
  (558, 8, 207, .constantLong "WordWarModel" 558 (-1)),
  (560, 8, 228, .methodLink "WordWarModel" 560 ⟨"WordWarModel", "size", "(I)I"⟩),
  (563, 8, 239, .methodLink "WordWarModel" 563 ⟨"WordWarModel", "moves", "(II)V"⟩),
  (566, 8, 235, .methodLink "WordWarModel" 566 ⟨"WordWarModel", "finds", "(III)Z"⟩),
  (569, 8, 224, .methodLink "WordWarModel" 569 ⟨"WordWarModel", "laysHours", "(IIII)V"⟩),
  (573, 8, 231, .methodLink "WordWarModel" 573 ⟨"WordWarModel", "canMarch", "(III)Z"⟩),
  (576, 9, 3, .methodLink "WordWarModel" 576 ⟨"WordWarModel", "isFirst", "(IIII)Z"⟩),
  (579, 9, 7, .methodLink "WordWarModel" 579 ⟨"WordWarModel", "forgetsFrom", "(I)V"⟩),
  (582, 9, 15, .methodLink "WordWarModel" 582 ⟨"WordWarModel", "max", "(II)I"⟩),
  (585, 9, 22, .constant "WordWarModel" 585 65535),
  (586, 6, 70, .fieldLink "WordWarModel" 586 "WordWarModel" "isKept" "Z"),
  (590, 6, 71, .fieldLink "WordWarModel" 590 "WordWarModel" "keptX" "I"),
  (593, 6, 72, .fieldLink "WordWarModel" 593 "WordWarModel" "keptTurn" "I"),
  (596, 6, 73, .fieldLink "WordWarModel" 596 "WordWarModel" "keptFights" "I"),
  (599, 9, 27, .methodLink "WordWarModel" 599 ⟨"WordWarModel", "keepsField", "(I)V"⟩),
  (602, 9, 31, .methodLink "WordWarModel" 602 ⟨"WordWarModel", "sumOf", "([II)I"⟩),
  (606, 9, 39, .methodLink "WordWarModel" 606 ⟨"WordWarModel", "undoesField", "(I)V"⟩),
  (609, 9, 47, .methodLink "WordWarModel" 609 ⟨"WordWarModel", "tapeNumber", "(I)I"⟩),
  (612, 9, 55, .methodLink "WordWarModel" 612 ⟨"WordWarModel", "soldierMany", "()I"⟩)]
set_option maxRecDepth 100000 in
theorem zl_M_ok : (zl_M.map fun q => q.2).all zwat = true := by decide +kernel
def zl_Int : List (Nat × Nat × Nat × Cond) := [(265, 4, 1, .constant "java/lang/Integer" 265 1431655765),
  (266, 4, 2, .constant "java/lang/Integer" 266 858993459),
  (267, 4, 3, .constant "java/lang/Integer" 267 252645135)]
set_option maxRecDepth 100000 in
theorem zl_Int_ok : (zl_Int.map fun q => q.2).all zwat = true := by decide +kernel
def zlks : List (String × List (Nat × Nat × Nat × Cond)) := [("WordWar", zl_W), ("WordWar$Acts", zl_Acts), ("WordWar$Army", zl_Army), ("WordWar$Camp", zl_Camp), ("WordWar$Chooser", zl_Cho), ("WordWar$Fights", zl_Fig), ("WordWar$Law", zl_Law), ("WordWar$LawReader", zl_Rdr), ("WordWar$Soldiers", zl_Sol), ("WordWar$Tape", zl_Tape), ("WordWar$Treaty", zl_Tre), ("WordWar$Words", zl_Wrd), ("WordWarLaw", zl_L), ("WordWarModel", zl_M), ("java/lang/Integer", zl_Int)]
theorem zlks_ok : ∀ q ∈ zlks, (q.2.map fun q => q.2).all zwat = true := by
  intro q hq
  unfold zlks at hq
  simp only [List.mem_cons, List.not_mem_nil, or_false] at hq
  rcases hq with rfl | rfl | rfl | rfl | rfl | rfl | rfl | rfl | rfl | rfl | rfl | rfl | rfl | rfl | rfl
  · exact zl_W_ok
  · exact zl_Acts_ok
  · exact zl_Army_ok
  · exact zl_Camp_ok
  · exact zl_Cho_ok
  · exact zl_Fig_ok
  · exact zl_Law_ok
  · exact zl_Rdr_ok
  · exact zl_Sol_ok
  · exact zl_Tape_ok
  · exact zl_Tre_ok
  · exact zl_Wrd_ok
  · exact zl_L_ok
  · exact zl_M_ok
  · exact zl_Int_ok
def zlf (l : List (Nat × Nat × Nat × Cond)) (idx : Nat) : Option Cond := match l with
  | [] => none
  | q :: l => bif q.1 == idx then some q.2.2.2 else zlf l idx
theorem zlf_in : ∀ (l : List (Nat × Nat × Nat × Cond)) (idx : Nat) (w : Cond), (l.map fun q => q.2).all zwat = true → zlf l idx = some w → w ∈ lw_tbl
  | [], _, _, _, h => by cases h
  | q :: l, idx, w, ha, h => by
    unfold zlf at h
    have ha' : ((q.2 :: l.map fun q => q.2)).all zwat = true := ha
    cases hb : q.1 == idx with
    | true =>
      rw [hb] at h
      have h : some q.2.2.2 = some w := h
      cases h
      exact zwat_in ha' q.2 List.mem_cons_self
    | false =>
      rw [hb] at h
      exact zlf_in l idx w (by rw [List.all_cons, Bool.and_eq_true] at ha'; exact ha'.2) h
def zlo (l : List (String × List (Nat × Nat × Nat × Cond))) (own : String) : List (Nat × Nat × Nat × Cond) := match l with
  | [] => []
  | q :: l => bif decide (q.1 = own) then q.2 else zlo l own
theorem zlo_in : ∀ (l : List (String × List (Nat × Nat × Nat × Cond))) (own : String), (∀ q ∈ l, (q.2.map fun q => q.2).all zwat = true) → ((zlo l own).map fun q => q.2).all zwat = true
  | [], _, _ => rfl
  | q :: l, own, h => by
    unfold zlo
    cases decide (q.1 = own) with
    | true => exact h q List.mem_cons_self
    | false => exact zlo_in l own (fun q hq => h q (List.mem_cons_of_mem _ hq))
def zlk (own : String) (idx : Nat) : Option Cond := zlf (zlo zlks own) idx
theorem zlkm {own : String} {idx : Nat} {w : Cond} (h : zlk own idx = some w) : w ∈ lw_tbl := zlf_in _ _ _ (zlo_in _ _ zlks_ok) h
def znest (own : String) (idx : Nat) (y : MethodName) : Bool := zNest.any fun q => decide (q.1 = own) && (q.2.1 == idx && decide (q.2.2.1 = y))
theorem znest_in {own : String} {idx : Nat} {y : MethodName} (h : znest own idx y = true) : ∃ ho, (own, idx, y, ho) ∈ zNest := by
  obtain ⟨q, hq, h1⟩ := List.any_eq_true.mp h
  simp only [Bool.and_eq_true, decide_eq_true_eq, beq_iff_eq] at h1
  obtain ⟨a, i, y', ho⟩ := q
  obtain ⟨rfl, rfl, rfl⟩ := h1
  exact ⟨ho, hq⟩
def zrkb (k : Nat) (ret : Option FieldType) : Bool := (k == 1 && (decide (ret = some .int) || decide (ret = some .boolean))) || ((k == 2 && decide (ret = some .long)) || (k == 3 && decide (ret = none)))
theorem zrkb_ok {k : Nat} {ret : Option FieldType} (h : zrkb k ret = true) : zrk k ret := by
  unfold zrkb at h
  simp only [Bool.or_eq_true, Bool.and_eq_true, beq_iff_eq, decide_eq_true_eq] at h
  exact h
def z32b (x : Int) : Bool := decide (-2147483648 ≤ x) && decide (x < 2147483648)
def z64b (x : Int) : Bool := decide (-9223372036854775808 ≤ x) && decide (x < 9223372036854775808)
/-- a row of a method's code, by program -/
def zokb (own : String) (ro : Option FieldType) (i : Instr) (r : zr) : Bool := match i with
  | .getfield idx => decide (r.2.1 < 12) && (decide (r.2.2.1 < zN r.2.1) && (decide (r.2.2.2 = (zft r.2.1 r.2.2.1 : Int)) && decide (zlk own idx = some (.fieldLink own idx (zRc r.2.1) (zT r.2.1 r.2.2.1).2.1 (zT r.2.1 r.2.2.1).2.2.1))))
  | .putfield idx => decide (r.2.1 < 12) && (decide (r.2.2.1 < zN r.2.1) && (decide (r.2.2.2 = (zft r.2.1 r.2.2.1 : Int)) && decide (zlk own idx = some (.fieldLink own idx (zRc r.2.1) (zT r.2.1 r.2.2.1).2.1 (zT r.2.1 r.2.2.1).2.2.1))))
  | .new idx => decide (r.2.1 < 12) && (decide (r.2.2.1 = zN r.2.1) && decide (zlk own idx = some (.classLink own idx (zRc r.2.1))))
  | .anewarray idx => decide (16 ≤ r.2.1) && (decide (r.2.1 < 19) && decide (zlk own idx = some (.classLink own idx (zRc (zec r.2.1)))))
  | .ldc idx => (r.1 == 9 && (z32b r.2.2.2 && decide (zlk own idx = some (.constant own idx (Int32.ofInt r.2.2.2))))) || (r.1 == 11 && (decide (r.2.1 < 6) && (decide (own = "WordWar$LawReader") && decide (idx = zsk.getD r.2.1 0))))
  | .ldc_w idx => r.1 == 9 && (z32b r.2.2.2 && decide (zlk own idx = some (.constant own idx (Int32.ofInt r.2.2.2))))
  | .ldc2_w idx => z64b r.2.2.2 && decide (zlk own idx = some (.constantLong own idx (Int64.ofInt r.2.2.2)))
  | .invokestatic idx => (r.1 == 14 && decide (zlk own idx = some (.methodLink own idx Lib.Math.min.name))) || ((r.1 == 15 && decide (zlk own idx = some (.methodLink own idx Lib.Math.max.name))) || ((r.1 == 16 && decide (zlk own idx = some (.methodLink own idx Lib.Math.abs.name))) || ((r.1 == 17 && decide (zlk own idx = some (.methodLink own idx Lib.MathLoose.min_long.x))) || (r.1 == 5 && decide (zlk own idx = some (.methodLink own idx arraycopyName)) || ((r.1 == 6 && decide (zlk own idx = some (.methodLink own idx yPl))) || (decide (1 ≤ r.1) && (decide (r.1 ≤ 3) && (decide (r.2.1 < znM) && ((decide (zlk own idx = some (.methodLink own idx (zY r.2.1))) || znest own idx (zY r.2.1)) && (zst r.2.1 && (decide (zpn r.2.1 = r.2.2.1) && zrkb r.1 (zO r.2.1))))))))))))
  | .invokespecial idx => (r.1 == 4 && decide (zlk own idx = some (.methodLink own idx Lib.objectInit))) || (r.1 == 3 && (decide (1 ≤ r.2.2.1) && (decide (0 ≤ r.2.2.2) && (decide (r.2.1 < znM) && ((decide (zlk own idx = some (.methodLink own idx (zY r.2.1))) || znest own idx (zY r.2.1)) && (!zst r.2.1 && (decide (zpn r.2.1 = r.2.2.1 - 1) && (decide ((zY r.2.1).name = "<init>") && decide (zO r.2.1 = none)))))))))
  | .invokevirtual idx => decide (1 ≤ r.1) && (decide (r.1 ≤ 3) && (decide (1 ≤ r.2.2.1) && (decide (r.2.1 < znM) && (decide (zlk own idx = some (.methodLink own idx (zY r.2.1))) && (!zst r.2.1 && (!((zps0.getD r.2.1 (99, 0)).1 == 99) && (decide (zpn r.2.1 = r.2.2.1 - 1) && (zrkb r.1 (zO r.2.1) && (decide (0 ≤ r.2.2.2) && (decide (r.2.2.2 < 12) && decide ((zY r.2.1).cls = zRc r.2.2.2.toNat)))))))))))
  | .ireturn => (r.2.1 == 0 && decide (ro = some .int)) || (r.2.1 == 1 && decide (ro = some .boolean))
  | .lreturn => decide (ro = some .long)
  | .return_ => decide (ro = none)
  | _ => true
theorem zmw {n : Nat} (hn : n < znM) : Cond.initialized (zY n).cls ∈ lw_g ∧ (zst n = true → Cond.static (zY n) ∈ lw_g) ∧ (zst n = false → Cond.instanceMethod (zY n) ∈ lw_g) ∧ (((zps0.getD n (99, 0)).1 == 99) = false → Cond.selects (zY n).cls (zY n) (zY n) ∈ lw_g) ∧ (parseMethodDescriptor (zY n).desc).map (fun d => d.parameters.length) = some (zpn n) ∧ plainName (zY n).cls = true ∧ ((zY n).cls ≠ "java/lang/invoke/MethodHandle" ∧ (zY n).cls ≠ "java/lang/invoke/VarHandle") ∧ (zP n).2.2.1 ≤ 41 ∧ ((zP n).2.1 = true → (zY n).name = "<init>") := by
  have h := zmc_all n hn
  unfold zmchk at h
  simp only [Bool.and_eq_true, Bool.or_eq_true, Bool.not_eq_true', decide_eq_true_eq, decide_eq_false_iff_not] at h
  obtain ⟨h1, ⟨h2, h3⟩, h4, h5, h6, h7, h8, h9⟩ := h
  refine ⟨zg_in (zwp_in h2) rfl, fun q => ?_, fun q => ?_, fun q => ?_, h4, h5, ⟨h6, h7⟩, h8, fun q => ?_⟩
  · rw [if_pos q] at h1
    exact zg_in (zwp_in h1) rfl
  · rw [if_neg (by rw [q]; decide)] at h1
    exact zg_in (zwp_in h1) rfl
  · rcases h3 with g | g
    · rw [q] at g; cases g
    · exact zg_in (zwp_in g) rfl
  · rcases h9 with g | g
    · rw [q] at g; cases g
    · exact g
theorem zokb_ok {own : String} {ro : Option FieldType} {i : Instr} {r : zr} (h : zokb own ro i r = true) : zOK znM zY zO own ro i r := by
  cases i
  case getfield idx =>
    simp only [zokb, Bool.and_eq_true, decide_eq_true_eq] at h
    exact ⟨h.1, h.2.1, h.2.2.1, zlkm h.2.2.2⟩
  case putfield idx =>
    simp only [zokb, Bool.and_eq_true, decide_eq_true_eq] at h
    exact ⟨h.1, h.2.1, h.2.2.1, zlkm h.2.2.2⟩
  case new idx =>
    simp only [zokb, Bool.and_eq_true, decide_eq_true_eq] at h
    exact ⟨h.1, h.2.1, zlkm h.2.2⟩
  case anewarray idx =>
    simp only [zokb, Bool.and_eq_true, decide_eq_true_eq] at h
    exact ⟨h.1, h.2.1, zlkm h.2.2⟩
  case ldc idx =>
    simp only [zokb, z32b, Bool.and_eq_true, Bool.or_eq_true, beq_iff_eq, decide_eq_true_eq] at h
    rcases h with ⟨a, b, c⟩ | ⟨a, b, c, d⟩
    · exact ⟨fun _ => ⟨b, zlkm c⟩, fun q => by omega⟩
    · exact ⟨fun q => by omega, fun _ => ⟨b, c, d⟩⟩
  case ldc_w idx =>
    simp only [zokb, z32b, Bool.and_eq_true, beq_iff_eq, decide_eq_true_eq] at h
    exact ⟨fun _ => ⟨h.2.1, zlkm h.2.2⟩, by omega⟩
  case ldc2_w idx =>
    simp only [zokb, z64b, Bool.and_eq_true, decide_eq_true_eq] at h
    exact ⟨h.1, zlkm h.2⟩
  case invokestatic idx =>
    simp only [zokb, Bool.and_eq_true, Bool.or_eq_true, beq_iff_eq, decide_eq_true_eq] at h
    rcases h with ⟨a, b⟩ | ⟨a, b⟩ | ⟨a, b⟩ | ⟨a, b⟩ | ⟨a, b⟩ | ⟨a, b⟩ | ⟨a, b, c, d, e, f, g⟩
    · exact ⟨fun _ => zlkm b, fun q => by omega, fun q => by omega, fun q => by omega, by omega, fun q => by omega, fun q => by omega, fun q q2 => by omega⟩
    · exact ⟨fun q => by omega, fun _ => zlkm b, fun q => by omega, fun q => by omega, by omega, fun q => by omega, fun q => by omega, fun q q2 => by omega⟩
    · exact ⟨fun q => by omega, fun q => by omega, fun _ => zlkm b, fun q => by omega, by omega, fun q => by omega, fun q => by omega, fun q q2 => by omega⟩
    · exact ⟨fun q => by omega, fun q => by omega, fun q => by omega, fun _ => zlkm b, by omega, fun q => by omega, fun q => by omega, fun q q2 => by omega⟩
    · exact ⟨fun q => by omega, fun q => by omega, fun q => by omega, fun q => by omega, by omega, fun _ => zlkm b, fun q => by omega, fun q q2 => by omega⟩
    · exact ⟨fun q => by omega, fun q => by omega, fun q => by omega, fun q => by omega, by omega, fun q => by omega, fun _ => zlkm b, fun q q2 => by omega⟩
    · obtain ⟨w1, w2, w3, w4, w5, -⟩ := zmw c
      exact ⟨fun q => by omega, fun q => by omega, fun q => by omega, fun q => by omega, by omega, fun q => by omega, fun q => by omega, fun _ _ => ⟨c, d.elim (fun q => Or.inl (zlkm q)) (fun q => Or.inr (znest_in q)), w2 e, w1, by rw [w5, f], zrkb_ok g⟩⟩
  case invokespecial idx =>
    simp only [zokb, Bool.and_eq_true, Bool.or_eq_true, Bool.not_eq_true', beq_iff_eq, decide_eq_true_eq] at h
    rcases h with ⟨a, b⟩ | ⟨a, b, b2, c, d, e, f, g, g2⟩
    · exact ⟨by omega, by omega, fun _ => zlkm b, fun q q2 => by omega⟩
    · obtain ⟨w1, w2, w3, w4, w5, -⟩ := zmw c
      exact ⟨by omega, by omega, fun q => by omega, fun _ _ => ⟨a, b, b2, c, d.elim (fun q => Or.inl (zlkm q)) (fun q => Or.inr (znest_in q)), w3 e, w1, g, by rw [w5, f], g2⟩⟩
  case invokevirtual idx =>
    simp only [zokb, Bool.and_eq_true, Bool.not_eq_true', decide_eq_true_eq] at h
    obtain ⟨a, b, b2, c, d, e, f, g, g2, k1, k2, k3⟩ := h
    obtain ⟨w1, w2, w3, w4, w5, -⟩ := zmw c
    exact ⟨by omega, by omega, by omega, fun _ _ => ⟨b2, c, zlkm d, w3 e, w4 f, w1, by rw [w5, g], zrkb_ok g2, r.2.2.2.toNat, by omega, by omega, k3⟩⟩
  case ireturn =>
    simp only [zokb, Bool.and_eq_true, Bool.or_eq_true, beq_iff_eq, decide_eq_true_eq] at h
    exact h
  case lreturn =>
    simp only [zokb, decide_eq_true_eq] at h
    exact h
  case return_ =>
    simp only [zokb, decide_eq_true_eq] at h
    exact h
  all_goals exact trivial
def zrowb (B : ByteArray) (own : String) (ro : Option FieldType) (e : ze) : Bool := decide (decode B e.1 = .ok (e.2.2.1, e.2.2.2.1)) && (zokb own ro e.2.2.1 e.2.2.2.2 && (zln e.2.2.1 == 0 || zln e.2.2.1 == e.2.2.2.1))
def zrowsb (B : ByteArray) (own : String) (ro : Option FieldType) : zc → Bool
  | [] => true
  | e :: cs => zrowb B own ro e && ((match cs with | [] => true | e2 :: _ => e2.1 == e.1 + e.2.2.2.1) && zrowsb B own ro cs)
theorem zrowsb_ok {B : ByteArray} {own : String} {ro : Option FieldType} : ∀ (K : zc), zrowsb B own ro K = true → ∀ e cs, (e :: cs) <:+ K → decode B e.1 = .ok (e.2.2.1, e.2.2.2.1) ∧ zOK znM zY zO own ro e.2.2.1 e.2.2.2.2 ∧ (zln e.2.2.1 = 0 ∨ zln e.2.2.1 = e.2.2.2.1) ∧ ∀ e2 cs2, cs = e2 :: cs2 → e2.1 = e.1 + e.2.2.2.1
  | [], _, e, cs, hs => by simp at hs
  | k :: K, h, e, cs, hs => by
    unfold zrowsb at h
    simp only [Bool.and_eq_true] at h
    obtain ⟨h1, h2, h3⟩ := h
    rcases List.suffix_cons_iff.mp hs with q | q
    · cases q
      unfold zrowb at h1
      simp only [Bool.and_eq_true, Bool.or_eq_true, beq_iff_eq, decide_eq_true_eq] at h1
      refine ⟨h1.1, zokb_ok h1.2.1, h1.2.2, fun e2 cs2 hc => ?_⟩
      subst hc
      exact beq_iff_eq.mp h2
    · exact zrowsb_ok K h3 e cs q
def zchk (n : Nat) : Bool := zrowsb (zB n) (zY n).cls (zO n) (zP n).2.2.2 && ((match (zP n).2.2.2 with | [] => true | e :: _ => e.1 == 0) && (!decide ((zP n).1 < 12) || decide (zRc (zP n).1 = (zY n).cls)))
theorem zchk_row {n : Nat} (h : zchk n = true) : zRow znM zP zY zB zO n := by
  unfold zchk at h
  simp only [Bool.and_eq_true, Bool.or_eq_true, Bool.not_eq_true', decide_eq_true_eq, decide_eq_false_iff_not] at h
  obtain ⟨h1, h2, h3⟩ := h
  refine ⟨fun q => h3.elim (fun g => absurd q g) id, ?_, zrowsb_ok _ h1⟩
  cases hK : (zP n).2.2.2 with
  | nil => rfl
  | cons e cs =>
    rw [hK] at h2
    unfold zfind
    rw [beq_iff_eq.mp h2]
    rfl
theorem zchk_ok {n : Nat} (hn : n < znM) (h : zchk n = true) : zMok znM zP zY zB zO n := by
  obtain ⟨-, -, -, -, -, w6, w7, w8, w9⟩ := zmw hn
  exact ⟨w6, w7, zg_in (zcd_all n hn) rfl, w8, w9, zchk_row h⟩
