section
/-! TABLES, 1: classes, fields, methods, instructions. Written by wip/whole/gen/mktab.py. -/
def tb_cns : List String := ["PackageKeeper", "PackageKeeper$Tape", "PackageKeeper$Reader", "PackageKeeper$Index", "PackageKeeper$Demands", "PackageKeeper$Solver", "PackageKeeper$History", "PackageKeeper$Generation", "PackageKeeper$Version", "PackageKeeper$Release", "PackageKeeper$Range", "PackageKeeper$Test", "PackageKeeperModel", "PackageKeeperModel$Generation", "PackageKeeperModel$Release", "PackageKeeperModel$Version", "PackageKeeperModel$Range", "java/lang/String", "PackageKeeperLaw", "java/lang/Integer", "java/lang/Long"]
def tb_cn (k : Nat) : String := tb_cns.getD k ""
def tb_T0 : u_T := fun k => match k with
  | 0 => ("PackageKeeper", "tape", "LPackageKeeper$Tape;", true)
  | 1 => ("PackageKeeper", "reader", "LPackageKeeper$Reader;", true)
  | 2 => ("PackageKeeper", "index", "LPackageKeeper$Index;", true)
  | 3 => ("PackageKeeper", "roots", "LPackageKeeper$Demands;", true)
  | 4 => ("PackageKeeper", "solver", "LPackageKeeper$Solver;", true)
  | _ => ("PackageKeeper", "history", "LPackageKeeper$History;", true)
def tb_T1 : u_T := fun k => match k with
  | 0 => ("PackageKeeper$Tape", "bytes", "[C", true)
  | _ => ("PackageKeeper$Tape", "size", "I", false)
def tb_T2 : u_T := fun k => match k with
  | 0 => ("PackageKeeper$Reader", "tape", "LPackageKeeper$Tape;", true)
  | 1 => ("PackageKeeper$Reader", "first", "I", false)
  | 2 => ("PackageKeeper$Reader", "behind", "I", false)
  | _ => ("PackageKeeper$Reader", "at", "I", false)
def tb_T3 : u_T := fun k => match k with
  | 0 => ("PackageKeeper$Index", "rows", "[LPackageKeeper$Release;", true)
  | 1 => ("PackageKeeper$Index", "size", "I", false)
  | _ => ("PackageKeeper$Index", "nextNumber", "I", false)
def tb_T4 : u_T := fun k => match k with
  | 0 => ("PackageKeeper$Demands", "names", "[J", true)
  | 1 => ("PackageKeeper$Demands", "ranges", "[LPackageKeeper$Range;", true)
  | _ => ("PackageKeeper$Demands", "size", "I", false)
def tb_T5 : u_T := fun k => match k with
  | 0 => ("PackageKeeper$Solver", "index", "LPackageKeeper$Index;", true)
  | 1 => ("PackageKeeper$Solver", "roots", "LPackageKeeper$Demands;", true)
  | 2 => ("PackageKeeper$Solver", "members", "[I", true)
  | 3 => ("PackageKeeper$Solver", "groupNames", "[J", true)
  | 4 => ("PackageKeeper$Solver", "groups", "I", false)
  | 5 => ("PackageKeeper$Solver", "rivals", "[I", true)
  | 6 => ("PackageKeeper$Solver", "needed", "[I", true)
  | 7 => ("PackageKeeper$Solver", "rootGroups", "I", false)
  | 8 => ("PackageKeeper$Solver", "open", "I", false)
  | 9 => ("PackageKeeper$Solver", "rootsAreListed", "Z", false)
  | 10 => ("PackageKeeper$Solver", "isLearnt", "Z", false)
  | 11 => ("PackageKeeper$Solver", "isSolved", "Z", false)
  | _ => ("PackageKeeper$Solver", "found", "I", false)
def tb_T6 : u_T := fun k => match k with
  | 0 => ("PackageKeeper$History", "kept", "[LPackageKeeper$Generation;", true)
  | 1 => ("PackageKeeper$History", "size", "I", false)
  | 2 => ("PackageKeeper$History", "made", "I", false)
  | 3 => ("PackageKeeper$History", "stepNumbers", "[I", true)
  | 4 => ("PackageKeeper$History", "stepComings", "[I", true)
  | _ => ("PackageKeeper$History", "stepCount", "I", false)
def tb_T7 : u_T := fun k => match k with
  | 0 => ("PackageKeeper$Generation", "order", "[LPackageKeeper$Release;", true)
  | 1 => ("PackageKeeper$Generation", "circles", "[I", true)
  | _ => ("PackageKeeper$Generation", "size", "I", true)
def tb_T8 : u_T := fun k => match k with
  | _ => ("PackageKeeper$Version", "keys", "[J", true)
def tb_T9 : u_T := fun k => match k with
  | 0 => ("PackageKeeper$Release", "number", "I", true)
  | 1 => ("PackageKeeper$Release", "name", "J", true)
  | 2 => ("PackageKeeper$Release", "version", "LPackageKeeper$Version;", true)
  | 3 => ("PackageKeeper$Release", "needs", "LPackageKeeper$Demands;", true)
  | 4 => ("PackageKeeper$Release", "breaks", "LPackageKeeper$Demands;", true)
  | 5 => ("PackageKeeper$Release", "paths", "[J", true)
  | _ => ("PackageKeeper$Release", "pathCount", "I", false)
def tb_T10 : u_T := fun k => match k with
  | 0 => ("PackageKeeper$Range", "tests", "[LPackageKeeper$Test;", true)
  | 1 => ("PackageKeeper$Range", "sizes", "[I", true)
  | _ => ("PackageKeeper$Range", "choices", "I", false)
def tb_T11 : u_T := fun k => match k with
  | 0 => ("PackageKeeper$Test", "low", "LPackageKeeper$Version;", true)
  | 1 => ("PackageKeeper$Test", "withLow", "Z", true)
  | 2 => ("PackageKeeper$Test", "high", "LPackageKeeper$Version;", true)
  | _ => ("PackageKeeper$Test", "withHigh", "Z", true)
def tb_T12 : u_T := fun k => match k with
  | 0 => ("PackageKeeperModel", "tape", "[C", true)
  | 1 => ("PackageKeeperModel", "tapeLength", "I", false)
  | 2 => ("PackageKeeperModel", "word", "[Ljava/lang/String;", true)
  | 3 => ("PackageKeeperModel", "words", "I", false)
  | 4 => ("PackageKeeperModel", "at", "I", false)
  | 5 => ("PackageKeeperModel", "index", "[LPackageKeeperModel$Release;", true)
  | 6 => ("PackageKeeperModel", "count", "I", false)
  | 7 => ("PackageKeeperModel", "made", "I", false)
  | 8 => ("PackageKeeperModel", "rootName", "[Ljava/lang/String;", true)
  | 9 => ("PackageKeeperModel", "rootRange", "[LPackageKeeperModel$Range;", true)
  | 10 => ("PackageKeeperModel", "roots", "I", false)
  | 11 => ("PackageKeeperModel", "kept", "[LPackageKeeperModel$Generation;", true)
  | 12 => ("PackageKeeperModel", "keptCount", "I", false)
  | 13 => ("PackageKeeperModel", "generations", "I", false)
  | 14 => ("PackageKeeperModel", "step", "[LPackageKeeperModel$Release;", true)
  | 15 => ("PackageKeeperModel", "comes", "[Z", true)
  | 16 => ("PackageKeeperModel", "steps", "I", false)
  | 17 => ("PackageKeeperModel", "names", "[Ljava/lang/String;", true)
  | 18 => ("PackageKeeperModel", "nameCount", "I", false)
  | 19 => ("PackageKeeperModel", "chosen", "[LPackageKeeperModel$Release;", true)
  | 20 => ("PackageKeeperModel", "best", "[LPackageKeeperModel$Release;", true)
  | 21 => ("PackageKeeperModel", "bestCount", "I", false)
  | 22 => ("PackageKeeperModel", "known", "Z", false)
  | _ => ("PackageKeeperModel", "reached", "[Z", true)
def tb_T13 : u_T := fun k => match k with
  | 0 => ("PackageKeeperModel$Generation", "release", "[LPackageKeeperModel$Release;", true)
  | 1 => ("PackageKeeperModel$Generation", "circle", "[I", true)
  | _ => ("PackageKeeperModel$Generation", "count", "I", false)
def tb_T14 : u_T := fun k => match k with
  | 0 => ("PackageKeeperModel$Release", "number", "I", false)
  | 1 => ("PackageKeeperModel$Release", "name", "Ljava/lang/String;", false)
  | 2 => ("PackageKeeperModel$Release", "version", "LPackageKeeperModel$Version;", false)
  | 3 => ("PackageKeeperModel$Release", "needs", "[Ljava/lang/String;", true)
  | 4 => ("PackageKeeperModel$Release", "needed", "[LPackageKeeperModel$Range;", true)
  | 5 => ("PackageKeeperModel$Release", "needCount", "I", false)
  | 6 => ("PackageKeeperModel$Release", "breaks", "[Ljava/lang/String;", true)
  | 7 => ("PackageKeeperModel$Release", "broken", "[LPackageKeeperModel$Range;", true)
  | 8 => ("PackageKeeperModel$Release", "breakCount", "I", false)
  | 9 => ("PackageKeeperModel$Release", "owns", "[Ljava/lang/String;", true)
  | _ => ("PackageKeeperModel$Release", "ownCount", "I", false)
def tb_T15 : u_T := fun k => match k with
  | 0 => ("PackageKeeperModel$Version", "number", "[I", true)
  | 1 => ("PackageKeeperModel$Version", "mark", "[Ljava/lang/String;", true)
  | _ => ("PackageKeeperModel$Version", "marks", "I", false)
def tb_T16 : u_T := fun k => match k with
  | 0 => ("PackageKeeperModel$Range", "sign", "[I", true)
  | 1 => ("PackageKeeperModel$Range", "version", "[LPackageKeeperModel$Version;", true)
  | 2 => ("PackageKeeperModel$Range", "tests", "[I", true)
  | _ => ("PackageKeeperModel$Range", "choices", "I", false)
def tb_T17 : u_T := fun k => match k with
  | 0 => ("java/lang/String", "value", "[B", true)
  | 1 => ("java/lang/String", "coder", "B", true)
  | 2 => ("java/lang/String", "hash", "I", false)
  | _ => ("java/lang/String", "hashIsZero", "Z", false)
def tb_cl : List vw_C := [("PackageKeeper", tb_T0, 6), ("PackageKeeper$Tape", tb_T1, 2), ("PackageKeeper$Reader", tb_T2, 4), ("PackageKeeper$Index", tb_T3, 3), ("PackageKeeper$Demands", tb_T4, 3), ("PackageKeeper$Solver", tb_T5, 13), ("PackageKeeper$History", tb_T6, 6), ("PackageKeeper$Generation", tb_T7, 3), ("PackageKeeper$Version", tb_T8, 1), ("PackageKeeper$Release", tb_T9, 7), ("PackageKeeper$Range", tb_T10, 3), ("PackageKeeper$Test", tb_T11, 4), ("PackageKeeperModel", tb_T12, 24), ("PackageKeeperModel$Generation", tb_T13, 3), ("PackageKeeperModel$Release", tb_T14, 11), ("PackageKeeperModel$Version", tb_T15, 3), ("PackageKeeperModel$Range", tb_T16, 4), ("java/lang/String", tb_T17, 4)]
def tb_nf (ci : Nat) : Nat := [6, 2, 4, 3, 3, 13, 6, 3, 1, 7, 3, 4, 24, 3, 11, 3, 4, 4].getD ci 0
def tb_fts : List (List FieldType) := [[(.object "PackageKeeper$Tape"), (.object "PackageKeeper$Reader"), (.object "PackageKeeper$Index"), (.object "PackageKeeper$Demands"), (.object "PackageKeeper$Solver"), (.object "PackageKeeper$History")], [(.array .char), .int], [(.object "PackageKeeper$Tape"), .int, .int, .int], [(.array (.object "PackageKeeper$Release")), .int, .int], [(.array .long), (.array (.object "PackageKeeper$Range")), .int], [(.object "PackageKeeper$Index"), (.object "PackageKeeper$Demands"), (.array .int), (.array .long), .int, (.array .int), (.array .int), .int, .int, .boolean, .boolean, .boolean, .int], [(.array (.object "PackageKeeper$Generation")), .int, .int, (.array .int), (.array .int), .int], [(.array (.object "PackageKeeper$Release")), (.array .int), .int], [(.array .long)], [.int, .long, (.object "PackageKeeper$Version"), (.object "PackageKeeper$Demands"), (.object "PackageKeeper$Demands"), (.array .long), .int], [(.array (.object "PackageKeeper$Test")), (.array .int), .int], [(.object "PackageKeeper$Version"), .boolean, (.object "PackageKeeper$Version"), .boolean], [(.array .char), .int, (.array (.object "java/lang/String")), .int, .int, (.array (.object "PackageKeeperModel$Release")), .int, .int, (.array (.object "java/lang/String")), (.array (.object "PackageKeeperModel$Range")), .int, (.array (.object "PackageKeeperModel$Generation")), .int, .int, (.array (.object "PackageKeeperModel$Release")), (.array .boolean), .int, (.array (.object "java/lang/String")), .int, (.array (.object "PackageKeeperModel$Release")), (.array (.object "PackageKeeperModel$Release")), .int, .boolean, (.array .boolean)], [(.array (.object "PackageKeeperModel$Release")), (.array .int), .int], [.int, (.object "java/lang/String"), (.object "PackageKeeperModel$Version"), (.array (.object "java/lang/String")), (.array (.object "PackageKeeperModel$Range")), .int, (.array (.object "java/lang/String")), (.array (.object "PackageKeeperModel$Range")), .int, (.array (.object "java/lang/String")), .int], [(.array .int), (.array (.object "java/lang/String")), .int], [(.array .int), (.array (.object "PackageKeeperModel$Version")), (.array .int), .int], [(.array .byte), .byte, .int, .boolean]]
def tb_ft (ci k : Nat) : FieldType := (tb_fts.getD ci []).getD k .int
def tb_fis : List (List Bool) := [[true, true, true, true, true, true], [true, false], [true, false, false, false], [true, false, false], [true, true, false], [true, true, true, true, false, true, true, false, false, false, false, false, false], [true, false, false, true, true, false], [true, true, true], [true], [true, true, true, true, true, true, false], [true, true, false], [true, true, true, true], [true, false, true, false, false, true, false, false, true, true, false, true, false, false, true, true, false, true, false, true, true, false, false, true], [true, true, false], [false, false, false, true, true, false, true, true, false, true, false], [true, true, false], [true, true, true, false], [true, true, false, false]]
def tb_fi (ci k : Nat) : Bool := (tb_fis.getD ci []).getD k false
def tb_at : List FieldType := [.char, .long, .int, .byte, .boolean, (.object "PackageKeeper$Release"), (.object "PackageKeeper$Range"), (.object "PackageKeeper$Generation"), (.object "PackageKeeper$Test"), (.object "java/lang/String"), (.object "PackageKeeperModel$Release"), (.object "PackageKeeperModel$Range"), (.object "PackageKeeperModel$Generation"), (.object "PackageKeeperModel$Version")]
def tb_pa : List FieldType := [.char, .long, .int, .byte, .boolean]
def tb_ao : List String := ["PackageKeeper$Release", "PackageKeeper$Range", "PackageKeeper$Generation", "PackageKeeper$Test", "java/lang/String", "PackageKeeperModel$Release", "PackageKeeperModel$Range", "PackageKeeperModel$Generation", "PackageKeeperModel$Version"]
def tb_ki : List Int32 := [1431655765, 858993459, 252645135]
def tb_kl : List Int64 := [-1, 10, 9223372036854775807]
def tb_sx : List String := ["needs", "breaks", "owns", "*", "||", "", "<=", ">=", "<", ">", "^", "~", "="]
def tb_ys : List MethodName := [⟨"PackageKeeper", "<init>", "()V"⟩, ⟨"PackageKeeper$Tape", "<init>", "()V"⟩, ⟨"PackageKeeper$Reader", "<init>", "(LPackageKeeper$Tape;)V"⟩, ⟨"PackageKeeper$Index", "<init>", "()V"⟩, ⟨"PackageKeeper$Demands", "<init>", "(I)V"⟩, ⟨"PackageKeeper$Solver", "<init>", "(LPackageKeeper$Index;LPackageKeeper$Demands;)V"⟩, ⟨"PackageKeeper$History", "<init>", "()V"⟩, ⟨"PackageKeeper$Generation", "<init>", "([LPackageKeeper$Release;I)V"⟩, ⟨"PackageKeeper$Generation", "reachOf", "([LPackageKeeper$Release;I)[I"⟩, ⟨"PackageKeeper$Demands", "placeOf", "(J)I"⟩, ⟨"PackageKeeper", "isIn", "(II)Z"⟩, ⟨"PackageKeeper$Generation", "firstReadyCircle", "([III)I"⟩, ⟨"PackageKeeper$Generation", "circleOf", "([III)I"⟩, ⟨"PackageKeeper", "feed", "(IIIII)I"⟩, ⟨"PackageKeeper$Tape", "hasRoomFor", "(I)Z"⟩, ⟨"PackageKeeper$Tape", "addFour", "(I)V"⟩, ⟨"PackageKeeper$Tape", "size", "()I"⟩, ⟨"PackageKeeper", "end", "(I)I"⟩, ⟨"PackageKeeper$Tape", "cutTo", "(I)V"⟩, ⟨"PackageKeeper", "release", "()I"⟩, ⟨"PackageKeeper$Reader", "open", "()V"⟩, ⟨"PackageKeeper$Reader", "nextWord", "()V"⟩, ⟨"PackageKeeper$Tape", "at", "(I)C"⟩, ⟨"PackageKeeper$Index", "nextNumber", "()I"⟩, ⟨"PackageKeeper$Reader", "readRelease", "(I)LPackageKeeper$Release;"⟩, ⟨"PackageKeeper$Reader", "readName", "()J"⟩, ⟨"PackageKeeper$Reader", "isClauseWord", "()Z"⟩, ⟨"PackageKeeper$Reader", "wordIs", "(Ljava/lang/String;)Z"⟩, ⟨"java/lang/String", "length", "()I"⟩, ⟨"java/lang/String", "coder", "()B"⟩, ⟨"PackageKeeper$Reader", "packed", "(II)J"⟩, ⟨"PackageKeeper$Reader", "readVersion", "()LPackageKeeper$Version;"⟩, ⟨"PackageKeeper$Reader", "readVersionFrom", "(I)LPackageKeeper$Version;"⟩, ⟨"PackageKeeper$Reader", "takeNumber", "()J"⟩, ⟨"PackageKeeper$Reader", "isDigit", "(C)Z"⟩, ⟨"PackageKeeper$Reader", "numberAt", "(II)J"⟩, ⟨"PackageKeeper$Reader", "takes", "(C)Z"⟩, ⟨"PackageKeeper$Version", "<init>", "(JJJ)V"⟩, ⟨"PackageKeeper$Reader", "takeMark", "()J"⟩, ⟨"PackageKeeper$Reader", "isMarkByte", "(C)Z"⟩, ⟨"PackageKeeper$Version", "setMark", "(IJ)V"⟩, ⟨"PackageKeeper$Release", "<init>", "(IJLPackageKeeper$Version;)V"⟩, ⟨"PackageKeeper$Reader", "isAtEnd", "()Z"⟩, ⟨"PackageKeeper$Reader", "readRange", "()LPackageKeeper$Range;"⟩, ⟨"PackageKeeper$Range", "<init>", "()V"⟩, ⟨"PackageKeeper$Reader", "readTest", "()LPackageKeeper$Test;"⟩, ⟨"PackageKeeper$Test", "<init>", "(LPackageKeeper$Version;ZLPackageKeeper$Version;Z)V"⟩, ⟨"PackageKeeper$Version", "nextBreaking", "()LPackageKeeper$Version;"⟩, ⟨"PackageKeeper$Version", "nextMinor", "()LPackageKeeper$Version;"⟩, ⟨"PackageKeeper$Range", "add", "(LPackageKeeper$Test;)Z"⟩, ⟨"PackageKeeper$Range", "beginChoice", "()Z"⟩, ⟨"PackageKeeper$Demands", "add", "(JLPackageKeeper$Range;)Z"⟩, ⟨"PackageKeeper$Reader", "readPath", "()[J"⟩, ⟨"PackageKeeper$Release", "addPath", "([J)Z"⟩, ⟨"PackageKeeper", "finishTape", "()Z"⟩, ⟨"PackageKeeper$Index", "hasOneLike", "(LPackageKeeper$Release;)Z"⟩, ⟨"PackageKeeper$Release", "orderAgainst", "(LPackageKeeper$Release;)I"⟩, ⟨"java/lang/Long", "compare", "(JJ)I"⟩, ⟨"PackageKeeper$Version", "against", "(LPackageKeeper$Version;)I"⟩, ⟨"PackageKeeper$Index", "hasRoomFor", "(LPackageKeeper$Release;)Z"⟩, ⟨"PackageKeeper$Index", "beginsName", "(I)Z"⟩, ⟨"PackageKeeper$Index", "insert", "(LPackageKeeper$Release;)V"⟩, ⟨"PackageKeeper$Solver", "forget", "()V"⟩, ⟨"PackageKeeper", "drop", "(I)I"⟩, ⟨"PackageKeeper$Index", "placeOf", "(I)I"⟩, ⟨"PackageKeeper$Index", "remove", "(I)V"⟩, ⟨"PackageKeeper$Index", "size", "()I"⟩, ⟨"PackageKeeper", "want", "()I"⟩, ⟨"PackageKeeper$Demands", "put", "(JLPackageKeeper$Range;)Z"⟩, ⟨"PackageKeeper$Demands", "size", "()I"⟩, ⟨"PackageKeeper", "unwant", "()I"⟩, ⟨"PackageKeeper$Demands", "remove", "(I)V"⟩, ⟨"PackageKeeper", "install", "(II)I"⟩, ⟨"PackageKeeper$Solver", "learn", "()V"⟩, ⟨"PackageKeeper$Solver", "learnGroups", "()V"⟩, ⟨"PackageKeeper$Index", "at", "(I)LPackageKeeper$Release;"⟩, ⟨"PackageKeeper$Solver", "learnNeeds", "(I)V"⟩, ⟨"PackageKeeper$Demands", "nameAt", "(I)J"⟩, ⟨"PackageKeeper$Solver", "groupOf", "(J)I"⟩, ⟨"PackageKeeper$Demands", "rangeAt", "(I)LPackageKeeper$Range;"⟩, ⟨"PackageKeeper$Solver", "inRange", "(ILPackageKeeper$Range;)I"⟩, ⟨"PackageKeeper$Range", "has", "(LPackageKeeper$Version;)Z"⟩, ⟨"PackageKeeper$Test", "holdsFor", "(LPackageKeeper$Version;)Z"⟩, ⟨"PackageKeeper$Solver", "addRivals", "(II)V"⟩, ⟨"PackageKeeper$Solver", "learnBreaks", "(I)V"⟩, ⟨"PackageKeeper$Solver", "learnRoots", "()V"⟩, ⟨"PackageKeeper$Solver", "choose", "(III)Z"⟩, ⟨"PackageKeeper$Solver", "settled", "(I)I"⟩, ⟨"PackageKeeper$Solver", "withNeedsMet", "(I)I"⟩, ⟨"PackageKeeper$Solver", "canMeetNeeds", "(II)Z"⟩, ⟨"PackageKeeper$Solver", "reached", "(I)I"⟩, ⟨"PackageKeeper$Solver", "membersOf", "(I)I"⟩, ⟨"PackageKeeper$Solver", "meetsRoots", "(I)Z"⟩, ⟨"PackageKeeper$History", "top", "()LPackageKeeper$Generation;"⟩, ⟨"PackageKeeper", "isStillValid", "(LPackageKeeper$Generation;)Z"⟩, ⟨"PackageKeeper$Generation", "size", "()I"⟩, ⟨"PackageKeeper$Generation", "at", "(I)LPackageKeeper$Release;"⟩, ⟨"PackageKeeper$Solver", "isValid", "(I)Z"⟩, ⟨"PackageKeeper", "bestGeneration", "()LPackageKeeper$Generation;"⟩, ⟨"PackageKeeper$Solver", "hasSolution", "()Z"⟩, ⟨"PackageKeeper$Solver", "solution", "()I"⟩, ⟨"PackageKeeper$Generation", "hasSharedPath", "()Z"⟩, ⟨"PackageKeeper$Release", "sharesPathWith", "(LPackageKeeper$Release;)Z"⟩, ⟨"PackageKeeper$Release", "owns", "([JI)Z"⟩, ⟨"PackageKeeper$History", "put", "(LPackageKeeper$Generation;)V"⟩, ⟨"PackageKeeper$History", "setSteps", "(LPackageKeeper$Generation;LPackageKeeper$Generation;)V"⟩, ⟨"PackageKeeper$Generation", "has", "(I)Z"⟩, ⟨"PackageKeeper$History", "addStep", "(II)V"⟩, ⟨"PackageKeeper", "rollback", "(I)I"⟩, ⟨"PackageKeeper$History", "hasEarlier", "()Z"⟩, ⟨"PackageKeeper$History", "takeBack", "()V"⟩, ⟨"PackageKeeper", "best", "(I)I"⟩, ⟨"java/lang/Integer", "bitCount", "(I)I"⟩, ⟨"PackageKeeper", "current", "(II)I"⟩, ⟨"PackageKeeper$Generation", "circleAt", "(I)I"⟩, ⟨"PackageKeeper", "step", "(II)I"⟩, ⟨"PackageKeeper$History", "stepCount", "()I"⟩, ⟨"PackageKeeper$History", "stepNumber", "(I)I"⟩, ⟨"PackageKeeper$History", "stepComing", "(I)I"⟩, ⟨"PackageKeeper", "owner", "()I"⟩, ⟨"PackageKeeper", "compare", "()I"⟩, ⟨"PackageKeeper", "match", "()I"⟩, ⟨"PackageKeeper", "count", "(I)I"⟩, ⟨"PackageKeeper$History", "size", "()I"⟩, ⟨"PackageKeeper$History", "made", "()I"⟩, ⟨"PackageKeeperModel", "<init>", "()V"⟩, ⟨"PackageKeeperModel$Generation", "<init>", "()V"⟩, ⟨"PackageKeeperModel", "feed", "(IIIII)I"⟩, ⟨"PackageKeeperModel", "put", "(I)V"⟩, ⟨"PackageKeeperModel", "end", "(I)I"⟩, ⟨"PackageKeeperModel", "release", "()I"⟩, ⟨"PackageKeeperModel", "readRelease", "()LPackageKeeperModel$Release;"⟩, ⟨"PackageKeeperModel", "readWords", "()V"⟩, ⟨"PackageKeeperModel$Release", "<init>", "()V"⟩, ⟨"PackageKeeperModel", "isName", "(Ljava/lang/String;)Z"⟩, ⟨"PackageKeeperModel", "version", "(Ljava/lang/String;I)LPackageKeeperModel$Version;"⟩, ⟨"PackageKeeperModel$Version", "<init>", "()V"⟩, ⟨"PackageKeeperModel", "digit", "(C)Z"⟩, ⟨"PackageKeeperModel", "number", "(Ljava/lang/String;I)I"⟩, ⟨"PackageKeeperModel", "digits", "(Ljava/lang/String;)Z"⟩, ⟨"PackageKeeperModel", "letter", "(C)Z"⟩, ⟨"PackageKeeperModel", "here", "()Ljava/lang/String;"⟩, ⟨"PackageKeeperModel", "isPath", "(Ljava/lang/String;)Z"⟩, ⟨"PackageKeeperModel", "range", "()LPackageKeeperModel$Range;"⟩, ⟨"PackageKeeperModel$Range", "<init>", "()V"⟩, ⟨"PackageKeeperModel", "ends", "()Z"⟩, ⟨"PackageKeeperModel", "sign", "(Ljava/lang/String;)I"⟩, ⟨"PackageKeeperModel", "signLength", "(Ljava/lang/String;)I"⟩, ⟨"PackageKeeperModel", "order", "(LPackageKeeperModel$Version;LPackageKeeperModel$Version;)I"⟩, ⟨"PackageKeeperModel", "mark", "(Ljava/lang/String;Ljava/lang/String;)I"⟩, ⟨"PackageKeeperModel", "listNames", "()V"⟩, ⟨"PackageKeeperModel", "alphabet", "(Ljava/lang/String;Ljava/lang/String;)I"⟩, ⟨"PackageKeeperModel", "drop", "(I)I"⟩, ⟨"PackageKeeperModel", "want", "()I"⟩, ⟨"PackageKeeperModel", "rootOf", "(Ljava/lang/String;)I"⟩, ⟨"PackageKeeperModel", "unwant", "()I"⟩, ⟨"PackageKeeperModel", "best", "(I)I"⟩, ⟨"PackageKeeperModel", "find", "()V"⟩, ⟨"PackageKeeperModel", "search", "(I)Z"⟩, ⟨"PackageKeeperModel", "valid", "([LPackageKeeperModel$Release;I)Z"⟩, ⟨"PackageKeeperModel", "of", "([LPackageKeeperModel$Release;ILjava/lang/String;)LPackageKeeperModel$Release;"⟩, ⟨"PackageKeeperModel", "in", "(LPackageKeeperModel$Version;LPackageKeeperModel$Range;)Z"⟩, ⟨"PackageKeeperModel", "test", "(ILPackageKeeperModel$Version;LPackageKeeperModel$Version;)Z"⟩, ⟨"PackageKeeperModel", "below", "(LPackageKeeperModel$Version;III)Z"⟩, ⟨"PackageKeeperModel", "allReached", "([LPackageKeeperModel$Release;I)Z"⟩, ⟨"PackageKeeperModel", "hopeful", "(I)Z"⟩, ⟨"PackageKeeperModel", "newest", "(Ljava/lang/String;LPackageKeeperModel$Release;)LPackageKeeperModel$Release;"⟩, ⟨"PackageKeeperModel", "install", "(II)I"⟩, ⟨"PackageKeeperModel", "current", "()LPackageKeeperModel$Generation;"⟩, ⟨"PackageKeeperModel", "inIndex", "(LPackageKeeperModel$Release;)Z"⟩, ⟨"PackageKeeperModel", "clash", "([LPackageKeeperModel$Release;I)Z"⟩, ⟨"PackageKeeperModel", "arranged", "([LPackageKeeperModel$Release;I)LPackageKeeperModel$Generation;"⟩, ⟨"PackageKeeperModel", "needs", "(LPackageKeeperModel$Release;LPackageKeeperModel$Release;)Z"⟩, ⟨"PackageKeeperModel", "walk", "(LPackageKeeperModel$Generation;LPackageKeeperModel$Generation;)V"⟩, ⟨"PackageKeeperModel$Generation", "has", "(LPackageKeeperModel$Release;)Z"⟩, ⟨"PackageKeeperModel", "rollback", "(I)I"⟩, ⟨"PackageKeeperModel", "current", "(II)I"⟩, ⟨"PackageKeeperModel", "step", "(II)I"⟩, ⟨"PackageKeeperModel", "owner", "()I"⟩, ⟨"PackageKeeperModel", "compare", "()I"⟩, ⟨"PackageKeeperModel", "match", "()I"⟩, ⟨"PackageKeeperModel", "count", "(I)I"⟩, ⟨"PackageKeeperLaw", "law", "([I)Z"⟩]
def tb_y (M : Nat) : MethodName := tb_ys.getD M ⟨"", "", ""⟩
def tb_codes : List ByteArray := [prog_1_method_1_code, prog_10_method_1_code, prog_7_method_1_code, prog_5_method_1_code, prog_2_method_1_code, prog_9_method_1_code, prog_4_method_1_code, prog_3_method_1_code, prog_3_method_7_code, prog_2_method_5_code, prog_1_method_20_code, prog_3_method_8_code, prog_3_method_9_code, prog_1_method_2_code, prog_10_method_4_code, prog_10_method_5_code, prog_10_method_2_code, prog_1_method_3_code, prog_10_method_6_code, prog_1_method_4_code, prog_7_method_2_code, prog_7_method_16_code, prog_10_method_3_code, prog_5_method_3_code, prog_7_method_8_code, prog_7_method_4_code, prog_7_method_17_code, prog_7_method_18_code, prog_23_method_54_code, prog_23_method_152_code, prog_7_method_15_code, prog_7_method_5_code, prog_7_method_10_code, prog_7_method_12_code, prog_7_method_19_code, prog_7_method_14_code, prog_7_method_11_code, prog_12_method_1_code, prog_7_method_13_code, prog_7_method_20_code, prog_12_method_2_code, prog_8_method_1_code, prog_7_method_3_code, prog_7_method_6_code, prog_6_method_1_code, prog_7_method_9_code, prog_11_method_1_code, prog_12_method_4_code, prog_12_method_5_code, prog_6_method_3_code, prog_6_method_2_code, prog_2_method_6_code, prog_7_method_7_code, prog_8_method_2_code, prog_1_method_17_code, prog_5_method_6_code, prog_8_method_5_code, prog_21_method_42_code, prog_12_method_3_code, prog_5_method_7_code, prog_5_method_8_code, prog_5_method_9_code, prog_9_method_2_code, prog_1_method_5_code, prog_5_method_5_code, prog_5_method_10_code, prog_5_method_2_code, prog_1_method_6_code, prog_2_method_7_code, prog_2_method_2_code, prog_1_method_7_code, prog_2_method_8_code, prog_1_method_8_code, prog_9_method_6_code, prog_9_method_7_code, prog_5_method_4_code, prog_9_method_9_code, prog_2_method_3_code, prog_9_method_8_code, prog_2_method_4_code, prog_9_method_12_code, prog_6_method_4_code, prog_11_method_2_code, prog_9_method_13_code, prog_9_method_10_code, prog_9_method_11_code, prog_9_method_14_code, prog_9_method_15_code, prog_9_method_16_code, prog_9_method_17_code, prog_9_method_18_code, prog_9_method_19_code, prog_9_method_20_code, prog_4_method_4_code, prog_1_method_18_code, prog_3_method_2_code, prog_3_method_3_code, prog_9_method_5_code, prog_1_method_19_code, prog_9_method_3_code, prog_9_method_4_code, prog_3_method_6_code, prog_8_method_4_code, prog_8_method_3_code, prog_4_method_6_code, prog_4_method_11_code, prog_3_method_5_code, prog_4_method_12_code, prog_1_method_9_code, prog_4_method_5_code, prog_4_method_7_code, prog_1_method_10_code, prog_20_method_49_code, prog_1_method_11_code, prog_3_method_4_code, prog_1_method_12_code, prog_4_method_8_code, prog_4_method_9_code, prog_4_method_10_code, prog_1_method_13_code, prog_1_method_14_code, prog_1_method_15_code, prog_1_method_16_code, prog_4_method_2_code, prog_4_method_3_code, prog_14_method_2_code, prog_15_method_1_code, prog_14_method_4_code, prog_14_method_3_code, prog_14_method_5_code, prog_14_method_25_code, prog_14_method_24_code, prog_14_method_6_code, prog_17_method_1_code, prog_14_method_8_code, prog_14_method_14_code, prog_18_method_1_code, prog_14_method_9_code, prog_14_method_13_code, prog_14_method_12_code, prog_14_method_10_code, prog_14_method_7_code, prog_14_method_11_code, prog_14_method_20_code, prog_16_method_1_code, prog_14_method_19_code, prog_14_method_18_code, prog_14_method_17_code, prog_14_method_16_code, prog_14_method_15_code, prog_14_method_30_code, prog_14_method_1_code, prog_14_method_26_code, prog_14_method_28_code, prog_14_method_27_code, prog_14_method_29_code, prog_14_method_38_code, prog_14_method_37_code, prog_14_method_36_code, prog_14_method_32_code, prog_14_method_31_code, prog_14_method_23_code, prog_14_method_22_code, prog_14_method_21_code, prog_14_method_33_code, prog_14_method_34_code, prog_14_method_35_code, prog_14_method_45_code, prog_14_method_39_code, prog_14_method_43_code, prog_14_method_44_code, prog_14_method_41_code, prog_14_method_40_code, prog_14_method_42_code, prog_15_method_2_code, prog_14_method_46_code, prog_14_method_47_code, prog_14_method_48_code, prog_14_method_49_code, prog_14_method_50_code, prog_14_method_51_code, prog_14_method_52_code, code]
def tb_code (M : Nat) : ByteArray := tb_codes.getD M ⟨#[]⟩
def tb_max (M : Nat) : Nat := [1, 1, 2, 1, 2, 3, 1, 9, 5, 4, 2, 5, 5, 6, 2, 3, 1, 2, 2, 2, 1, 1, 2, 1, 13, 3, 1, 3, 1, 1, 6, 1, 12, 2, 1, 6, 3, 8, 3, 1, 4, 5, 1, 4, 1, 5, 5, 1, 1, 3, 1, 4, 3, 2, 2, 3, 2, 4, 3, 5, 2, 3, 1, 3, 3, 3, 1, 4, 5, 1, 4, 3, 4, 2, 2, 2, 5, 2, 4, 2, 5, 5, 4, 4, 5, 3, 6, 5, 4, 5, 7, 4, 3, 1, 5, 1, 2, 3, 5, 1, 1, 3, 3, 6, 3, 4, 3, 3, 2, 1, 1, 5, 1, 4, 2, 3, 1, 2, 2, 4, 3, 3, 2, 1, 1, 1, 1, 6, 3, 2, 4, 6, 3, 1, 2, 6, 1, 1, 4, 2, 1, 1, 3, 5, 1, 1, 1, 1, 4, 5, 5, 3, 5, 4, 3, 3, 2, 2, 4, 7, 4, 5, 5, 4, 8, 6, 6, 9, 1, 3, 6, 11, 3, 4, 3, 3, 4, 3, 4, 3, 3, 2, 4].getD M 0
def tb_rets : List (Option FieldType) := [none, none, none, none, none, none, none, none, some (.array .int), some .int, some .boolean, some .int, some .int, some .int, some .boolean, none, some .int, some .int, none, some .int, none, none, some .char, some .int, some (.object "PackageKeeper$Release"), some .long, some .boolean, some .boolean, some .int, some .byte, some .long, some (.object "PackageKeeper$Version"), some (.object "PackageKeeper$Version"), some .long, some .boolean, some .long, some .boolean, none, some .long, some .boolean, none, none, some .boolean, some (.object "PackageKeeper$Range"), none, some (.object "PackageKeeper$Test"), none, some (.object "PackageKeeper$Version"), some (.object "PackageKeeper$Version"), some .boolean, some .boolean, some .boolean, some (.array .long), some .boolean, some .boolean, some .boolean, some .int, some .int, some .int, some .boolean, some .boolean, none, none, some .int, some .int, none, some .int, some .int, some .boolean, some .int, some .int, none, some .int, none, none, some (.object "PackageKeeper$Release"), none, some .long, some .int, some (.object "PackageKeeper$Range"), some .int, some .boolean, some .boolean, none, none, none, some .boolean, some .int, some .int, some .boolean, some .int, some .int, some .boolean, some (.object "PackageKeeper$Generation"), some .boolean, some .int, some (.object "PackageKeeper$Release"), some .boolean, some (.object "PackageKeeper$Generation"), some .boolean, some .int, some .boolean, some .boolean, some .boolean, none, none, some .boolean, none, some .int, some .boolean, none, some .int, some .int, some .int, some .int, some .int, some .int, some .int, some .int, some .int, some .int, some .int, some .int, some .int, some .int, none, none, some .int, none, some .int, some .int, some (.object "PackageKeeperModel$Release"), none, none, some .boolean, some (.object "PackageKeeperModel$Version"), none, some .boolean, some .int, some .boolean, some .boolean, some (.object "java/lang/String"), some .boolean, some (.object "PackageKeeperModel$Range"), none, some .boolean, some .int, some .int, some .int, some .int, none, some .int, some .int, some .int, some .int, some .int, some .int, none, some .boolean, some .boolean, some (.object "PackageKeeperModel$Release"), some .boolean, some .boolean, some .boolean, some .boolean, some .boolean, some (.object "PackageKeeperModel$Release"), some .int, some (.object "PackageKeeperModel$Generation"), some .boolean, some .boolean, some (.object "PackageKeeperModel$Generation"), some .boolean, none, some .boolean, some .int, some .int, some .int, some .int, some .int, some .int, some .int, some .boolean]
def tb_ret (M : Nat) : Option FieldType := tb_rets.getD M none
def tb_st (M : Nat) : Bool := [false, false, false, false, false, false, false, false, true, false, true, true, true, false, false, false, false, false, false, false, false, false, false, false, false, false, false, false, false, false, false, false, false, false, true, false, false, false, false, true, false, false, false, false, false, false, false, false, false, false, false, false, false, false, false, false, false, true, false, false, false, false, false, false, false, false, false, false, false, false, false, false, false, false, false, false, false, false, false, false, false, false, false, false, false, false, false, false, false, false, false, false, false, false, false, false, false, false, false, false, false, false, false, false, false, false, false, false, false, false, false, false, true, false, false, false, false, false, false, false, false, false, false, false, false, false, false, false, false, false, false, false, false, false, true, true, false, true, true, true, true, false, true, false, false, false, true, true, true, true, false, true, false, false, false, false, false, false, false, false, true, true, true, true, false, false, false, false, false, false, true, false, true, false, false, false, false, false, false, false, false, false, true].getD M false
def tb_np (M : Nat) : Nat := [0, 0, 1, 0, 1, 2, 0, 2, 2, 1, 2, 3, 3, 5, 1, 1, 0, 1, 1, 0, 0, 0, 1, 0, 1, 0, 0, 1, 0, 0, 2, 0, 1, 0, 1, 2, 1, 3, 0, 1, 2, 3, 0, 0, 0, 0, 4, 0, 0, 1, 0, 2, 0, 1, 0, 1, 1, 2, 1, 1, 1, 1, 0, 1, 1, 1, 0, 0, 2, 0, 0, 1, 2, 0, 0, 1, 1, 1, 1, 1, 2, 1, 1, 2, 1, 0, 3, 1, 1, 2, 1, 1, 1, 0, 1, 0, 1, 1, 0, 0, 0, 0, 1, 2, 1, 2, 1, 2, 1, 0, 0, 1, 1, 2, 1, 2, 0, 1, 1, 0, 0, 0, 1, 0, 0, 0, 0, 5, 1, 1, 0, 0, 0, 0, 1, 2, 0, 1, 2, 1, 1, 0, 1, 0, 0, 0, 1, 1, 2, 2, 0, 2, 1, 0, 1, 0, 1, 0, 1, 2, 3, 2, 3, 4, 2, 1, 2, 2, 0, 1, 2, 2, 2, 2, 1, 1, 2, 2, 0, 0, 0, 1, 1].getD M 0
def tb_oc (M : Nat) : Nat := [0, 1, 2, 3, 4, 5, 6, 7, 7, 4, 0, 7, 7, 0, 1, 1, 1, 0, 1, 0, 2, 2, 1, 3, 2, 2, 2, 2, 17, 17, 2, 2, 2, 2, 2, 2, 2, 8, 2, 2, 8, 9, 2, 2, 10, 2, 11, 8, 8, 10, 10, 4, 2, 9, 0, 3, 9, 20, 8, 3, 3, 3, 5, 0, 3, 3, 3, 0, 4, 4, 0, 4, 0, 5, 5, 3, 5, 4, 5, 4, 5, 10, 11, 5, 5, 5, 5, 5, 5, 5, 5, 5, 5, 6, 0, 7, 7, 5, 0, 5, 5, 7, 9, 9, 6, 6, 7, 6, 0, 6, 6, 0, 19, 0, 7, 0, 6, 6, 6, 0, 0, 0, 0, 6, 6, 12, 13, 12, 12, 12, 12, 12, 12, 14, 12, 12, 15, 12, 12, 12, 12, 12, 12, 12, 16, 12, 12, 12, 12, 12, 12, 12, 12, 12, 12, 12, 12, 12, 12, 12, 12, 12, 12, 12, 12, 12, 12, 12, 12, 12, 12, 12, 12, 12, 13, 12, 12, 12, 12, 12, 12, 12, 18].getD M 0
def tb_nc : Nat := 182
def tb_nm : Nat := 183
def il_0 : List (Nat × Instr × Nat) := [(0, .aload_n 0, 0), (1, .invokespecial 1, 9999), (4, .aload_n 0, 0), (5, .new 7, 1), (8, .dup, 0), (9, .invokespecial 9, 1), (12, .putfield 10, 0), (15, .aload_n 0, 0), (16, .new 16, 2), (19, .dup, 0), (20, .aload_n 0, 0), (21, .getfield 10, 0), (24, .invokespecial 18, 2), (27, .putfield 21, 1), (30, .aload_n 0, 0), (31, .new 25, 3), (34, .dup, 0), (35, .invokespecial 27, 3), (38, .putfield 28, 2), (41, .aload_n 0, 0), (42, .new 32, 4), (45, .dup, 0), (46, .bipush 6, 0), (48, .invokespecial 34, 4), (51, .putfield 37, 3), (54, .aload_n 0, 0), (55, .new 41, 5), (58, .dup, 0), (59, .aload_n 0, 0), (60, .getfield 28, 2), (63, .aload_n 0, 0), (64, .getfield 37, 3), (67, .invokespecial 43, 5), (70, .putfield 46, 4), (73, .aload_n 0, 0), (74, .new 50, 6), (77, .dup, 0), (78, .invokespecial 52, 6), (81, .putfield 53, 5), (84, .return_, 0)]
def il_1 : List (Nat × Instr × Nat) := [(0, .aload_n 0, 0), (1, .invokespecial 1, 9999), (4, .aload_n 0, 0), (5, .sipush 400, 0), (8, .newarray .char, 0), (10, .putfield 9, 64), (13, .return_, 0)]
def il_2 : List (Nat × Instr × Nat) := [(0, .aload_n 0, 0), (1, .invokespecial 1, 9999), (4, .aload_n 0, 0), (5, .aload_n 1, 0), (6, .putfield 7, 128), (9, .return_, 0)]
def il_3 : List (Nat × Instr × Nat) := [(0, .aload_n 0, 0), (1, .invokespecial 1, 9999), (4, .aload_n 0, 0), (5, .bipush 32, 0), (7, .anewarray 9, 5), (10, .putfield 11, 192), (13, .return_, 0)]
def il_4 : List (Nat × Instr × Nat) := [(0, .aload_n 0, 0), (1, .invokespecial 1, 9999), (4, .aload_n 0, 0), (5, .iload_n 1, 0), (6, .newarray .long, 1), (8, .putfield 7, 256), (11, .aload_n 0, 0), (12, .iload_n 1, 0), (13, .anewarray 13, 6), (16, .putfield 15, 257), (19, .return_, 0)]
def il_5 : List (Nat × Instr × Nat) := [(0, .aload_n 0, 0), (1, .invokespecial 1, 9999), (4, .aload_n 0, 0), (5, .bipush 8, 0), (7, .newarray .int, 2), (9, .putfield 9, 322), (12, .aload_n 0, 0), (13, .bipush 8, 0), (15, .newarray .long, 1), (17, .putfield 15, 323), (20, .aload_n 0, 0), (21, .bipush 32, 0), (23, .newarray .int, 2), (25, .putfield 19, 325), (28, .aload_n 0, 0), (29, .bipush 32, 0), (31, .newarray .int, 2), (33, .putfield 22, 326), (36, .aload_n 0, 0), (37, .aload_n 1, 0), (38, .putfield 25, 320), (41, .aload_n 0, 0), (42, .aload_n 2, 0), (43, .putfield 29, 321), (46, .return_, 0)]
def il_6 : List (Nat × Instr × Nat) := [(0, .aload_n 0, 0), (1, .invokespecial 3, 9999), (4, .aload_n 0, 0), (5, .iconst 4, 0), (6, .anewarray 11, 7), (9, .putfield 13, 384), (12, .aload_n 0, 0), (13, .bipush 16, 0), (15, .newarray .int, 2), (17, .putfield 17, 387), (20, .aload_n 0, 0), (21, .bipush 16, 0), (23, .newarray .int, 2), (25, .putfield 21, 388), (28, .aload_n 0, 0), (29, .getfield 13, 384), (32, .iconst 0, 0), (33, .new 11, 7), (36, .dup, 0), (37, .iconst 0, 0), (38, .anewarray 24, 5), (41, .iconst 0, 0), (42, .invokespecial 26, 7), (45, .aastore, 0), (46, .aload_n 0, 0), (47, .iconst 1, 0), (48, .putfield 29, 385), (51, .return_, 0)]
def il_7 : List (Nat × Instr × Nat) := [(0, .aload_n 0, 0), (1, .invokespecial 1, 9999), (4, .aload_n 0, 0), (5, .iload_n 2, 0), (6, .putfield 7, 450), (9, .aload_n 0, 0), (10, .iload_n 2, 0), (11, .anewarray 13, 5), (14, .putfield 15, 448), (17, .aload_n 0, 0), (18, .iload_n 2, 0), (19, .newarray .int, 2), (21, .putfield 19, 449), (24, .aload_n 1, 0), (25, .iload_n 2, 0), (26, .invokestatic 23, 8), (29, .astore_n 3, 0), (30, .iconst 0, 0), (31, .istore 4, 0), (33, .iconst 0, 0), (34, .istore 5, 0), (36, .iconst 0, 0), (37, .istore 6, 0), (39, .iload 6, 0), (41, .iload_n 2, 0), (42, .if_icmp .ge 79, 121), (45, .iload 5, 0), (47, .iload_n 2, 0), (48, .if_icmp .ge 73, 121), (51, .aload_n 3, 0), (52, .iload_n 2, 0), (53, .iload 4, 0), (55, .invokestatic 27, 11), (58, .istore 7, 0), (60, .iconst 0, 0), (61, .istore 8, 0), (63, .iload 8, 0), (65, .iload_n 2, 0), (66, .if_icmp .ge 42, 108), (69, .iload 7, 0), (71, .iload 8, 0), (73, .invokestatic 31, 10), (76, .ifCond .eq 26, 102), (79, .aload_n 0, 0), (80, .getfield 15, 448), (83, .iload 5, 0), (85, .aload_n 1, 0), (86, .iload 8, 0), (88, .aaload, 0), (89, .aastore, 0), (90, .aload_n 0, 0), (91, .getfield 19, 449), (94, .iload 5, 0), (96, .iload 6, 0), (98, .iastore, 0), (99, .iinc 5 1, 0), (102, .iinc 8 1, 0), (105, .goto (-42), 63), (108, .iload 4, 0), (110, .iload 7, 0), (112, .ior, 0), (113, .istore 4, 0), (115, .iinc 6 1, 0), (118, .goto (-79), 39), (121, .return_, 0)]
def il_8 : List (Nat × Instr × Nat) := [(0, .iload_n 1, 0), (1, .newarray .int, 2), (3, .astore_n 2, 0), (4, .iconst 0, 0), (5, .istore_n 3, 0), (6, .iload_n 3, 0), (7, .iload_n 1, 0), (8, .if_icmp .ge 53, 61), (11, .iconst 0, 0), (12, .istore 4, 0), (14, .iload 4, 0), (16, .iload_n 1, 0), (17, .if_icmp .ge 38, 55), (20, .aload_n 0, 0), (21, .iload_n 3, 0), (22, .aaload, 0), (23, .getfield 44, 579), (26, .aload_n 0, 0), (27, .iload 4, 0), (29, .aaload, 0), (30, .getfield 48, 577), (33, .invokevirtual 52, 9), (36, .ifCond .lt 13, 49), (39, .aload_n 2, 0), (40, .iload_n 3, 0), (41, .dup2, 0), (42, .iaload, 0), (43, .iconst 1, 0), (44, .iload 4, 0), (46, .ishl, 0), (47, .ior, 0), (48, .iastore, 0), (49, .iinc 4 1, 0), (52, .goto (-38), 14), (55, .iinc 3 1, 0), (58, .goto (-52), 6), (61, .iconst 0, 0), (62, .istore_n 3, 0), (63, .iload_n 3, 0), (64, .iload_n 1, 0), (65, .if_icmp .ge 45, 110), (68, .iconst 0, 0), (69, .istore 4, 0), (71, .iload 4, 0), (73, .iload_n 1, 0), (74, .if_icmp .ge 30, 104), (77, .aload_n 2, 0), (78, .iload 4, 0), (80, .iaload, 0), (81, .iload_n 3, 0), (82, .invokestatic 31, 10), (85, .ifCond .eq 13, 98), (88, .aload_n 2, 0), (89, .iload 4, 0), (91, .dup2, 0), (92, .iaload, 0), (93, .aload_n 2, 0), (94, .iload_n 3, 0), (95, .iaload, 0), (96, .ior, 0), (97, .iastore, 0), (98, .iinc 4 1, 0), (101, .goto (-30), 71), (104, .iinc 3 1, 0), (107, .goto (-44), 63), (110, .aload_n 2, 0), (111, .areturn, 0)]
def il_9 : List (Nat × Instr × Nat) := [(0, .iconst 0, 0), (1, .istore_n 3, 0), (2, .iload_n 3, 0), (3, .aload_n 0, 0), (4, .getfield 19, 258), (7, .if_icmp .ge 22, 29), (10, .aload_n 0, 0), (11, .getfield 7, 256), (14, .iload_n 3, 0), (15, .laload, 0), (16, .lload_n 1, 0), (17, .lcmp, 0), (18, .ifCond .ne 5, 23), (21, .iload_n 3, 0), (22, .ireturn, 0), (23, .iinc 3 1, 0), (26, .goto (-24), 2), (29, .iconst (-1), 0), (30, .ireturn, 0)]
def il_10 : List (Nat × Instr × Nat) := [(0, .iload_n 0, 0), (1, .iload_n 1, 0), (2, .iushr, 0), (3, .iconst 1, 0), (4, .iand, 0), (5, .ifCond .eq 7, 12), (8, .iconst 1, 0), (9, .goto 4, 13), (12, .iconst 0, 0), (13, .ireturn, 0)]
def il_11 : List (Nat × Instr × Nat) := [(0, .iconst 0, 0), (1, .istore_n 3, 0), (2, .iload_n 3, 0), (3, .iload_n 1, 0), (4, .if_icmp .ge 43, 47), (7, .aload_n 0, 0), (8, .iload_n 1, 0), (9, .iload_n 3, 0), (10, .invokestatic 58, 12), (13, .istore 4, 0), (15, .iload_n 2, 0), (16, .iload_n 3, 0), (17, .invokestatic 31, 10), (20, .ifCond .ne 21, 41), (23, .aload_n 0, 0), (24, .iload_n 3, 0), (25, .iaload, 0), (26, .iload_n 2, 0), (27, .iconst (-1), 0), (28, .ixor, 0), (29, .iand, 0), (30, .iload 4, 0), (32, .iconst (-1), 0), (33, .ixor, 0), (34, .iand, 0), (35, .ifCond .ne 6, 41), (38, .iload 4, 0), (40, .ireturn, 0), (41, .iinc 3 1, 0), (44, .goto (-42), 2), (47, .iconst 0, 0), (48, .ireturn, 0)]
def il_12 : List (Nat × Instr × Nat) := [(0, .iconst 1, 0), (1, .iload_n 2, 0), (2, .ishl, 0), (3, .istore_n 3, 0), (4, .iconst 0, 0), (5, .istore 4, 0), (7, .iload 4, 0), (9, .iload_n 1, 0), (10, .if_icmp .ge 38, 48), (13, .aload_n 0, 0), (14, .iload_n 2, 0), (15, .iaload, 0), (16, .iload 4, 0), (18, .invokestatic 31, 10), (21, .ifCond .eq 21, 42), (24, .aload_n 0, 0), (25, .iload 4, 0), (27, .iaload, 0), (28, .iload_n 2, 0), (29, .invokestatic 31, 10), (32, .ifCond .eq 10, 42), (35, .iload_n 3, 0), (36, .iconst 1, 0), (37, .iload 4, 0), (39, .ishl, 0), (40, .ior, 0), (41, .istore_n 3, 0), (42, .iinc 4 1, 0), (45, .goto (-38), 7), (48, .iload_n 3, 0), (49, .ireturn, 0)]
def il_13 : List (Nat × Instr × Nat) := [(0, .aload_n 0, 0), (1, .getfield 10, 0), (4, .bipush 20, 0), (6, .invokevirtual 57, 14), (9, .ifCond .ne 6, 15), (12, .bipush (-3), 0), (14, .ireturn, 0), (15, .aload_n 0, 0), (16, .getfield 10, 0), (19, .iload_n 1, 0), (20, .invokevirtual 61, 15), (23, .aload_n 0, 0), (24, .getfield 10, 0), (27, .iload_n 2, 0), (28, .invokevirtual 61, 15), (31, .aload_n 0, 0), (32, .getfield 10, 0), (35, .iload_n 3, 0), (36, .invokevirtual 61, 15), (39, .aload_n 0, 0), (40, .getfield 10, 0), (43, .iload 4, 0), (45, .invokevirtual 61, 15), (48, .aload_n 0, 0), (49, .getfield 10, 0), (52, .iload 5, 0), (54, .invokevirtual 61, 15), (57, .aload_n 0, 0), (58, .getfield 10, 0), (61, .invokevirtual 64, 16), (64, .ireturn, 0)]
def il_14 : List (Nat × Instr × Nat) := [(0, .aload_n 0, 0), (1, .getfield 13, 65), (4, .iload_n 1, 0), (5, .iadd, 0), (6, .sipush 400, 0), (9, .if_icmp .gt 7, 16), (12, .iconst 1, 0), (13, .goto 4, 17), (16, .iconst 0, 0), (17, .ireturn, 0)]
def il_15 : List (Nat × Instr × Nat) := [(0, .bipush 24, 0), (2, .istore_n 2, 0), (3, .iload_n 2, 0), (4, .ifCond .lt 46, 50), (7, .aload_n 0, 0), (8, .getfield 13, 65), (11, .sipush 400, 0), (14, .if_icmp .ge 36, 50), (17, .aload_n 0, 0), (18, .getfield 9, 64), (21, .aload_n 0, 0), (22, .getfield 13, 65), (25, .iload_n 1, 0), (26, .iload_n 2, 0), (27, .iushr, 0), (28, .sipush 255, 0), (31, .iand, 0), (32, .i2c, 0), (33, .castore, 0), (34, .aload_n 0, 0), (35, .dup, 0), (36, .getfield 13, 65), (39, .iconst 1, 0), (40, .iadd, 0), (41, .putfield 13, 65), (44, .iinc 2 (-8), 0), (47, .goto (-44), 3), (50, .return_, 0)]
def il_16 : List (Nat × Instr × Nat) := [(0, .aload_n 0, 0), (1, .getfield 13, 65), (4, .ireturn, 0)]
def il_17 : List (Nat × Instr × Nat) := [(0, .iload_n 1, 0), (1, .ifCond .lt 14, 15), (4, .iload_n 1, 0), (5, .aload_n 0, 0), (6, .getfield 10, 0), (9, .invokevirtual 64, 16), (12, .if_icmp .le 5, 17), (15, .iconst (-1), 0), (16, .ireturn, 0), (17, .aload_n 0, 0), (18, .getfield 10, 0), (21, .iload_n 1, 0), (22, .invokevirtual 68, 18), (25, .iload_n 1, 0), (26, .ireturn, 0)]
def il_18 : List (Nat × Instr × Nat) := [(0, .aload_n 0, 0), (1, .iload_n 1, 0), (2, .putfield 13, 65), (5, .return_, 0)]
def il_19 : List (Nat × Instr × Nat) := [(0, .aload_n 0, 0), (1, .getfield 21, 1), (4, .invokevirtual 71, 20), (7, .aload_n 0, 0), (8, .getfield 21, 1), (11, .aload_n 0, 0), (12, .getfield 28, 2), (15, .invokevirtual 74, 23), (18, .invokevirtual 77, 24), (21, .astore_n 1, 0), (22, .aload_n 0, 0), (23, .invokevirtual 81, 54), (26, .ifCond .eq 7, 33), (29, .aload_n 1, 0), (30, .ifnonnull 6, 36), (33, .bipush (-6), 0), (35, .ireturn, 0), (36, .aload_n 0, 0), (37, .getfield 28, 2), (40, .aload_n 1, 0), (41, .invokevirtual 85, 55), (44, .ifCond .eq 6, 50), (47, .bipush (-4), 0), (49, .ireturn, 0), (50, .aload_n 0, 0), (51, .getfield 28, 2), (54, .aload_n 1, 0), (55, .invokevirtual 89, 59), (58, .ifCond .ne 6, 64), (61, .bipush (-3), 0), (63, .ireturn, 0), (64, .aload_n 0, 0), (65, .getfield 28, 2), (68, .aload_n 1, 0), (69, .invokevirtual 91, 61), (72, .aload_n 0, 0), (73, .getfield 46, 4), (76, .invokevirtual 95, 62), (79, .aload_n 1, 0), (80, .getfield 98, 576), (83, .ireturn, 0)]
def il_20 : List (Nat × Instr × Nat) := [(0, .aload_n 0, 0), (1, .iconst 0, 0), (2, .putfield 13, 130), (5, .aload_n 0, 0), (6, .invokevirtual 17, 21), (9, .return_, 0)]
def il_21 : List (Nat × Instr × Nat) := [(0, .aload_n 0, 0), (1, .aload_n 0, 0), (2, .getfield 13, 130), (5, .putfield 20, 129), (8, .aload_n 0, 0), (9, .getfield 20, 129), (12, .aload_n 0, 0), (13, .getfield 7, 128), (16, .invokevirtual 152, 16), (19, .if_icmp .ge 32, 51), (22, .aload_n 0, 0), (23, .getfield 7, 128), (26, .aload_n 0, 0), (27, .getfield 20, 129), (30, .invokevirtual 27, 22), (33, .bipush 32, 0), (35, .if_icmp .ne 16, 51), (38, .aload_n 0, 0), (39, .dup, 0), (40, .getfield 20, 129), (43, .iconst 1, 0), (44, .iadd, 0), (45, .putfield 20, 129), (48, .goto (-40), 8), (51, .aload_n 0, 0), (52, .aload_n 0, 0), (53, .getfield 20, 129), (56, .putfield 13, 130), (59, .aload_n 0, 0), (60, .getfield 13, 130), (63, .aload_n 0, 0), (64, .getfield 7, 128), (67, .invokevirtual 152, 16), (70, .if_icmp .ge 32, 102), (73, .aload_n 0, 0), (74, .getfield 7, 128), (77, .aload_n 0, 0), (78, .getfield 13, 130), (81, .invokevirtual 27, 22), (84, .bipush 32, 0), (86, .if_icmp .eq 16, 102), (89, .aload_n 0, 0), (90, .dup, 0), (91, .getfield 13, 130), (94, .iconst 1, 0), (95, .iadd, 0), (96, .putfield 13, 130), (99, .goto (-40), 59), (102, .return_, 0)]
def il_22 : List (Nat × Instr × Nat) := [(0, .iload_n 1, 0), (1, .ifCond .lt 20, 21), (4, .iload_n 1, 0), (5, .aload_n 0, 0), (6, .getfield 13, 65), (9, .if_icmp .ge 12, 21), (12, .aload_n 0, 0), (13, .getfield 9, 64), (16, .iload_n 1, 0), (17, .caload, 0), (18, .goto 5, 23), (21, .bipush 32, 0), (23, .ireturn, 0)]
def il_23 : List (Nat × Instr × Nat) := [(0, .aload_n 0, 0), (1, .getfield 19, 194), (4, .ireturn, 0)]
def il_24 : List (Nat × Instr × Nat) := [(0, .aload_n 0, 0), (1, .invokevirtual 70, 25), (4, .lstore_n 2, 0), (5, .lload_n 2, 0), (6, .lconst 0, 0), (7, .lcmp, 0), (8, .ifCond .ne 7, 15), (11, .aconst_null, 0), (12, .goto 7, 19), (15, .aload_n 0, 0), (16, .invokevirtual 74, 31), (19, .astore 4, 0), (21, .aload 4, 0), (23, .ifnonnull 5, 28), (26, .aconst_null, 0), (27, .areturn, 0), (28, .new 68, 9), (31, .dup, 0), (32, .iload_n 1, 0), (33, .lload_n 2, 0), (34, .aload 4, 0), (36, .invokespecial 78, 41), (39, .astore 5, 0), (41, .iconst 1, 0), (42, .istore 6, 0), (44, .iconst 0, 0), (45, .istore 7, 0), (47, .iload 7, 0), (49, .bipush 13, 0), (51, .if_icmp .ge 149, 200), (54, .iload 6, 0), (56, .ifCond .eq 144, 200), (59, .aload_n 0, 0), (60, .invokevirtual 61, 42), (63, .ifCond .ne 137, 200), (66, .aload_n 0, 0), (67, .ldc 81, 10000), (69, .invokevirtual 54, 27), (72, .ifCond .eq 11, 83), (75, .aload 5, 0), (77, .getfield 83, 579), (80, .goto 21, 101), (83, .aload_n 0, 0), (84, .ldc 86, 10001), (86, .invokevirtual 54, 27), (89, .ifCond .eq 11, 100), (92, .aload 5, 0), (94, .getfield 88, 580), (97, .goto 4, 101), (100, .aconst_null, 0), (101, .astore 8, 0), (103, .aload_n 0, 0), (104, .ldc 90, 10002), (106, .invokevirtual 54, 27), (109, .istore 9, 0), (111, .aload_n 0, 0), (112, .invokevirtual 17, 21), (115, .aload 8, 0), (117, .ifnull 53, 170), (120, .aload_n 0, 0), (121, .invokevirtual 70, 25), (124, .lstore 10, 0), (126, .lload 10, 0), (128, .lconst 0, 0), (129, .lcmp, 0), (130, .ifCond .ne 7, 137), (133, .aconst_null, 0), (134, .goto 7, 141), (137, .aload_n 0, 0), (138, .invokevirtual 92, 43), (141, .astore 12, 0), (143, .aload 12, 0), (145, .ifnull 19, 164), (148, .aload 8, 0), (150, .lload 10, 0), (152, .aload 12, 0), (154, .invokevirtual 96, 51), (157, .ifCond .eq 7, 164), (160, .iconst 1, 0), (161, .goto 4, 165), (164, .iconst 0, 0), (165, .istore 6, 0), (167, .goto 27, 194), (170, .iload 9, 0), (172, .ifCond .eq 19, 191), (175, .aload 5, 0), (177, .aload_n 0, 0), (178, .invokevirtual 101, 52), (181, .invokevirtual 105, 53), (184, .ifCond .eq 7, 191), (187, .iconst 1, 0), (188, .goto 4, 192), (191, .iconst 0, 0), (192, .istore 6, 0), (194, .iinc 7 1, 0), (197, .goto (-150), 47), (200, .iload 6, 0), (202, .ifCond .eq 8, 210), (205, .aload 5, 0), (207, .goto 4, 211), (210, .aconst_null, 0), (211, .areturn, 0)]
def il_25 : List (Nat × Instr × Nat) := [(0, .aload_n 0, 0), (1, .getfield 13, 130), (4, .aload_n 0, 0), (5, .getfield 20, 129), (8, .isub, 0), (9, .iconst 1, 0), (10, .if_icmp .lt 24, 34), (13, .aload_n 0, 0), (14, .getfield 13, 130), (17, .aload_n 0, 0), (18, .getfield 20, 129), (21, .isub, 0), (22, .bipush 8, 0), (24, .if_icmp .gt 10, 34), (27, .aload_n 0, 0), (28, .invokevirtual 23, 26), (31, .ifCond .eq 5, 36), (34, .lconst 0, 0), (35, .lreturn, 0), (36, .aload_n 0, 0), (37, .getfield 20, 129), (40, .istore_n 1, 0), (41, .iload_n 1, 0), (42, .aload_n 0, 0), (43, .getfield 13, 130), (46, .if_icmp .ge 37, 83), (49, .aload_n 0, 0), (50, .getfield 7, 128), (53, .iload_n 1, 0), (54, .invokevirtual 27, 22), (57, .bipush 97, 0), (59, .if_icmp .lt 16, 75), (62, .aload_n 0, 0), (63, .getfield 7, 128), (66, .iload_n 1, 0), (67, .invokevirtual 27, 22), (70, .bipush 122, 0), (72, .if_icmp .le 5, 77), (75, .lconst 0, 0), (76, .lreturn, 0), (77, .iinc 1 1, 0), (80, .goto (-39), 41), (83, .aload_n 0, 0), (84, .aload_n 0, 0), (85, .getfield 20, 129), (88, .aload_n 0, 0), (89, .getfield 13, 130), (92, .invokevirtual 33, 30), (95, .lstore_n 1, 0), (96, .aload_n 0, 0), (97, .invokevirtual 17, 21), (100, .lload_n 1, 0), (101, .lreturn, 0)]
def il_26 : List (Nat × Instr × Nat) := [(0, .aload_n 0, 0), (1, .ldc 81, 10000), (3, .invokevirtual 54, 27), (6, .ifCond .ne 21, 27), (9, .aload_n 0, 0), (10, .ldc 86, 10001), (12, .invokevirtual 54, 27), (15, .ifCond .ne 12, 27), (18, .aload_n 0, 0), (19, .ldc 90, 10002), (21, .invokevirtual 54, 27), (24, .ifCond .eq 7, 31), (27, .iconst 1, 0), (28, .goto 4, 32), (31, .iconst 0, 0), (32, .ireturn, 0)]
def il_27 : List (Nat × Instr × Nat) := [(0, .aload_n 0, 0), (1, .getfield 13, 130), (4, .aload_n 0, 0), (5, .getfield 20, 129), (8, .isub, 0), (9, .aload_n 1, 0), (10, .invokevirtual 156, 28), (13, .if_icmp .eq 5, 18), (16, .iconst 0, 0), (17, .ireturn, 0), (18, .iconst 0, 0), (19, .istore_n 2, 0), (20, .iload_n 2, 0), (21, .aload_n 1, 0), (22, .invokevirtual 156, 28), (25, .if_icmp .ge 32, 57), (28, .aload_n 0, 0), (29, .getfield 7, 128), (32, .aload_n 0, 0), (33, .getfield 20, 129), (36, .iload_n 2, 0), (37, .iadd, 0), (38, .invokevirtual 27, 22), (41, .aload_n 1, 0), (42, .iload_n 2, 0), (43, .invokevirtual 161, 8888), (46, .if_icmp .eq 5, 51), (49, .iconst 0, 0), (50, .ireturn, 0), (51, .iinc 2 1, 0), (54, .goto (-34), 20), (57, .iconst 1, 0), (58, .ireturn, 0)]
def il_28 : List (Nat × Instr × Nat) := [(0, .aload_n 0, 0), (1, .getfield 9, 1088), (4, .arraylength, 0), (5, .aload_n 0, 0), (6, .invokevirtual 335, 29), (9, .ishr, 0), (10, .ireturn, 0)]
def il_29 : List (Nat × Instr × Nat) := [(0, .getstatic 38, 0), (3, .ifCond .eq 10, 13), (6, .aload_n 0, 0), (7, .getfield 15, 1089), (10, .goto 4, 14), (13, .iconst 1, 0), (14, .ireturn, 0)]
def il_30 : List (Nat × Instr × Nat) := [(0, .lconst 0, 0), (1, .lstore_n 3, 0), (2, .iload_n 1, 0), (3, .istore 5, 0), (5, .iload 5, 0), (7, .iload_n 1, 0), (8, .bipush 8, 0), (10, .iadd, 0), (11, .if_icmp .ge 35, 46), (14, .lload_n 3, 0), (15, .bipush 8, 0), (17, .lshl, 0), (18, .iload 5, 0), (20, .iload_n 2, 0), (21, .if_icmp .ge 15, 36), (24, .aload_n 0, 0), (25, .getfield 7, 128), (28, .iload 5, 0), (30, .invokevirtual 27, 22), (33, .goto 4, 37), (36, .iconst 0, 0), (37, .i2l, 0), (38, .lor, 0), (39, .lstore_n 3, 0), (40, .iinc 5 1, 0), (43, .goto (-38), 5), (46, .lload_n 3, 0), (47, .lreturn, 0)]
def il_31 : List (Nat × Instr × Nat) := [(0, .aload_n 0, 0), (1, .aload_n 0, 0), (2, .getfield 20, 129), (5, .invokevirtual 37, 32), (8, .areturn, 0)]
def il_32 : List (Nat × Instr × Nat) := [(0, .aload_n 0, 0), (1, .iload_n 1, 0), (2, .putfield 124, 131), (5, .aload_n 0, 0), (6, .invokevirtual 126, 33), (9, .lstore_n 2, 0), (10, .lload_n 2, 0), (11, .lconst 0, 0), (12, .lcmp, 0), (13, .ifCond .lt 19, 32), (16, .aload_n 0, 0), (17, .bipush 46, 0), (19, .invokevirtual 129, 36), (22, .ifCond .eq 10, 32), (25, .aload_n 0, 0), (26, .invokevirtual 126, 33), (29, .goto 6, 35), (32, .ldc2_w 132, 0), (35, .lstore 4, 0), (37, .lload 4, 0), (39, .lconst 0, 0), (40, .lcmp, 0), (41, .ifCond .lt 19, 60), (44, .aload_n 0, 0), (45, .bipush 46, 0), (47, .invokevirtual 129, 36), (50, .ifCond .eq 10, 60), (53, .aload_n 0, 0), (54, .invokevirtual 126, 33), (57, .goto 6, 63), (60, .ldc2_w 132, 0), (63, .lstore 6, 0), (65, .lload 6, 0), (67, .lconst 0, 0), (68, .lcmp, 0), (69, .ifCond .ge 5, 74), (72, .aconst_null, 0), (73, .areturn, 0), (74, .new 117, 8), (77, .dup, 0), (78, .lload_n 2, 0), (79, .lload 4, 0), (81, .lload 6, 0), (83, .invokespecial 134, 37), (86, .astore 8, 0), (88, .iconst 0, 0), (89, .istore 9, 0), (91, .iload 9, 0), (93, .iconst 4, 0), (94, .if_icmp .ge 69, 163), (97, .aload_n 0, 0), (98, .getfield 124, 131), (101, .aload_n 0, 0), (102, .getfield 13, 130), (105, .if_icmp .ge 58, 163), (108, .aload_n 0, 0), (109, .iload 9, 0), (111, .ifCond .ne 8, 119), (114, .bipush 45, 0), (116, .goto 5, 121), (119, .bipush 46, 0), (121, .invokevirtual 129, 36), (124, .ifCond .eq 10, 134), (127, .aload_n 0, 0), (128, .invokevirtual 137, 38), (131, .goto 6, 137), (134, .ldc2_w 132, 0), (137, .lstore 10, 0), (139, .lload 10, 0), (141, .lconst 0, 0), (142, .lcmp, 0), (143, .ifCond .ge 5, 148), (146, .aconst_null, 0), (147, .areturn, 0), (148, .aload 8, 0), (150, .iload 9, 0), (152, .lload 10, 0), (154, .invokevirtual 140, 40), (157, .iinc 9 1, 0), (160, .goto (-69), 91), (163, .aload_n 0, 0), (164, .getfield 124, 131), (167, .aload_n 0, 0), (168, .getfield 13, 130), (171, .if_icmp .ge 5, 176), (174, .aconst_null, 0), (175, .areturn, 0), (176, .aload_n 0, 0), (177, .invokevirtual 17, 21), (180, .aload 8, 0), (182, .areturn, 0)]
def il_33 : List (Nat × Instr × Nat) := [(0, .aload_n 0, 0), (1, .getfield 124, 131), (4, .istore_n 1, 0), (5, .aload_n 0, 0), (6, .getfield 124, 131), (9, .aload_n 0, 0), (10, .getfield 13, 130), (13, .if_icmp .ge 44, 57), (16, .aload_n 0, 0), (17, .getfield 124, 131), (20, .iload_n 1, 0), (21, .isub, 0), (22, .bipush 9, 0), (24, .if_icmp .gt 33, 57), (27, .aload_n 0, 0), (28, .getfield 7, 128), (31, .aload_n 0, 0), (32, .getfield 124, 131), (35, .invokevirtual 27, 22), (38, .invokestatic 144, 34), (41, .ifCond .eq 16, 57), (44, .aload_n 0, 0), (45, .dup, 0), (46, .getfield 124, 131), (49, .iconst 1, 0), (50, .iadd, 0), (51, .putfield 124, 131), (54, .goto (-49), 5), (57, .aload_n 0, 0), (58, .getfield 124, 131), (61, .iload_n 1, 0), (62, .isub, 0), (63, .bipush 9, 0), (65, .if_icmp .le 9, 74), (68, .ldc2_w 132, 0), (71, .goto 12, 83), (74, .aload_n 0, 0), (75, .iload_n 1, 0), (76, .aload_n 0, 0), (77, .getfield 124, 131), (80, .invokevirtual 147, 35), (83, .lreturn, 0)]
def il_34 : List (Nat × Instr × Nat) := [(0, .iload_n 0, 0), (1, .bipush 48, 0), (3, .if_icmp .lt 13, 16), (6, .iload_n 0, 0), (7, .bipush 57, 0), (9, .if_icmp .gt 7, 16), (12, .iconst 1, 0), (13, .goto 4, 17), (16, .iconst 0, 0), (17, .ireturn, 0)]
def il_35 : List (Nat × Instr × Nat) := [(0, .iload_n 1, 0), (1, .iload_n 2, 0), (2, .if_icmp .eq 23, 25), (5, .iload_n 2, 0), (6, .iload_n 1, 0), (7, .isub, 0), (8, .iconst 1, 0), (9, .if_icmp .le 20, 29), (12, .aload_n 0, 0), (13, .getfield 7, 128), (16, .iload_n 1, 0), (17, .invokevirtual 27, 22), (20, .bipush 48, 0), (22, .if_icmp .ne 7, 29), (25, .ldc2_w 132, 0), (28, .lreturn, 0), (29, .lconst 0, 0), (30, .lstore_n 3, 0), (31, .iload_n 1, 0), (32, .istore 5, 0), (34, .iload 5, 0), (36, .iload_n 2, 0), (37, .if_icmp .ge 29, 66), (40, .lload_n 3, 0), (41, .ldc2_w 150, 1), (44, .lmul, 0), (45, .aload_n 0, 0), (46, .getfield 7, 128), (49, .iload 5, 0), (51, .invokevirtual 27, 22), (54, .bipush 48, 0), (56, .isub, 0), (57, .i2l, 0), (58, .ladd, 0), (59, .lstore_n 3, 0), (60, .iinc 5 1, 0), (63, .goto (-29), 34), (66, .lload_n 3, 0), (67, .lreturn, 0)]
def il_36 : List (Nat × Instr × Nat) := [(0, .aload_n 0, 0), (1, .getfield 124, 131), (4, .aload_n 0, 0), (5, .getfield 13, 130), (8, .if_icmp .ge 22, 30), (11, .aload_n 0, 0), (12, .getfield 7, 128), (15, .aload_n 0, 0), (16, .getfield 124, 131), (19, .invokevirtual 27, 22), (22, .iload_n 1, 0), (23, .if_icmp .ne 7, 30), (26, .iconst 1, 0), (27, .goto 4, 31), (30, .iconst 0, 0), (31, .istore_n 2, 0), (32, .iload_n 2, 0), (33, .ifCond .eq 13, 46), (36, .aload_n 0, 0), (37, .dup, 0), (38, .getfield 124, 131), (41, .iconst 1, 0), (42, .iadd, 0), (43, .putfield 124, 131), (46, .iload_n 2, 0), (47, .ireturn, 0)]
def il_37 : List (Nat × Instr × Nat) := [(0, .aload_n 0, 0), (1, .invokespecial 1, 9999), (4, .aload_n 0, 0), (5, .bipush 7, 0), (7, .newarray .long, 1), (9, .putfield 9, 512), (12, .aload_n 0, 0), (13, .getfield 9, 512), (16, .iconst 0, 0), (17, .lload_n 1, 0), (18, .lastore, 0), (19, .aload_n 0, 0), (20, .getfield 9, 512), (23, .iconst 1, 0), (24, .lload_n 3, 0), (25, .lastore, 0), (26, .aload_n 0, 0), (27, .getfield 9, 512), (30, .iconst 2, 0), (31, .lload 5, 0), (33, .lastore, 0), (34, .aload_n 0, 0), (35, .getfield 9, 512), (38, .iconst 3, 0), (39, .ldc2_w 13, 2), (42, .lastore, 0), (43, .iconst 4, 0), (44, .istore 7, 0), (46, .iload 7, 0), (48, .aload_n 0, 0), (49, .getfield 9, 512), (52, .arraylength, 0), (53, .if_icmp .ge 19, 72), (56, .aload_n 0, 0), (57, .getfield 9, 512), (60, .iload 7, 0), (62, .ldc2_w 15, 0), (65, .lastore, 0), (66, .iinc 7 1, 0), (69, .goto (-23), 46), (72, .return_, 0)]
def il_38 : List (Nat × Instr × Nat) := [(0, .aload_n 0, 0), (1, .getfield 124, 131), (4, .istore_n 1, 0), (5, .iconst 1, 0), (6, .istore_n 2, 0), (7, .aload_n 0, 0), (8, .getfield 124, 131), (11, .aload_n 0, 0), (12, .getfield 13, 130), (15, .if_icmp .ge 71, 86), (18, .aload_n 0, 0), (19, .getfield 124, 131), (22, .iload_n 1, 0), (23, .isub, 0), (24, .bipush 8, 0), (26, .if_icmp .gt 60, 86), (29, .aload_n 0, 0), (30, .getfield 7, 128), (33, .aload_n 0, 0), (34, .getfield 124, 131), (37, .invokevirtual 27, 22), (40, .invokestatic 64, 39), (43, .ifCond .eq 43, 86), (46, .iload_n 2, 0), (47, .ifCond .eq 24, 71), (50, .aload_n 0, 0), (51, .getfield 7, 128), (54, .aload_n 0, 0), (55, .getfield 124, 131), (58, .invokevirtual 27, 22), (61, .invokestatic 144, 34), (64, .ifCond .eq 7, 71), (67, .iconst 1, 0), (68, .goto 4, 72), (71, .iconst 0, 0), (72, .istore_n 2, 0), (73, .aload_n 0, 0), (74, .dup, 0), (75, .getfield 124, 131), (78, .iconst 1, 0), (79, .iadd, 0), (80, .putfield 124, 131), (83, .goto (-76), 7), (86, .aload_n 0, 0), (87, .getfield 124, 131), (90, .iload_n 1, 0), (91, .if_icmp .eq 14, 105), (94, .aload_n 0, 0), (95, .getfield 124, 131), (98, .iload_n 1, 0), (99, .isub, 0), (100, .bipush 8, 0), (102, .if_icmp .le 7, 109), (105, .ldc2_w 132, 0), (108, .lreturn, 0), (109, .iload_n 2, 0), (110, .ifCond .eq 15, 125), (113, .aload_n 0, 0), (114, .iload_n 1, 0), (115, .aload_n 0, 0), (116, .getfield 124, 131), (119, .invokevirtual 147, 35), (122, .goto 12, 134), (125, .aload_n 0, 0), (126, .iload_n 1, 0), (127, .aload_n 0, 0), (128, .getfield 124, 131), (131, .invokevirtual 33, 30), (134, .lreturn, 0)]
def il_39 : List (Nat × Instr × Nat) := [(0, .iload_n 0, 0), (1, .bipush 48, 0), (3, .if_icmp .lt 9, 12), (6, .iload_n 0, 0), (7, .bipush 57, 0), (9, .if_icmp .le 33, 42), (12, .iload_n 0, 0), (13, .bipush 97, 0), (15, .if_icmp .lt 9, 24), (18, .iload_n 0, 0), (19, .bipush 122, 0), (21, .if_icmp .le 21, 42), (24, .iload_n 0, 0), (25, .bipush 65, 0), (27, .if_icmp .lt 9, 36), (30, .iload_n 0, 0), (31, .bipush 90, 0), (33, .if_icmp .le 9, 42), (36, .iload_n 0, 0), (37, .bipush 45, 0), (39, .if_icmp .ne 7, 46), (42, .iconst 1, 0), (43, .goto 4, 47), (46, .iconst 0, 0), (47, .ireturn, 0)]
def il_40 : List (Nat × Instr × Nat) := [(0, .iload_n 1, 0), (1, .ifCond .lt 17, 18), (4, .iload_n 1, 0), (5, .iconst 4, 0), (6, .if_icmp .ge 12, 18), (9, .aload_n 0, 0), (10, .getfield 9, 512), (13, .iconst 3, 0), (14, .iload_n 1, 0), (15, .iadd, 0), (16, .lload_n 2, 0), (17, .lastore, 0), (18, .return_, 0)]
def il_41 : List (Nat × Instr × Nat) := [(0, .aload_n 0, 0), (1, .invokespecial 3, 9999), (4, .aload_n 0, 0), (5, .iload_n 1, 0), (6, .putfield 9, 576), (9, .aload_n 0, 0), (10, .lload_n 2, 0), (11, .putfield 13, 577), (14, .aload_n 0, 0), (15, .aload 4, 0), (17, .putfield 17, 578), (20, .aload_n 0, 0), (21, .new 21, 4), (24, .dup, 0), (25, .bipush 6, 0), (27, .invokespecial 23, 4), (30, .putfield 26, 579), (33, .aload_n 0, 0), (34, .new 21, 4), (37, .dup, 0), (38, .iconst 3, 0), (39, .invokespecial 23, 4), (42, .putfield 30, 580), (45, .aload_n 0, 0), (46, .bipush 12, 0), (48, .newarray .long, 1), (50, .putfield 33, 581), (53, .return_, 0)]
def il_42 : List (Nat × Instr × Nat) := [(0, .aload_n 0, 0), (1, .getfield 20, 129), (4, .aload_n 0, 0), (5, .getfield 13, 130), (8, .if_icmp .ne 7, 15), (11, .iconst 1, 0), (12, .goto 4, 16), (15, .iconst 0, 0), (16, .ireturn, 0)]
def il_43 : List (Nat × Instr × Nat) := [(0, .new 41, 10), (3, .dup, 0), (4, .invokespecial 43, 44), (7, .astore_n 1, 0), (8, .iconst 0, 0), (9, .istore_n 2, 0), (10, .iload_n 2, 0), (11, .bipush 16, 0), (13, .if_icmp .ge 66, 79), (16, .aload_n 0, 0), (17, .invokevirtual 44, 45), (20, .astore_n 3, 0), (21, .aload_n 3, 0), (22, .ifnull 11, 33), (25, .aload_n 1, 0), (26, .aload_n 3, 0), (27, .invokevirtual 48, 49), (30, .ifCond .ne 5, 35), (33, .aconst_null, 0), (34, .areturn, 0), (35, .aload_n 0, 0), (36, .ldc 52, 10004), (38, .invokevirtual 54, 27), (41, .ifCond .eq 16, 57), (44, .aload_n 0, 0), (45, .invokevirtual 17, 21), (48, .aload_n 1, 0), (49, .invokevirtual 58, 50), (52, .ifCond .ne 21, 73), (55, .aconst_null, 0), (56, .areturn, 0), (57, .aload_n 0, 0), (58, .invokevirtual 61, 42), (61, .ifCond .ne 10, 71), (64, .aload_n 0, 0), (65, .invokevirtual 23, 26), (68, .ifCond .eq 5, 73), (71, .aload_n 1, 0), (72, .areturn, 0), (73, .iinc 2 1, 0), (76, .goto (-66), 10), (79, .aconst_null, 0), (80, .areturn, 0)]
def il_44 : List (Nat × Instr × Nat) := [(0, .aload_n 0, 0), (1, .invokespecial 1, 9999), (4, .aload_n 0, 0), (5, .bipush 16, 0), (7, .anewarray 9, 8), (10, .putfield 11, 640), (13, .aload_n 0, 0), (14, .iconst 4, 0), (15, .newarray .int, 2), (17, .putfield 15, 641), (20, .aload_n 0, 0), (21, .iconst 1, 0), (22, .putfield 19, 642), (25, .return_, 0)]
def il_45 : List (Nat × Instr × Nat) := [(0, .aload_n 0, 0), (1, .ldc 109, 10003), (3, .invokevirtual 54, 27), (6, .ifCond .eq 19, 25), (9, .aload_n 0, 0), (10, .invokevirtual 17, 21), (13, .new 111, 11), (16, .dup, 0), (17, .aconst_null, 0), (18, .iconst 0, 0), (19, .aconst_null, 0), (20, .iconst 0, 0), (21, .invokespecial 113, 46), (24, .areturn, 0), (25, .aload_n 0, 0), (26, .getfield 7, 128), (29, .aload_n 0, 0), (30, .getfield 20, 129), (33, .invokevirtual 27, 22), (36, .istore_n 1, 0), (37, .iload_n 1, 0), (38, .bipush 60, 0), (40, .if_icmp .eq 27, 67), (43, .iload_n 1, 0), (44, .bipush 62, 0), (46, .if_icmp .eq 21, 67), (49, .iload_n 1, 0), (50, .bipush 61, 0), (52, .if_icmp .eq 15, 67), (55, .iload_n 1, 0), (56, .bipush 94, 0), (58, .if_icmp .eq 9, 67), (61, .iload_n 1, 0), (62, .bipush 126, 0), (64, .if_icmp .ne 7, 71), (67, .iconst 1, 0), (68, .goto 4, 72), (71, .iconst 0, 0), (72, .istore_n 2, 0), (73, .iload_n 1, 0), (74, .bipush 60, 0), (76, .if_icmp .eq 9, 85), (79, .iload_n 1, 0), (80, .bipush 62, 0), (82, .if_icmp .ne 25, 107), (85, .aload_n 0, 0), (86, .getfield 7, 128), (89, .aload_n 0, 0), (90, .getfield 20, 129), (93, .iconst 1, 0), (94, .iadd, 0), (95, .invokevirtual 27, 22), (98, .bipush 61, 0), (100, .if_icmp .ne 7, 107), (103, .iconst 1, 0), (104, .goto 4, 108), (107, .iconst 0, 0), (108, .istore_n 3, 0), (109, .aload_n 0, 0), (110, .aload_n 0, 0), (111, .getfield 20, 129), (114, .iload_n 2, 0), (115, .ifCond .eq 7, 122), (118, .iconst 1, 0), (119, .goto 4, 123), (122, .iconst 0, 0), (123, .iadd, 0), (124, .iload_n 3, 0), (125, .ifCond .eq 7, 132), (128, .iconst 1, 0), (129, .goto 4, 133), (132, .iconst 0, 0), (133, .iadd, 0), (134, .invokevirtual 37, 32), (137, .astore 4, 0), (139, .aload 4, 0), (141, .ifnonnull 5, 146), (144, .aconst_null, 0), (145, .areturn, 0), (146, .iload_n 1, 0), (147, .bipush 60, 0), (149, .if_icmp .ne 16, 165), (152, .new 111, 11), (155, .dup, 0), (156, .aconst_null, 0), (157, .iconst 0, 0), (158, .aload 4, 0), (160, .iload_n 3, 0), (161, .invokespecial 113, 46), (164, .areturn, 0), (165, .iload_n 1, 0), (166, .bipush 62, 0), (168, .if_icmp .ne 16, 184), (171, .new 111, 11), (174, .dup, 0), (175, .aload 4, 0), (177, .iload_n 3, 0), (178, .aconst_null, 0), (179, .iconst 0, 0), (180, .invokespecial 113, 46), (183, .areturn, 0), (184, .iload_n 1, 0), (185, .bipush 94, 0), (187, .if_icmp .ne 20, 207), (190, .new 111, 11), (193, .dup, 0), (194, .aload 4, 0), (196, .iconst 1, 0), (197, .aload 4, 0), (199, .invokevirtual 116, 47), (202, .iconst 0, 0), (203, .invokespecial 113, 46), (206, .areturn, 0), (207, .iload_n 1, 0), (208, .bipush 126, 0), (210, .if_icmp .ne 20, 230), (213, .new 111, 11), (216, .dup, 0), (217, .aload 4, 0), (219, .iconst 1, 0), (220, .aload 4, 0), (222, .invokevirtual 121, 48), (225, .iconst 0, 0), (226, .invokespecial 113, 46), (229, .areturn, 0), (230, .new 111, 11), (233, .dup, 0), (234, .aload 4, 0), (236, .iconst 1, 0), (237, .aload 4, 0), (239, .iconst 1, 0), (240, .invokespecial 113, 46), (243, .areturn, 0)]
def il_46 : List (Nat × Instr × Nat) := [(0, .aload_n 0, 0), (1, .invokespecial 1, 9999), (4, .aload_n 0, 0), (5, .aload_n 1, 0), (6, .putfield 7, 704), (9, .aload_n 0, 0), (10, .iload_n 2, 0), (11, .putfield 13, 705), (14, .aload_n 0, 0), (15, .aload_n 3, 0), (16, .putfield 17, 706), (19, .aload_n 0, 0), (20, .iload 4, 0), (22, .putfield 20, 707), (25, .return_, 0)]
def il_47 : List (Nat × Instr × Nat) := [(0, .aload_n 0, 0), (1, .getfield 9, 512), (4, .iconst 0, 0), (5, .laload, 0), (6, .lconst 0, 0), (7, .lcmp, 0), (8, .ifCond .eq 21, 29), (11, .new 7, 8), (14, .dup, 0), (15, .aload_n 0, 0), (16, .getfield 9, 512), (19, .iconst 0, 0), (20, .laload, 0), (21, .lconst 1, 0), (22, .ladd, 0), (23, .lconst 0, 0), (24, .lconst 0, 0), (25, .invokespecial 17, 37), (28, .areturn, 0), (29, .aload_n 0, 0), (30, .getfield 9, 512), (33, .iconst 1, 0), (34, .laload, 0), (35, .lconst 0, 0), (36, .lcmp, 0), (37, .ifCond .eq 10, 47), (40, .aload_n 0, 0), (41, .invokevirtual 20, 48), (44, .goto 20, 64), (47, .new 7, 8), (50, .dup, 0), (51, .lconst 0, 0), (52, .lconst 0, 0), (53, .aload_n 0, 0), (54, .getfield 9, 512), (57, .iconst 2, 0), (58, .laload, 0), (59, .lconst 1, 0), (60, .ladd, 0), (61, .invokespecial 17, 37), (64, .areturn, 0)]
def il_48 : List (Nat × Instr × Nat) := [(0, .new 7, 8), (3, .dup, 0), (4, .aload_n 0, 0), (5, .getfield 9, 512), (8, .iconst 0, 0), (9, .laload, 0), (10, .aload_n 0, 0), (11, .getfield 9, 512), (14, .iconst 1, 0), (15, .laload, 0), (16, .lconst 1, 0), (17, .ladd, 0), (18, .lconst 0, 0), (19, .invokespecial 17, 37), (22, .areturn, 0)]
def il_49 : List (Nat × Instr × Nat) := [(0, .aload_n 0, 0), (1, .getfield 19, 642), (4, .iconst 1, 0), (5, .isub, 0), (6, .istore_n 2, 0), (7, .aload_n 0, 0), (8, .getfield 15, 641), (11, .iload_n 2, 0), (12, .iaload, 0), (13, .iconst 4, 0), (14, .if_icmp .ne 5, 19), (17, .iconst 0, 0), (18, .ireturn, 0), (19, .aload_n 0, 0), (20, .getfield 11, 640), (23, .iload_n 2, 0), (24, .iconst 4, 0), (25, .imul, 0), (26, .aload_n 0, 0), (27, .getfield 15, 641), (30, .iload_n 2, 0), (31, .iaload, 0), (32, .iadd, 0), (33, .aload_n 1, 0), (34, .aastore, 0), (35, .aload_n 0, 0), (36, .getfield 15, 641), (39, .iload_n 2, 0), (40, .dup2, 0), (41, .iaload, 0), (42, .iconst 1, 0), (43, .iadd, 0), (44, .iastore, 0), (45, .iconst 1, 0), (46, .ireturn, 0)]
def il_50 : List (Nat × Instr × Nat) := [(0, .aload_n 0, 0), (1, .getfield 19, 642), (4, .iconst 4, 0), (5, .if_icmp .ne 5, 10), (8, .iconst 0, 0), (9, .ireturn, 0), (10, .aload_n 0, 0), (11, .dup, 0), (12, .getfield 19, 642), (15, .iconst 1, 0), (16, .iadd, 0), (17, .putfield 19, 642), (20, .iconst 1, 0), (21, .ireturn, 0)]
def il_51 : List (Nat × Instr × Nat) := [(0, .aload_n 0, 0), (1, .getfield 19, 258), (4, .aload_n 0, 0), (5, .getfield 7, 256), (8, .arraylength, 0), (9, .if_icmp .ne 5, 14), (12, .iconst 0, 0), (13, .ireturn, 0), (14, .aload_n 0, 0), (15, .getfield 7, 256), (18, .aload_n 0, 0), (19, .getfield 19, 258), (22, .lload_n 1, 0), (23, .lastore, 0), (24, .aload_n 0, 0), (25, .getfield 15, 257), (28, .aload_n 0, 0), (29, .getfield 19, 258), (32, .aload_n 3, 0), (33, .aastore, 0), (34, .aload_n 0, 0), (35, .dup, 0), (36, .getfield 19, 258), (39, .iconst 1, 0), (40, .iadd, 0), (41, .putfield 19, 258), (44, .iconst 1, 0), (45, .ireturn, 0)]
def il_52 : List (Nat × Instr × Nat) := [(0, .aload_n 0, 0), (1, .getfield 13, 130), (4, .aload_n 0, 0), (5, .getfield 20, 129), (8, .isub, 0), (9, .iconst 1, 0), (10, .if_icmp .lt 17, 27), (13, .aload_n 0, 0), (14, .getfield 13, 130), (17, .aload_n 0, 0), (18, .getfield 20, 129), (21, .isub, 0), (22, .bipush 20, 0), (24, .if_icmp .le 5, 29), (27, .aconst_null, 0), (28, .areturn, 0), (29, .aload_n 0, 0), (30, .getfield 20, 129), (33, .istore_n 1, 0), (34, .iload_n 1, 0), (35, .aload_n 0, 0), (36, .getfield 13, 130), (39, .if_icmp .ge 39, 78), (42, .aload_n 0, 0), (43, .getfield 7, 128), (46, .iload_n 1, 0), (47, .invokevirtual 27, 22), (50, .istore_n 2, 0), (51, .iload_n 2, 0), (52, .invokestatic 64, 39), (55, .ifCond .ne 17, 72), (58, .iload_n 2, 0), (59, .bipush 46, 0), (61, .if_icmp .eq 11, 72), (64, .iload_n 2, 0), (65, .bipush 47, 0), (67, .if_icmp .eq 5, 72), (70, .aconst_null, 0), (71, .areturn, 0), (72, .iinc 1 1, 0), (75, .goto (-41), 34), (78, .iconst 3, 0), (79, .newarray .long, 1), (81, .astore_n 1, 0), (82, .iconst 0, 0), (83, .istore_n 2, 0), (84, .iload_n 2, 0), (85, .aload_n 1, 0), (86, .arraylength, 0), (87, .if_icmp .ge 29, 116), (90, .aload_n 1, 0), (91, .iload_n 2, 0), (92, .aload_n 0, 0), (93, .aload_n 0, 0), (94, .getfield 20, 129), (97, .iload_n 2, 0), (98, .bipush 8, 0), (100, .imul, 0), (101, .iadd, 0), (102, .aload_n 0, 0), (103, .getfield 13, 130), (106, .invokevirtual 33, 30), (109, .lastore, 0), (110, .iinc 2 1, 0), (113, .goto (-29), 84), (116, .aload_n 0, 0), (117, .invokevirtual 17, 21), (120, .aload_n 1, 0), (121, .areturn, 0)]
def il_53 : List (Nat × Instr × Nat) := [(0, .aload_n 1, 0), (1, .ifnull 11, 12), (4, .aload_n 0, 0), (5, .getfield 37, 582), (8, .iconst 4, 0), (9, .if_icmp .ne 5, 14), (12, .iconst 0, 0), (13, .ireturn, 0), (14, .aload_n 1, 0), (15, .iconst 0, 0), (16, .aload_n 0, 0), (17, .getfield 33, 581), (20, .aload_n 0, 0), (21, .getfield 37, 582), (24, .iconst 3, 0), (25, .imul, 0), (26, .iconst 3, 0), (27, .invokestatic 40, 8888), (30, .aload_n 0, 0), (31, .dup, 0), (32, .getfield 37, 582), (35, .iconst 1, 0), (36, .iadd, 0), (37, .putfield 37, 582), (40, .iconst 1, 0), (41, .ireturn, 0)]
def il_54 : List (Nat × Instr × Nat) := [(0, .aload_n 0, 0), (1, .getfield 21, 1), (4, .invokevirtual 217, 42), (7, .istore_n 1, 0), (8, .aload_n 0, 0), (9, .getfield 10, 0), (12, .iconst 0, 0), (13, .invokevirtual 68, 18), (16, .iload_n 1, 0), (17, .ireturn, 0)]
def il_55 : List (Nat × Instr × Nat) := [(0, .iconst 0, 0), (1, .istore_n 2, 0), (2, .iload_n 2, 0), (3, .aload_n 0, 0), (4, .getfield 15, 193), (7, .if_icmp .ge 24, 31), (10, .aload_n 0, 0), (11, .getfield 11, 192), (14, .iload_n 2, 0), (15, .aaload, 0), (16, .aload_n 1, 0), (17, .invokevirtual 25, 56), (20, .ifCond .ne 5, 25), (23, .iconst 1, 0), (24, .ireturn, 0), (25, .iinc 2 1, 0), (28, .goto (-26), 2), (31, .iconst 0, 0), (32, .ireturn, 0)]
def il_56 : List (Nat × Instr × Nat) := [(0, .aload_n 0, 0), (1, .getfield 13, 577), (4, .aload_n 1, 0), (5, .getfield 13, 577), (8, .lcmp, 0), (9, .ifCond .eq 17, 26), (12, .aload_n 0, 0), (13, .getfield 13, 577), (16, .aload_n 1, 0), (17, .getfield 13, 577), (20, .invokestatic 50, 57), (23, .goto 14, 37), (26, .aload_n 1, 0), (27, .getfield 17, 578), (30, .aload_n 0, 0), (31, .getfield 17, 578), (34, .invokevirtual 56, 58), (37, .ireturn, 0)]
def il_57 : List (Nat × Instr × Nat) := [(0, .lload_n 0, 0), (1, .lload_n 2, 0), (2, .lcmp, 0), (3, .ifCond .ge 7, 10), (6, .iconst (-1), 0), (7, .goto 14, 21), (10, .lload_n 0, 0), (11, .lload_n 2, 0), (12, .lcmp, 0), (13, .ifCond .ne 7, 20), (16, .iconst 0, 0), (17, .goto 4, 21), (20, .iconst 1, 0), (21, .ireturn, 0)]
def il_58 : List (Nat × Instr × Nat) := [(0, .iconst 0, 0), (1, .istore_n 2, 0), (2, .iload_n 2, 0), (3, .aload_n 0, 0), (4, .getfield 9, 512), (7, .arraylength, 0), (8, .if_icmp .ge 47, 55), (11, .aload_n 0, 0), (12, .getfield 9, 512), (15, .iload_n 2, 0), (16, .laload, 0), (17, .aload_n 1, 0), (18, .getfield 9, 512), (21, .iload_n 2, 0), (22, .laload, 0), (23, .lcmp, 0), (24, .ifCond .eq 25, 49), (27, .aload_n 0, 0), (28, .getfield 9, 512), (31, .iload_n 2, 0), (32, .laload, 0), (33, .aload_n 1, 0), (34, .getfield 9, 512), (37, .iload_n 2, 0), (38, .laload, 0), (39, .lcmp, 0), (40, .ifCond .ge 7, 47), (43, .iconst (-1), 0), (44, .goto 4, 48), (47, .iconst 1, 0), (48, .ireturn, 0), (49, .iinc 2 1, 0), (52, .goto (-50), 2), (55, .iconst 0, 0), (56, .ireturn, 0)]
def il_59 : List (Nat × Instr × Nat) := [(0, .iconst 0, 0), (1, .istore_n 2, 0), (2, .iconst 0, 0), (3, .istore_n 3, 0), (4, .iconst 0, 0), (5, .istore 4, 0), (7, .iload 4, 0), (9, .aload_n 0, 0), (10, .getfield 15, 193), (13, .if_icmp .ge 42, 55), (16, .aload_n 0, 0), (17, .iload 4, 0), (19, .invokevirtual 29, 60), (22, .ifCond .eq 6, 28), (25, .iinc 2 1, 0), (28, .aload_n 0, 0), (29, .getfield 11, 192), (32, .iload 4, 0), (34, .aaload, 0), (35, .getfield 33, 577), (38, .aload_n 1, 0), (39, .getfield 33, 577), (42, .lcmp, 0), (43, .ifCond .ne 6, 49), (46, .iinc 3 1, 0), (49, .iinc 4 1, 0), (52, .goto (-45), 7), (55, .aload_n 0, 0), (56, .getfield 15, 193), (59, .bipush 32, 0), (61, .if_icmp .ge 22, 83), (64, .iload_n 3, 0), (65, .iconst 5, 0), (66, .if_icmp .ge 17, 83), (69, .iload_n 3, 0), (70, .ifCond .gt 9, 79), (73, .iload_n 2, 0), (74, .bipush 8, 0), (76, .if_icmp .ge 7, 83), (79, .iconst 1, 0), (80, .goto 4, 84), (83, .iconst 0, 0), (84, .ireturn, 0)]
def il_60 : List (Nat × Instr × Nat) := [(0, .iload_n 1, 0), (1, .ifCond .eq 27, 28), (4, .aload_n 0, 0), (5, .getfield 11, 192), (8, .iload_n 1, 0), (9, .iconst 1, 0), (10, .isub, 0), (11, .aaload, 0), (12, .getfield 33, 577), (15, .aload_n 0, 0), (16, .getfield 11, 192), (19, .iload_n 1, 0), (20, .aaload, 0), (21, .getfield 33, 577), (24, .lcmp, 0), (25, .ifCond .eq 7, 32), (28, .iconst 1, 0), (29, .goto 4, 33), (32, .iconst 0, 0), (33, .ireturn, 0)]
def il_61 : List (Nat × Instr × Nat) := [(0, .aload_n 0, 0), (1, .getfield 15, 193), (4, .istore_n 2, 0), (5, .iload_n 2, 0), (6, .ifCond .le 38, 44), (9, .aload_n 1, 0), (10, .aload_n 0, 0), (11, .getfield 11, 192), (14, .iload_n 2, 0), (15, .iconst 1, 0), (16, .isub, 0), (17, .aaload, 0), (18, .invokevirtual 25, 56), (21, .ifCond .ge 23, 44), (24, .aload_n 0, 0), (25, .getfield 11, 192), (28, .iload_n 2, 0), (29, .aload_n 0, 0), (30, .getfield 11, 192), (33, .iload_n 2, 0), (34, .iconst 1, 0), (35, .isub, 0), (36, .aaload, 0), (37, .aastore, 0), (38, .iinc 2 (-1), 0), (41, .goto (-36), 5), (44, .aload_n 0, 0), (45, .getfield 11, 192), (48, .iload_n 2, 0), (49, .aload_n 1, 0), (50, .aastore, 0), (51, .aload_n 0, 0), (52, .dup, 0), (53, .getfield 15, 193), (56, .iconst 1, 0), (57, .iadd, 0), (58, .putfield 15, 193), (61, .aload_n 0, 0), (62, .dup, 0), (63, .getfield 19, 194), (66, .iconst 1, 0), (67, .iadd, 0), (68, .putfield 19, 194), (71, .return_, 0)]
def il_62 : List (Nat × Instr × Nat) := [(0, .aload_n 0, 0), (1, .iconst 0, 0), (2, .putfield 33, 330), (5, .return_, 0)]
def il_63 : List (Nat × Instr × Nat) := [(0, .aload_n 0, 0), (1, .getfield 28, 2), (4, .iload_n 1, 0), (5, .invokevirtual 104, 64), (8, .istore_n 2, 0), (9, .iload_n 2, 0), (10, .ifCond .ge 6, 16), (13, .bipush (-2), 0), (15, .ireturn, 0), (16, .aload_n 0, 0), (17, .getfield 28, 2), (20, .iload_n 2, 0), (21, .invokevirtual 108, 65), (24, .aload_n 0, 0), (25, .getfield 46, 4), (28, .invokevirtual 95, 62), (31, .aload_n 0, 0), (32, .getfield 28, 2), (35, .invokevirtual 111, 66), (38, .ireturn, 0)]
def il_64 : List (Nat × Instr × Nat) := [(0, .iconst 0, 0), (1, .istore_n 2, 0), (2, .iload_n 2, 0), (3, .aload_n 0, 0), (4, .getfield 15, 193), (7, .if_icmp .ge 24, 31), (10, .aload_n 0, 0), (11, .getfield 11, 192), (14, .iload_n 2, 0), (15, .aaload, 0), (16, .getfield 22, 576), (19, .iload_n 1, 0), (20, .if_icmp .ne 5, 25), (23, .iload_n 2, 0), (24, .ireturn, 0), (25, .iinc 2 1, 0), (28, .goto (-26), 2), (31, .iconst (-1), 0), (32, .ireturn, 0)]
def il_65 : List (Nat × Instr × Nat) := [(0, .aload_n 0, 0), (1, .dup, 0), (2, .getfield 15, 193), (5, .iconst 1, 0), (6, .isub, 0), (7, .putfield 15, 193), (10, .iload_n 1, 0), (11, .istore_n 2, 0), (12, .iload_n 2, 0), (13, .aload_n 0, 0), (14, .getfield 15, 193), (17, .if_icmp .ge 23, 40), (20, .aload_n 0, 0), (21, .getfield 11, 192), (24, .iload_n 2, 0), (25, .aload_n 0, 0), (26, .getfield 11, 192), (29, .iload_n 2, 0), (30, .iconst 1, 0), (31, .iadd, 0), (32, .aaload, 0), (33, .aastore, 0), (34, .iinc 2 1, 0), (37, .goto (-25), 12), (40, .aload_n 0, 0), (41, .getfield 11, 192), (44, .aload_n 0, 0), (45, .getfield 15, 193), (48, .aconst_null, 0), (49, .aastore, 0), (50, .return_, 0)]
def il_66 : List (Nat × Instr × Nat) := [(0, .aload_n 0, 0), (1, .getfield 15, 193), (4, .ireturn, 0)]
def il_67 : List (Nat × Instr × Nat) := [(0, .aload_n 0, 0), (1, .getfield 21, 1), (4, .invokevirtual 71, 20), (7, .aload_n 0, 0), (8, .getfield 21, 1), (11, .invokevirtual 112, 25), (14, .lstore_n 1, 0), (15, .lload_n 1, 0), (16, .lconst 0, 0), (17, .lcmp, 0), (18, .ifCond .ne 7, 25), (21, .aconst_null, 0), (22, .goto 10, 32), (25, .aload_n 0, 0), (26, .getfield 21, 1), (29, .invokevirtual 116, 43), (32, .astore_n 3, 0), (33, .aload_n 0, 0), (34, .invokevirtual 81, 54), (37, .ifCond .eq 7, 44), (40, .aload_n 3, 0), (41, .ifnonnull 6, 47), (44, .bipush (-6), 0), (46, .ireturn, 0), (47, .aload_n 0, 0), (48, .getfield 37, 3), (51, .lload_n 1, 0), (52, .aload_n 3, 0), (53, .invokevirtual 120, 68), (56, .ifCond .ne 6, 62), (59, .bipush (-3), 0), (61, .ireturn, 0), (62, .aload_n 0, 0), (63, .getfield 46, 4), (66, .invokevirtual 95, 62), (69, .aload_n 0, 0), (70, .getfield 37, 3), (73, .invokevirtual 124, 69), (76, .ireturn, 0)]
def il_68 : List (Nat × Instr × Nat) := [(0, .aload_n 0, 0), (1, .lload_n 1, 0), (2, .invokevirtual 23, 9), (5, .istore 4, 0), (7, .iload 4, 0), (9, .ifCond .ge 10, 19), (12, .aload_n 0, 0), (13, .lload_n 1, 0), (14, .aload_n 3, 0), (15, .invokevirtual 27, 51), (18, .ireturn, 0), (19, .aload_n 0, 0), (20, .getfield 15, 257), (23, .iload 4, 0), (25, .aload_n 3, 0), (26, .aastore, 0), (27, .iconst 1, 0), (28, .ireturn, 0)]
def il_69 : List (Nat × Instr × Nat) := [(0, .aload_n 0, 0), (1, .getfield 19, 258), (4, .ireturn, 0)]
def il_70 : List (Nat × Instr × Nat) := [(0, .aload_n 0, 0), (1, .getfield 21, 1), (4, .invokevirtual 71, 20), (7, .aload_n 0, 0), (8, .getfield 21, 1), (11, .invokevirtual 112, 25), (14, .lstore_n 1, 0), (15, .aload_n 0, 0), (16, .invokevirtual 81, 54), (19, .ifCond .eq 9, 28), (22, .lload_n 1, 0), (23, .lconst 0, 0), (24, .lcmp, 0), (25, .ifCond .ne 6, 31), (28, .bipush (-6), 0), (30, .ireturn, 0), (31, .aload_n 0, 0), (32, .getfield 37, 3), (35, .lload_n 1, 0), (36, .invokevirtual 125, 9), (39, .istore_n 3, 0), (40, .iload_n 3, 0), (41, .ifCond .ge 6, 47), (44, .bipush (-2), 0), (46, .ireturn, 0), (47, .aload_n 0, 0), (48, .getfield 37, 3), (51, .iload_n 3, 0), (52, .invokevirtual 128, 71), (55, .aload_n 0, 0), (56, .getfield 46, 4), (59, .invokevirtual 95, 62), (62, .aload_n 0, 0), (63, .getfield 37, 3), (66, .invokevirtual 124, 69), (69, .ireturn, 0)]
def il_71 : List (Nat × Instr × Nat) := [(0, .aload_n 0, 0), (1, .dup, 0), (2, .getfield 19, 258), (5, .iconst 1, 0), (6, .isub, 0), (7, .putfield 19, 258), (10, .iload_n 1, 0), (11, .istore_n 2, 0), (12, .iload_n 2, 0), (13, .aload_n 0, 0), (14, .getfield 19, 258), (17, .if_icmp .ge 37, 54), (20, .aload_n 0, 0), (21, .getfield 7, 256), (24, .iload_n 2, 0), (25, .aload_n 0, 0), (26, .getfield 7, 256), (29, .iload_n 2, 0), (30, .iconst 1, 0), (31, .iadd, 0), (32, .laload, 0), (33, .lastore, 0), (34, .aload_n 0, 0), (35, .getfield 15, 257), (38, .iload_n 2, 0), (39, .aload_n 0, 0), (40, .getfield 15, 257), (43, .iload_n 2, 0), (44, .iconst 1, 0), (45, .iadd, 0), (46, .aaload, 0), (47, .aastore, 0), (48, .iinc 2 1, 0), (51, .goto (-39), 12), (54, .aload_n 0, 0), (55, .getfield 15, 257), (58, .aload_n 0, 0), (59, .getfield 19, 258), (62, .aconst_null, 0), (63, .aastore, 0), (64, .return_, 0)]
def il_72 : List (Nat × Instr × Nat) := [(0, .iload_n 1, 0), (1, .ifCond .eq 10, 11), (4, .iload_n 1, 0), (5, .iconst 1, 0), (6, .if_icmp .eq 5, 11), (9, .iconst (-1), 0), (10, .ireturn, 0), (11, .aload_n 0, 0), (12, .getfield 46, 4), (15, .invokevirtual 129, 73), (18, .iload_n 1, 0), (19, .ifCond .ne 27, 46), (22, .aload_n 0, 0), (23, .aload_n 0, 0), (24, .getfield 53, 5), (27, .invokevirtual 132, 93), (30, .invokevirtual 136, 94), (33, .ifCond .eq 13, 46), (36, .aload_n 0, 0), (37, .getfield 53, 5), (40, .invokevirtual 132, 93), (43, .goto 7, 50), (46, .aload_n 0, 0), (47, .invokevirtual 140, 98), (50, .astore_n 3, 0), (51, .aload_n 3, 0), (52, .ifnonnull 6, 58), (55, .bipush (-2), 0), (57, .ireturn, 0), (58, .aload_n 3, 0), (59, .invokevirtual 143, 101), (62, .ifCond .eq 6, 68), (65, .bipush (-7), 0), (67, .ireturn, 0), (68, .iload_n 2, 0), (69, .ifCond .lt 6, 75), (72, .bipush (-5), 0), (74, .ireturn, 0), (75, .aload_n 0, 0), (76, .getfield 53, 5), (79, .aload_n 3, 0), (80, .invokevirtual 148, 104), (83, .aload_n 3, 0), (84, .invokevirtual 151, 95), (87, .ireturn, 0)]
def il_73 : List (Nat × Instr × Nat) := [(0, .aload_n 0, 0), (1, .getfield 33, 330), (4, .ifCond .eq 4, 8), (7, .return_, 0), (8, .aload_n 0, 0), (9, .invokevirtual 68, 74), (12, .iconst 0, 0), (13, .istore_n 1, 0), (14, .iload_n 1, 0), (15, .aload_n 0, 0), (16, .getfield 25, 320), (19, .invokevirtual 50, 66), (22, .if_icmp .ge 19, 41), (25, .aload_n 0, 0), (26, .iload_n 1, 0), (27, .invokevirtual 71, 76), (30, .aload_n 0, 0), (31, .iload_n 1, 0), (32, .invokevirtual 75, 84), (35, .iinc 1 1, 0), (38, .goto (-24), 14), (41, .iconst 0, 0), (42, .istore_n 1, 0), (43, .iload_n 1, 0), (44, .aload_n 0, 0), (45, .getfield 25, 320), (48, .invokevirtual 50, 66), (51, .if_icmp .ge 36, 87), (54, .aload_n 0, 0), (55, .getfield 19, 325), (58, .iload_n 1, 0), (59, .iaload, 0), (60, .iload_n 1, 0), (61, .invokestatic 54, 10), (64, .ifCond .eq 17, 81), (67, .aload_n 0, 0), (68, .dup, 0), (69, .getfield 47, 328), (72, .iconst 1, 0), (73, .iload_n 1, 0), (74, .ishl, 0), (75, .iconst (-1), 0), (76, .ixor, 0), (77, .iand, 0), (78, .putfield 47, 328), (81, .iinc 1 1, 0), (84, .goto (-41), 43), (87, .aload_n 0, 0), (88, .invokevirtual 78, 85), (91, .aload_n 0, 0), (92, .iconst 0, 0), (93, .putfield 40, 332), (96, .aload_n 0, 0), (97, .aload_n 0, 0), (98, .getfield 44, 329), (101, .ifCond .eq 20, 121), (104, .aload_n 0, 0), (105, .iconst 0, 0), (106, .iconst 0, 0), (107, .aload_n 0, 0), (108, .getfield 47, 328), (111, .invokevirtual 81, 86), (114, .ifCond .eq 7, 121), (117, .iconst 1, 0), (118, .goto 4, 122), (121, .iconst 0, 0), (122, .putfield 37, 331), (125, .aload_n 0, 0), (126, .iconst 1, 0), (127, .putfield 33, 330), (130, .return_, 0)]
def il_74 : List (Nat × Instr × Nat) := [(0, .aload_n 0, 0), (1, .iconst 0, 0), (2, .putfield 85, 324), (5, .aload_n 0, 0), (6, .iconst 0, 0), (7, .putfield 47, 328), (10, .iconst 0, 0), (11, .istore_n 1, 0), (12, .iload_n 1, 0), (13, .aload_n 0, 0), (14, .getfield 25, 320), (17, .invokevirtual 50, 66), (20, .if_icmp .ge 112, 132), (23, .aload_n 0, 0), (24, .getfield 25, 320), (27, .iload_n 1, 0), (28, .invokevirtual 88, 60), (31, .ifCond .eq 52, 83), (34, .aload_n 0, 0), (35, .getfield 85, 324), (38, .bipush 8, 0), (40, .if_icmp .ge 43, 83), (43, .aload_n 0, 0), (44, .getfield 15, 323), (47, .aload_n 0, 0), (48, .getfield 85, 324), (51, .aload_n 0, 0), (52, .getfield 25, 320), (55, .iload_n 1, 0), (56, .invokevirtual 91, 75), (59, .getfield 95, 577), (62, .lastore, 0), (63, .aload_n 0, 0), (64, .getfield 9, 322), (67, .aload_n 0, 0), (68, .getfield 85, 324), (71, .iconst 0, 0), (72, .iastore, 0), (73, .aload_n 0, 0), (74, .dup, 0), (75, .getfield 85, 324), (78, .iconst 1, 0), (79, .iadd, 0), (80, .putfield 85, 324), (83, .aload_n 0, 0), (84, .getfield 9, 322), (87, .aload_n 0, 0), (88, .getfield 85, 324), (91, .iconst 1, 0), (92, .isub, 0), (93, .dup2, 0), (94, .iaload, 0), (95, .iconst 1, 0), (96, .iload_n 1, 0), (97, .ishl, 0), (98, .ior, 0), (99, .iastore, 0), (100, .aload_n 0, 0), (101, .dup, 0), (102, .getfield 47, 328), (105, .iconst 1, 0), (106, .iload_n 1, 0), (107, .ishl, 0), (108, .ior, 0), (109, .putfield 47, 328), (112, .aload_n 0, 0), (113, .getfield 19, 325), (116, .iload_n 1, 0), (117, .iconst 0, 0), (118, .iastore, 0), (119, .aload_n 0, 0), (120, .getfield 22, 326), (123, .iload_n 1, 0), (124, .iconst 0, 0), (125, .iastore, 0), (126, .iinc 1 1, 0), (129, .goto (-117), 12), (132, .return_, 0)]
def il_75 : List (Nat × Instr × Nat) := [(0, .aload_n 0, 0), (1, .getfield 11, 192), (4, .iload_n 1, 0), (5, .aaload, 0), (6, .areturn, 0)]
def il_76 : List (Nat × Instr × Nat) := [(0, .aload_n 0, 0), (1, .getfield 25, 320), (4, .iload_n 1, 0), (5, .invokevirtual 91, 75), (8, .getfield 101, 579), (11, .astore_n 2, 0), (12, .iconst 0, 0), (13, .istore_n 3, 0), (14, .iload_n 3, 0), (15, .aload_n 2, 0), (16, .invokevirtual 104, 69), (19, .if_icmp .ge 81, 100), (22, .aload_n 0, 0), (23, .aload_n 2, 0), (24, .iload_n 3, 0), (25, .invokevirtual 107, 77), (28, .invokevirtual 111, 78), (31, .istore 4, 0), (33, .iload 4, 0), (35, .ifCond .ge 20, 55), (38, .aload_n 0, 0), (39, .dup, 0), (40, .getfield 47, 328), (43, .iconst 1, 0), (44, .iload_n 1, 0), (45, .ishl, 0), (46, .iconst (-1), 0), (47, .ixor, 0), (48, .iand, 0), (49, .putfield 47, 328), (52, .goto 42, 94), (55, .aload_n 0, 0), (56, .getfield 22, 326), (59, .iload_n 1, 0), (60, .dup2, 0), (61, .iaload, 0), (62, .iconst 1, 0), (63, .iload 4, 0), (65, .ishl, 0), (66, .ior, 0), (67, .iastore, 0), (68, .aload_n 0, 0), (69, .iload_n 1, 0), (70, .aload_n 0, 0), (71, .getfield 9, 322), (74, .iload 4, 0), (76, .iaload, 0), (77, .aload_n 0, 0), (78, .iload 4, 0), (80, .aload_n 2, 0), (81, .iload_n 3, 0), (82, .invokevirtual 115, 79), (85, .invokevirtual 119, 80), (88, .iconst (-1), 0), (89, .ixor, 0), (90, .iand, 0), (91, .invokevirtual 123, 83), (94, .iinc 3 1, 0), (97, .goto (-83), 14), (100, .aload_n 0, 0), (101, .aload_n 0, 0), (102, .getfield 25, 320), (105, .iload_n 1, 0), (106, .invokevirtual 91, 75), (109, .getfield 95, 577), (112, .invokevirtual 111, 78), (115, .istore_n 3, 0), (116, .iload_n 3, 0), (117, .ifCond .lt 20, 137), (120, .aload_n 0, 0), (121, .iload_n 1, 0), (122, .aload_n 0, 0), (123, .getfield 9, 322), (126, .iload_n 3, 0), (127, .iaload, 0), (128, .iconst 1, 0), (129, .iload_n 1, 0), (130, .ishl, 0), (131, .iconst (-1), 0), (132, .ixor, 0), (133, .iand, 0), (134, .invokevirtual 123, 83), (137, .return_, 0)]
def il_77 : List (Nat × Instr × Nat) := [(0, .aload_n 0, 0), (1, .getfield 7, 256), (4, .iload_n 1, 0), (5, .laload, 0), (6, .lreturn, 0)]
def il_78 : List (Nat × Instr × Nat) := [(0, .iconst 0, 0), (1, .istore_n 3, 0), (2, .iload_n 3, 0), (3, .aload_n 0, 0), (4, .getfield 85, 324), (7, .if_icmp .ge 22, 29), (10, .aload_n 0, 0), (11, .getfield 15, 323), (14, .iload_n 3, 0), (15, .laload, 0), (16, .lload_n 1, 0), (17, .lcmp, 0), (18, .ifCond .ne 5, 23), (21, .iload_n 3, 0), (22, .ireturn, 0), (23, .iinc 3 1, 0), (26, .goto (-24), 2), (29, .iconst (-1), 0), (30, .ireturn, 0)]
def il_79 : List (Nat × Instr × Nat) := [(0, .aload_n 0, 0), (1, .getfield 15, 257), (4, .iload_n 1, 0), (5, .aaload, 0), (6, .areturn, 0)]
def il_80 : List (Nat × Instr × Nat) := [(0, .iconst 0, 0), (1, .istore_n 3, 0), (2, .iconst 0, 0), (3, .istore 4, 0), (5, .iload 4, 0), (7, .aload_n 0, 0), (8, .getfield 25, 320), (11, .invokevirtual 50, 66), (14, .if_icmp .ge 49, 63), (17, .aload_n 0, 0), (18, .getfield 9, 322), (21, .iload_n 1, 0), (22, .iaload, 0), (23, .iload 4, 0), (25, .invokestatic 54, 10), (28, .ifCond .eq 29, 57), (31, .aload_n 2, 0), (32, .aload_n 0, 0), (33, .getfield 25, 320), (36, .iload 4, 0), (38, .invokevirtual 91, 75), (41, .getfield 133, 578), (44, .invokevirtual 137, 81), (47, .ifCond .eq 10, 57), (50, .iload_n 3, 0), (51, .iconst 1, 0), (52, .iload 4, 0), (54, .ishl, 0), (55, .ior, 0), (56, .istore_n 3, 0), (57, .iinc 4 1, 0), (60, .goto (-55), 5), (63, .iload_n 3, 0), (64, .ireturn, 0)]
def il_81 : List (Nat × Instr × Nat) := [(0, .iconst 0, 0), (1, .istore_n 2, 0), (2, .iload_n 2, 0), (3, .aload_n 0, 0), (4, .getfield 19, 642), (7, .if_icmp .ge 57, 64), (10, .iconst 1, 0), (11, .istore_n 3, 0), (12, .iconst 0, 0), (13, .istore 4, 0), (15, .iload 4, 0), (17, .aload_n 0, 0), (18, .getfield 15, 641), (21, .iload_n 2, 0), (22, .iaload, 0), (23, .if_icmp .ge 29, 52), (26, .iload_n 3, 0), (27, .ifCond .eq 25, 52), (30, .aload_n 0, 0), (31, .getfield 11, 640), (34, .iload_n 2, 0), (35, .iconst 4, 0), (36, .imul, 0), (37, .iload 4, 0), (39, .iadd, 0), (40, .aaload, 0), (41, .aload_n 1, 0), (42, .invokevirtual 23, 82), (45, .istore_n 3, 0), (46, .iinc 4 1, 0), (49, .goto (-34), 15), (52, .iload_n 3, 0), (53, .ifCond .eq 5, 58), (56, .iconst 1, 0), (57, .ireturn, 0), (58, .iinc 2 1, 0), (61, .goto (-59), 2), (64, .iconst 0, 0), (65, .ireturn, 0)]
def il_82 : List (Nat × Instr × Nat) := [(0, .aload_n 0, 0), (1, .getfield 7, 704), (4, .ifnonnull 7, 11), (7, .iconst 1, 0), (8, .goto 11, 19), (11, .aload_n 1, 0), (12, .aload_n 0, 0), (13, .getfield 7, 704), (16, .invokevirtual 23, 58), (19, .istore_n 2, 0), (20, .aload_n 0, 0), (21, .getfield 17, 706), (24, .ifnonnull 7, 31), (27, .iconst (-1), 0), (28, .goto 11, 39), (31, .aload_n 1, 0), (32, .aload_n 0, 0), (33, .getfield 17, 706), (36, .invokevirtual 23, 58), (39, .istore_n 3, 0), (40, .iload_n 2, 0), (41, .ifCond .gt 14, 55), (44, .iload_n 2, 0), (45, .ifCond .ne 29, 74), (48, .aload_n 0, 0), (49, .getfield 13, 705), (52, .ifCond .eq 22, 74), (55, .iload_n 3, 0), (56, .ifCond .lt 14, 70), (59, .iload_n 3, 0), (60, .ifCond .ne 14, 74), (63, .aload_n 0, 0), (64, .getfield 20, 707), (67, .ifCond .eq 7, 74), (70, .iconst 1, 0), (71, .goto 4, 75), (74, .iconst 0, 0), (75, .ireturn, 0)]
def il_83 : List (Nat × Instr × Nat) := [(0, .aload_n 0, 0), (1, .getfield 19, 325), (4, .iload_n 1, 0), (5, .dup2, 0), (6, .iaload, 0), (7, .iload_n 2, 0), (8, .ior, 0), (9, .iastore, 0), (10, .iconst 0, 0), (11, .istore_n 3, 0), (12, .iload_n 3, 0), (13, .aload_n 0, 0), (14, .getfield 25, 320), (17, .invokevirtual 50, 66), (20, .if_icmp .ge 29, 49), (23, .iload_n 2, 0), (24, .iload_n 3, 0), (25, .invokestatic 54, 10), (28, .ifCond .eq 15, 43), (31, .aload_n 0, 0), (32, .getfield 19, 325), (35, .iload_n 3, 0), (36, .dup2, 0), (37, .iaload, 0), (38, .iconst 1, 0), (39, .iload_n 1, 0), (40, .ishl, 0), (41, .ior, 0), (42, .iastore, 0), (43, .iinc 3 1, 0), (46, .goto (-34), 12), (49, .return_, 0)]
def il_84 : List (Nat × Instr × Nat) := [(0, .aload_n 0, 0), (1, .getfield 25, 320), (4, .iload_n 1, 0), (5, .invokevirtual 91, 75), (8, .getfield 127, 580), (11, .astore_n 2, 0), (12, .iconst 0, 0), (13, .istore_n 3, 0), (14, .iload_n 3, 0), (15, .aload_n 2, 0), (16, .invokevirtual 104, 69), (19, .if_icmp .ge 41, 60), (22, .aload_n 0, 0), (23, .aload_n 2, 0), (24, .iload_n 3, 0), (25, .invokevirtual 107, 77), (28, .invokevirtual 111, 78), (31, .istore 4, 0), (33, .iload 4, 0), (35, .ifCond .lt 19, 54), (38, .aload_n 0, 0), (39, .iload_n 1, 0), (40, .aload_n 0, 0), (41, .iload 4, 0), (43, .aload_n 2, 0), (44, .iload_n 3, 0), (45, .invokevirtual 115, 79), (48, .invokevirtual 119, 80), (51, .invokevirtual 123, 83), (54, .iinc 3 1, 0), (57, .goto (-43), 14), (60, .return_, 0)]
def il_85 : List (Nat × Instr × Nat) := [(0, .aload_n 0, 0), (1, .iconst 0, 0), (2, .putfield 130, 327), (5, .aload_n 0, 0), (6, .iconst 1, 0), (7, .putfield 44, 329), (10, .iconst 0, 0), (11, .istore_n 1, 0), (12, .iload_n 1, 0), (13, .aload_n 0, 0), (14, .getfield 29, 321), (17, .invokevirtual 104, 69), (20, .if_icmp .ge 77, 97), (23, .aload_n 0, 0), (24, .aload_n 0, 0), (25, .getfield 29, 321), (28, .iload_n 1, 0), (29, .invokevirtual 107, 77), (32, .invokevirtual 111, 78), (35, .istore_n 2, 0), (36, .iload_n 2, 0), (37, .ifCond .ge 11, 48), (40, .aload_n 0, 0), (41, .iconst 0, 0), (42, .putfield 44, 329), (45, .goto 46, 91), (48, .aload_n 0, 0), (49, .dup, 0), (50, .getfield 130, 327), (53, .iconst 1, 0), (54, .iload_n 2, 0), (55, .ishl, 0), (56, .ior, 0), (57, .putfield 130, 327), (60, .aload_n 0, 0), (61, .dup, 0), (62, .getfield 47, 328), (65, .aload_n 0, 0), (66, .getfield 9, 322), (69, .iload_n 2, 0), (70, .iaload, 0), (71, .iconst (-1), 0), (72, .ixor, 0), (73, .aload_n 0, 0), (74, .iload_n 2, 0), (75, .aload_n 0, 0), (76, .getfield 29, 321), (79, .iload_n 1, 0), (80, .invokevirtual 115, 79), (83, .invokevirtual 119, 80), (86, .ior, 0), (87, .iand, 0), (88, .putfield 47, 328), (91, .iinc 1 1, 0), (94, .goto (-82), 12), (97, .return_, 0)]
def il_86 : List (Nat × Instr × Nat) := [(0, .aload_n 0, 0), (1, .iload_n 3, 0), (2, .invokevirtual 60, 87), (5, .istore 4, 0), (7, .iload_n 2, 0), (8, .iload 4, 0), (10, .iconst (-1), 0), (11, .ixor, 0), (12, .iand, 0), (13, .ifCond .ne 12, 25), (16, .aload_n 0, 0), (17, .iload 4, 0), (19, .invokevirtual 64, 92), (22, .ifCond .ne 5, 27), (25, .iconst 0, 0), (26, .ireturn, 0), (27, .iload_n 1, 0), (28, .aload_n 0, 0), (29, .getfield 85, 324), (32, .if_icmp .lt 10, 42), (35, .aload_n 0, 0), (36, .iload_n 2, 0), (37, .putfield 40, 332), (40, .iconst 1, 0), (41, .ireturn, 0), (42, .aload_n 0, 0), (43, .iload_n 1, 0), (44, .iconst 1, 0), (45, .iadd, 0), (46, .iload_n 2, 0), (47, .iload 4, 0), (49, .aload_n 0, 0), (50, .getfield 9, 322), (53, .iload_n 1, 0), (54, .iaload, 0), (55, .iconst (-1), 0), (56, .ixor, 0), (57, .iand, 0), (58, .invokevirtual 81, 86), (61, .ifCond .eq 5, 66), (64, .iconst 1, 0), (65, .ireturn, 0), (66, .iconst 0, 0), (67, .istore 5, 0), (69, .iload 5, 0), (71, .aload_n 0, 0), (72, .getfield 25, 320), (75, .invokevirtual 50, 66), (78, .if_icmp .ge 56, 134), (81, .aload_n 0, 0), (82, .getfield 9, 322), (85, .iload_n 1, 0), (86, .iaload, 0), (87, .iload 4, 0), (89, .iand, 0), (90, .iload 5, 0), (92, .invokestatic 54, 10), (95, .ifCond .eq 33, 128), (98, .aload_n 0, 0), (99, .iload_n 1, 0), (100, .iconst 1, 0), (101, .iadd, 0), (102, .iload_n 2, 0), (103, .iconst 1, 0), (104, .iload 5, 0), (106, .ishl, 0), (107, .ior, 0), (108, .iload 4, 0), (110, .aload_n 0, 0), (111, .getfield 19, 325), (114, .iload 5, 0), (116, .iaload, 0), (117, .iconst (-1), 0), (118, .ixor, 0), (119, .iand, 0), (120, .invokevirtual 81, 86), (123, .ifCond .eq 5, 128), (126, .iconst 1, 0), (127, .ireturn, 0), (128, .iinc 5 1, 0), (131, .goto (-62), 69), (134, .iconst 0, 0), (135, .ireturn, 0)]
def il_87 : List (Nat × Instr × Nat) := [(0, .iload_n 1, 0), (1, .istore_n 2, 0), (2, .iconst 0, 0), (3, .istore_n 3, 0), (4, .iload_n 3, 0), (5, .bipush 32, 0), (7, .if_icmp .gt 31, 38), (10, .aload_n 0, 0), (11, .aload_n 0, 0), (12, .iload_n 2, 0), (13, .invokevirtual 143, 88), (16, .invokevirtual 146, 90), (19, .istore 4, 0), (21, .iload 4, 0), (23, .iload_n 2, 0), (24, .if_icmp .ne 5, 29), (27, .iload_n 2, 0), (28, .ireturn, 0), (29, .iload 4, 0), (31, .istore_n 2, 0), (32, .iinc 3 1, 0), (35, .goto (-31), 4), (38, .iload_n 2, 0), (39, .ireturn, 0)]
def il_88 : List (Nat × Instr × Nat) := [(0, .iload_n 1, 0), (1, .istore_n 2, 0), (2, .iconst 0, 0), (3, .istore_n 3, 0), (4, .iload_n 3, 0), (5, .aload_n 0, 0), (6, .getfield 25, 320), (9, .invokevirtual 50, 66), (12, .if_icmp .ge 34, 46), (15, .iload_n 2, 0), (16, .iload_n 3, 0), (17, .invokestatic 54, 10), (20, .ifCond .eq 20, 40), (23, .aload_n 0, 0), (24, .iload_n 3, 0), (25, .iload_n 2, 0), (26, .invokevirtual 149, 89), (29, .ifCond .ne 11, 40), (32, .iload_n 2, 0), (33, .iconst 1, 0), (34, .iload_n 3, 0), (35, .ishl, 0), (36, .iconst (-1), 0), (37, .ixor, 0), (38, .iand, 0), (39, .istore_n 2, 0), (40, .iinc 3 1, 0), (43, .goto (-39), 4), (46, .iload_n 2, 0), (47, .ireturn, 0)]
def il_89 : List (Nat × Instr × Nat) := [(0, .iload_n 2, 0), (1, .aload_n 0, 0), (2, .getfield 19, 325), (5, .iload_n 1, 0), (6, .iaload, 0), (7, .iconst (-1), 0), (8, .ixor, 0), (9, .iand, 0), (10, .istore_n 3, 0), (11, .iconst 0, 0), (12, .istore 4, 0), (14, .iload 4, 0), (16, .aload_n 0, 0), (17, .getfield 85, 324), (20, .if_icmp .ge 37, 57), (23, .aload_n 0, 0), (24, .getfield 22, 326), (27, .iload_n 1, 0), (28, .iaload, 0), (29, .iload 4, 0), (31, .invokestatic 54, 10), (34, .ifCond .eq 17, 51), (37, .aload_n 0, 0), (38, .getfield 9, 322), (41, .iload 4, 0), (43, .iaload, 0), (44, .iload_n 3, 0), (45, .iand, 0), (46, .ifCond .ne 5, 51), (49, .iconst 0, 0), (50, .ireturn, 0), (51, .iinc 4 1, 0), (54, .goto (-40), 14), (57, .iconst 1, 0), (58, .ireturn, 0)]
def il_90 : List (Nat × Instr × Nat) := [(0, .aload_n 0, 0), (1, .getfield 130, 327), (4, .istore_n 2, 0), (5, .iconst 0, 0), (6, .istore_n 3, 0), (7, .iconst 0, 0), (8, .istore 4, 0), (10, .iload 4, 0), (12, .aload_n 0, 0), (13, .getfield 85, 324), (16, .if_icmp .gt 68, 84), (19, .iload_n 3, 0), (20, .istore 5, 0), (22, .iload_n 1, 0), (23, .aload_n 0, 0), (24, .iload_n 2, 0), (25, .invokevirtual 152, 91), (28, .iand, 0), (29, .istore_n 3, 0), (30, .iload_n 3, 0), (31, .iload 5, 0), (33, .if_icmp .ne 5, 38), (36, .iload_n 3, 0), (37, .ireturn, 0), (38, .iconst 0, 0), (39, .istore 6, 0), (41, .iload 6, 0), (43, .aload_n 0, 0), (44, .getfield 25, 320), (47, .invokevirtual 50, 66), (50, .if_icmp .ge 28, 78), (53, .iload_n 3, 0), (54, .iload 6, 0), (56, .invokestatic 54, 10), (59, .ifCond .eq 13, 72), (62, .iload_n 2, 0), (63, .aload_n 0, 0), (64, .getfield 22, 326), (67, .iload 6, 0), (69, .iaload, 0), (70, .ior, 0), (71, .istore_n 2, 0), (72, .iinc 6 1, 0), (75, .goto (-34), 41), (78, .iinc 4 1, 0), (81, .goto (-71), 10), (84, .iload_n 3, 0), (85, .ireturn, 0)]
def il_91 : List (Nat × Instr × Nat) := [(0, .iconst 0, 0), (1, .istore_n 2, 0), (2, .iconst 0, 0), (3, .istore_n 3, 0), (4, .iload_n 3, 0), (5, .aload_n 0, 0), (6, .getfield 85, 324), (9, .if_icmp .ge 26, 35), (12, .iload_n 1, 0), (13, .iload_n 3, 0), (14, .invokestatic 54, 10), (17, .ifCond .eq 12, 29), (20, .iload_n 2, 0), (21, .aload_n 0, 0), (22, .getfield 9, 322), (25, .iload_n 3, 0), (26, .iaload, 0), (27, .ior, 0), (28, .istore_n 2, 0), (29, .iinc 3 1, 0), (32, .goto (-28), 4), (35, .iload_n 2, 0), (36, .ireturn, 0)]
def il_92 : List (Nat × Instr × Nat) := [(0, .iconst 0, 0), (1, .istore_n 2, 0), (2, .iload_n 2, 0), (3, .aload_n 0, 0), (4, .getfield 85, 324), (7, .if_icmp .ge 33, 40), (10, .aload_n 0, 0), (11, .getfield 130, 327), (14, .iload_n 2, 0), (15, .invokestatic 54, 10), (18, .ifCond .eq 16, 34), (21, .aload_n 0, 0), (22, .getfield 9, 322), (25, .iload_n 2, 0), (26, .iaload, 0), (27, .iload_n 1, 0), (28, .iand, 0), (29, .ifCond .ne 5, 34), (32, .iconst 0, 0), (33, .ireturn, 0), (34, .iinc 2 1, 0), (37, .goto (-35), 2), (40, .iconst 1, 0), (41, .ireturn, 0)]
def il_93 : List (Nat × Instr × Nat) := [(0, .aload_n 0, 0), (1, .getfield 13, 384), (4, .aload_n 0, 0), (5, .getfield 29, 385), (8, .iconst 1, 0), (9, .isub, 0), (10, .aaload, 0), (11, .areturn, 0)]
def il_94 : List (Nat × Instr × Nat) := [(0, .iconst 0, 0), (1, .istore_n 2, 0), (2, .iconst 0, 0), (3, .istore_n 3, 0), (4, .iload_n 3, 0), (5, .aload_n 1, 0), (6, .invokevirtual 151, 95), (9, .if_icmp .ge 40, 49), (12, .aload_n 0, 0), (13, .getfield 28, 2), (16, .aload_n 1, 0), (17, .iload_n 3, 0), (18, .invokevirtual 176, 96), (21, .getfield 98, 576), (24, .invokevirtual 104, 64), (27, .istore 4, 0), (29, .iload 4, 0), (31, .ifCond .ge 5, 36), (34, .iconst 0, 0), (35, .ireturn, 0), (36, .iload_n 2, 0), (37, .iconst 1, 0), (38, .iload 4, 0), (40, .ishl, 0), (41, .ior, 0), (42, .istore_n 2, 0), (43, .iinc 3 1, 0), (46, .goto (-42), 4), (49, .aload_n 0, 0), (50, .getfield 46, 4), (53, .iload_n 2, 0), (54, .invokevirtual 220, 97), (57, .ireturn, 0)]
def il_95 : List (Nat × Instr × Nat) := [(0, .aload_n 0, 0), (1, .getfield 7, 450), (4, .ireturn, 0)]
def il_96 : List (Nat × Instr × Nat) := [(0, .aload_n 0, 0), (1, .getfield 15, 448), (4, .iload_n 1, 0), (5, .aaload, 0), (6, .areturn, 0)]
def il_97 : List (Nat × Instr × Nat) := [(0, .aload_n 0, 0), (1, .getfield 44, 329), (4, .ifCond .eq 14, 18), (7, .iload_n 1, 0), (8, .aload_n 0, 0), (9, .getfield 47, 328), (12, .iconst (-1), 0), (13, .ixor, 0), (14, .iand, 0), (15, .ifCond .eq 5, 20), (18, .iconst 0, 0), (19, .ireturn, 0), (20, .iconst 0, 0), (21, .istore_n 2, 0), (22, .iload_n 2, 0), (23, .aload_n 0, 0), (24, .getfield 25, 320), (27, .invokevirtual 50, 66), (30, .if_icmp .ge 30, 60), (33, .iload_n 1, 0), (34, .iload_n 2, 0), (35, .invokestatic 54, 10), (38, .ifCond .eq 16, 54), (41, .aload_n 0, 0), (42, .getfield 19, 325), (45, .iload_n 2, 0), (46, .iaload, 0), (47, .iload_n 1, 0), (48, .iand, 0), (49, .ifCond .eq 5, 54), (52, .iconst 0, 0), (53, .ireturn, 0), (54, .iinc 2 1, 0), (57, .goto (-35), 22), (60, .aload_n 0, 0), (61, .iload_n 1, 0), (62, .invokevirtual 60, 87), (65, .iload_n 1, 0), (66, .if_icmp .ne 15, 81), (69, .aload_n 0, 0), (70, .iload_n 1, 0), (71, .invokevirtual 64, 92), (74, .ifCond .eq 7, 81), (77, .iconst 1, 0), (78, .goto 4, 82), (81, .iconst 0, 0), (82, .ireturn, 0)]
def il_98 : List (Nat × Instr × Nat) := [(0, .aload_n 0, 0), (1, .getfield 46, 4), (4, .invokevirtual 158, 99), (7, .ifCond .ne 5, 12), (10, .aconst_null, 0), (11, .areturn, 0), (12, .aload_n 0, 0), (13, .getfield 46, 4), (16, .invokevirtual 161, 100), (19, .istore_n 1, 0), (20, .bipush 8, 0), (22, .anewarray 99, 5), (25, .astore_n 2, 0), (26, .iconst 0, 0), (27, .istore_n 3, 0), (28, .iconst 0, 0), (29, .istore 4, 0), (31, .iload 4, 0), (33, .aload_n 0, 0), (34, .getfield 28, 2), (37, .invokevirtual 111, 66), (40, .if_icmp .ge 39, 79), (43, .iload_n 3, 0), (44, .aload_n 2, 0), (45, .arraylength, 0), (46, .if_icmp .ge 33, 79), (49, .iload_n 1, 0), (50, .iload 4, 0), (52, .invokestatic 169, 10), (55, .ifCond .eq 18, 73), (58, .aload_n 2, 0), (59, .iload_n 3, 0), (60, .aload_n 0, 0), (61, .getfield 28, 2), (64, .iload 4, 0), (66, .invokevirtual 173, 75), (69, .aastore, 0), (70, .iinc 3 1, 0), (73, .iinc 4 1, 0), (76, .goto (-45), 31), (79, .new 144, 7), (82, .dup, 0), (83, .aload_n 2, 0), (84, .iload_n 3, 0), (85, .invokespecial 223, 7), (88, .areturn, 0)]
def il_99 : List (Nat × Instr × Nat) := [(0, .aload_n 0, 0), (1, .getfield 37, 331), (4, .ireturn, 0)]
def il_100 : List (Nat × Instr × Nat) := [(0, .aload_n 0, 0), (1, .getfield 40, 332), (4, .ireturn, 0)]
def il_101 : List (Nat × Instr × Nat) := [(0, .iconst 0, 0), (1, .istore_n 1, 0), (2, .iload_n 1, 0), (3, .aload_n 0, 0), (4, .getfield 7, 450), (7, .if_icmp .ge 42, 49), (10, .iconst 0, 0), (11, .istore_n 2, 0), (12, .iload_n 2, 0), (13, .iload_n 1, 0), (14, .if_icmp .ge 29, 43), (17, .aload_n 0, 0), (18, .getfield 15, 448), (21, .iload_n 1, 0), (22, .aaload, 0), (23, .aload_n 0, 0), (24, .getfield 15, 448), (27, .iload_n 2, 0), (28, .aaload, 0), (29, .invokevirtual 40, 102), (32, .ifCond .eq 5, 37), (35, .iconst 1, 0), (36, .ireturn, 0), (37, .iinc 2 1, 0), (40, .goto (-28), 12), (43, .iinc 1 1, 0), (46, .goto (-44), 2), (49, .iconst 0, 0), (50, .ireturn, 0)]
def il_102 : List (Nat × Instr × Nat) := [(0, .iconst 0, 0), (1, .istore_n 2, 0), (2, .iload_n 2, 0), (3, .aload_n 0, 0), (4, .getfield 37, 582), (7, .if_icmp .ge 25, 32), (10, .aload_n 1, 0), (11, .aload_n 0, 0), (12, .getfield 33, 581), (15, .iload_n 2, 0), (16, .iconst 3, 0), (17, .imul, 0), (18, .invokevirtual 46, 103), (21, .ifCond .eq 5, 26), (24, .iconst 1, 0), (25, .ireturn, 0), (26, .iinc 2 1, 0), (29, .goto (-27), 2), (32, .iconst 0, 0), (33, .ireturn, 0)]
def il_103 : List (Nat × Instr × Nat) := [(0, .iconst 0, 0), (1, .istore_n 3, 0), (2, .iload_n 3, 0), (3, .aload_n 0, 0), (4, .getfield 37, 582), (7, .if_icmp .ge 67, 74), (10, .iconst 1, 0), (11, .istore 4, 0), (13, .iconst 0, 0), (14, .istore 5, 0), (16, .iload 5, 0), (18, .iconst 3, 0), (19, .if_icmp .ge 42, 61), (22, .iload 4, 0), (24, .ifCond .eq 37, 61), (27, .aload_n 0, 0), (28, .getfield 33, 581), (31, .iload_n 3, 0), (32, .iconst 3, 0), (33, .imul, 0), (34, .iload 5, 0), (36, .iadd, 0), (37, .laload, 0), (38, .aload_n 1, 0), (39, .iload_n 2, 0), (40, .iload 5, 0), (42, .iadd, 0), (43, .laload, 0), (44, .lcmp, 0), (45, .ifCond .ne 7, 52), (48, .iconst 1, 0), (49, .goto 4, 53), (52, .iconst 0, 0), (53, .istore 4, 0), (55, .iinc 5 1, 0), (58, .goto (-42), 16), (61, .iload 4, 0), (63, .ifCond .eq 5, 68), (66, .iconst 1, 0), (67, .ireturn, 0), (68, .iinc 3 1, 0), (71, .goto (-69), 2), (74, .iconst 0, 0), (75, .ireturn, 0)]
def il_104 : List (Nat × Instr × Nat) := [(0, .aload_n 0, 0), (1, .aload_n 0, 0), (2, .invokevirtual 36, 93), (5, .aload_n 1, 0), (6, .invokevirtual 40, 105), (9, .aload_n 0, 0), (10, .getfield 29, 385), (13, .iconst 4, 0), (14, .if_icmp .ne 40, 54), (17, .iconst 1, 0), (18, .istore_n 2, 0), (19, .iload_n 2, 0), (20, .iconst 4, 0), (21, .if_icmp .ge 23, 44), (24, .aload_n 0, 0), (25, .getfield 13, 384), (28, .iload_n 2, 0), (29, .iconst 1, 0), (30, .isub, 0), (31, .aload_n 0, 0), (32, .getfield 13, 384), (35, .iload_n 2, 0), (36, .aaload, 0), (37, .aastore, 0), (38, .iinc 2 1, 0), (41, .goto (-22), 19), (44, .aload_n 0, 0), (45, .dup, 0), (46, .getfield 29, 385), (49, .iconst 1, 0), (50, .isub, 0), (51, .putfield 29, 385), (54, .aload_n 0, 0), (55, .getfield 13, 384), (58, .aload_n 0, 0), (59, .getfield 29, 385), (62, .aload_n 1, 0), (63, .aastore, 0), (64, .aload_n 0, 0), (65, .dup, 0), (66, .getfield 29, 385), (69, .iconst 1, 0), (70, .iadd, 0), (71, .putfield 29, 385), (74, .aload_n 0, 0), (75, .dup, 0), (76, .getfield 33, 386), (79, .iconst 1, 0), (80, .iadd, 0), (81, .putfield 33, 386), (84, .return_, 0)]
def il_105 : List (Nat × Instr × Nat) := [(0, .aload_n 0, 0), (1, .iconst 0, 0), (2, .putfield 48, 389), (5, .aload_n 1, 0), (6, .invokevirtual 51, 95), (9, .iconst 1, 0), (10, .isub, 0), (11, .istore_n 3, 0), (12, .iload_n 3, 0), (13, .ifCond .lt 37, 50), (16, .aload_n 2, 0), (17, .aload_n 1, 0), (18, .iload_n 3, 0), (19, .invokevirtual 54, 96), (22, .getfield 58, 576), (25, .invokevirtual 61, 106), (28, .ifCond .ne 16, 44), (31, .aload_n 0, 0), (32, .aload_n 1, 0), (33, .iload_n 3, 0), (34, .invokevirtual 54, 96), (37, .getfield 58, 576), (40, .iconst 0, 0), (41, .invokevirtual 65, 107), (44, .iinc 3 (-1), 0), (47, .goto (-35), 12), (50, .iconst 0, 0), (51, .istore_n 3, 0), (52, .iload_n 3, 0), (53, .aload_n 2, 0), (54, .invokevirtual 51, 95), (57, .if_icmp .ge 37, 94), (60, .aload_n 1, 0), (61, .aload_n 2, 0), (62, .iload_n 3, 0), (63, .invokevirtual 54, 96), (66, .getfield 58, 576), (69, .invokevirtual 61, 106), (72, .ifCond .ne 16, 88), (75, .aload_n 0, 0), (76, .aload_n 2, 0), (77, .iload_n 3, 0), (78, .invokevirtual 54, 96), (81, .getfield 58, 576), (84, .iconst 1, 0), (85, .invokevirtual 65, 107), (88, .iinc 3 1, 0), (91, .goto (-39), 52), (94, .return_, 0)]
def il_106 : List (Nat × Instr × Nat) := [(0, .iconst 0, 0), (1, .istore_n 2, 0), (2, .iload_n 2, 0), (3, .aload_n 0, 0), (4, .getfield 7, 450), (7, .if_icmp .ge 24, 31), (10, .aload_n 0, 0), (11, .getfield 15, 448), (14, .iload_n 2, 0), (15, .aaload, 0), (16, .getfield 37, 576), (19, .iload_n 1, 0), (20, .if_icmp .ne 5, 25), (23, .iconst 1, 0), (24, .ireturn, 0), (25, .iinc 2 1, 0), (28, .goto (-26), 2), (31, .iconst 0, 0), (32, .ireturn, 0)]
def il_107 : List (Nat × Instr × Nat) := [(0, .aload_n 0, 0), (1, .getfield 48, 389), (4, .bipush 16, 0), (6, .if_icmp .ge 33, 39), (9, .aload_n 0, 0), (10, .getfield 17, 387), (13, .aload_n 0, 0), (14, .getfield 48, 389), (17, .iload_n 1, 0), (18, .iastore, 0), (19, .aload_n 0, 0), (20, .getfield 21, 388), (23, .aload_n 0, 0), (24, .getfield 48, 389), (27, .iload_n 2, 0), (28, .iastore, 0), (29, .aload_n 0, 0), (30, .dup, 0), (31, .getfield 48, 389), (34, .iconst 1, 0), (35, .iadd, 0), (36, .putfield 48, 389), (39, .return_, 0)]
def il_108 : List (Nat × Instr × Nat) := [(0, .aload_n 0, 0), (1, .getfield 53, 5), (4, .invokevirtual 152, 109), (7, .ifCond .ne 6, 13), (10, .bipush (-2), 0), (12, .ireturn, 0), (13, .iload_n 1, 0), (14, .ifCond .lt 6, 20), (17, .bipush (-5), 0), (19, .ireturn, 0), (20, .aload_n 0, 0), (21, .getfield 53, 5), (24, .invokevirtual 155, 110), (27, .aload_n 0, 0), (28, .getfield 53, 5), (31, .invokevirtual 132, 93), (34, .invokevirtual 151, 95), (37, .ireturn, 0)]
def il_109 : List (Nat × Instr × Nat) := [(0, .aload_n 0, 0), (1, .getfield 29, 385), (4, .iconst 1, 0), (5, .if_icmp .le 7, 12), (8, .iconst 1, 0), (9, .goto 4, 13), (12, .iconst 0, 0), (13, .ireturn, 0)]
def il_110 : List (Nat × Instr × Nat) := [(0, .aload_n 0, 0), (1, .invokevirtual 44, 109), (4, .ifCond .eq 42, 46), (7, .aload_n 0, 0), (8, .aload_n 0, 0), (9, .invokevirtual 36, 93), (12, .aload_n 0, 0), (13, .getfield 13, 384), (16, .aload_n 0, 0), (17, .getfield 29, 385), (20, .iconst 2, 0), (21, .isub, 0), (22, .aaload, 0), (23, .invokevirtual 40, 105), (26, .aload_n 0, 0), (27, .dup, 0), (28, .getfield 29, 385), (31, .iconst 1, 0), (32, .isub, 0), (33, .putfield 29, 385), (36, .aload_n 0, 0), (37, .getfield 13, 384), (40, .aload_n 0, 0), (41, .getfield 29, 385), (44, .aconst_null, 0), (45, .aastore, 0), (46, .return_, 0)]
def il_111 : List (Nat × Instr × Nat) := [(0, .aload_n 0, 0), (1, .getfield 46, 4), (4, .invokevirtual 129, 73), (7, .iload_n 1, 0), (8, .iconst (-1), 0), (9, .if_icmp .lt 13, 22), (12, .aload_n 0, 0), (13, .getfield 46, 4), (16, .invokevirtual 158, 99), (19, .ifCond .ne 6, 25), (22, .bipush (-2), 0), (24, .ireturn, 0), (25, .aload_n 0, 0), (26, .getfield 46, 4), (29, .invokevirtual 161, 100), (32, .istore_n 2, 0), (33, .iload_n 1, 0), (34, .iconst (-1), 0), (35, .if_icmp .ne 8, 43), (38, .iload_n 2, 0), (39, .invokestatic 164, 112), (42, .ireturn, 0), (43, .iconst 0, 0), (44, .istore_n 3, 0), (45, .iconst 0, 0), (46, .istore 4, 0), (48, .iload 4, 0), (50, .aload_n 0, 0), (51, .getfield 28, 2), (54, .invokevirtual 111, 66), (57, .if_icmp .ge 39, 96), (60, .iload_n 2, 0), (61, .iload 4, 0), (63, .invokestatic 169, 10), (66, .ifCond .eq 24, 90), (69, .iload_n 3, 0), (70, .iload_n 1, 0), (71, .if_icmp .ne 16, 87), (74, .aload_n 0, 0), (75, .getfield 28, 2), (78, .iload 4, 0), (80, .invokevirtual 173, 75), (83, .getfield 98, 576), (86, .ireturn, 0), (87, .iinc 3 1, 0), (90, .iinc 4 1, 0), (93, .goto (-45), 48), (96, .bipush (-2), 0), (98, .ireturn, 0)]
def il_112 : List (Nat × Instr × Nat) := [(0, .iload_n 0, 0), (1, .iload_n 0, 0), (2, .iconst 1, 0), (3, .iushr, 0), (4, .ldc_w 265, 0), (7, .iand, 0), (8, .isub, 0), (9, .istore_n 0, 0), (10, .iload_n 0, 0), (11, .ldc_w 266, 1), (14, .iand, 0), (15, .iload_n 0, 0), (16, .iconst 2, 0), (17, .iushr, 0), (18, .ldc_w 266, 1), (21, .iand, 0), (22, .iadd, 0), (23, .istore_n 0, 0), (24, .iload_n 0, 0), (25, .iload_n 0, 0), (26, .iconst 4, 0), (27, .iushr, 0), (28, .iadd, 0), (29, .ldc_w 267, 2), (32, .iand, 0), (33, .istore_n 0, 0), (34, .iload_n 0, 0), (35, .iload_n 0, 0), (36, .bipush 8, 0), (38, .iushr, 0), (39, .iadd, 0), (40, .istore_n 0, 0), (41, .iload_n 0, 0), (42, .iload_n 0, 0), (43, .bipush 16, 0), (45, .iushr, 0), (46, .iadd, 0), (47, .istore_n 0, 0), (48, .iload_n 0, 0), (49, .bipush 63, 0), (51, .iand, 0), (52, .ireturn, 0)]
def il_113 : List (Nat × Instr × Nat) := [(0, .iload_n 2, 0), (1, .ifCond .eq 10, 11), (4, .iload_n 2, 0), (5, .iconst 1, 0), (6, .if_icmp .eq 5, 11), (9, .iconst (-1), 0), (10, .ireturn, 0), (11, .aload_n 0, 0), (12, .getfield 53, 5), (15, .invokevirtual 132, 93), (18, .astore_n 3, 0), (19, .iload_n 1, 0), (20, .ifCond .lt 11, 31), (23, .iload_n 1, 0), (24, .aload_n 3, 0), (25, .invokevirtual 151, 95), (28, .if_icmp .lt 6, 34), (31, .bipush (-2), 0), (33, .ireturn, 0), (34, .iload_n 2, 0), (35, .ifCond .ne 14, 49), (38, .aload_n 3, 0), (39, .iload_n 1, 0), (40, .invokevirtual 176, 96), (43, .getfield 98, 576), (46, .goto 8, 54), (49, .aload_n 3, 0), (50, .iload_n 1, 0), (51, .invokevirtual 177, 114), (54, .ireturn, 0)]
def il_114 : List (Nat × Instr × Nat) := [(0, .aload_n 0, 0), (1, .getfield 19, 449), (4, .iload_n 1, 0), (5, .iaload, 0), (6, .ireturn, 0)]
def il_115 : List (Nat × Instr × Nat) := [(0, .iload_n 2, 0), (1, .ifCond .eq 10, 11), (4, .iload_n 2, 0), (5, .iconst 1, 0), (6, .if_icmp .eq 5, 11), (9, .iconst (-1), 0), (10, .ireturn, 0), (11, .iload_n 1, 0), (12, .ifCond .lt 14, 26), (15, .iload_n 1, 0), (16, .aload_n 0, 0), (17, .getfield 53, 5), (20, .invokevirtual 180, 116), (23, .if_icmp .lt 6, 29), (26, .bipush (-2), 0), (28, .ireturn, 0), (29, .iload_n 2, 0), (30, .ifCond .ne 14, 44), (33, .aload_n 0, 0), (34, .getfield 53, 5), (37, .iload_n 1, 0), (38, .invokevirtual 183, 117), (41, .goto 11, 52), (44, .aload_n 0, 0), (45, .getfield 53, 5), (48, .iload_n 1, 0), (49, .invokevirtual 186, 118), (52, .ireturn, 0)]
def il_116 : List (Nat × Instr × Nat) := [(0, .aload_n 0, 0), (1, .getfield 48, 389), (4, .ireturn, 0)]
def il_117 : List (Nat × Instr × Nat) := [(0, .aload_n 0, 0), (1, .getfield 17, 387), (4, .iload_n 1, 0), (5, .iaload, 0), (6, .ireturn, 0)]
def il_118 : List (Nat × Instr × Nat) := [(0, .aload_n 0, 0), (1, .getfield 21, 388), (4, .iload_n 1, 0), (5, .iaload, 0), (6, .ireturn, 0)]
def il_119 : List (Nat × Instr × Nat) := [(0, .aload_n 0, 0), (1, .getfield 21, 1), (4, .invokevirtual 71, 20), (7, .aload_n 0, 0), (8, .getfield 21, 1), (11, .invokevirtual 189, 52), (14, .astore_n 1, 0), (15, .aload_n 0, 0), (16, .invokevirtual 81, 54), (19, .ifCond .eq 7, 26), (22, .aload_n 1, 0), (23, .ifnonnull 6, 29), (26, .bipush (-6), 0), (28, .ireturn, 0), (29, .aload_n 0, 0), (30, .getfield 53, 5), (33, .invokevirtual 132, 93), (36, .astore_n 2, 0), (37, .iconst 0, 0), (38, .istore_n 3, 0), (39, .iload_n 3, 0), (40, .aload_n 2, 0), (41, .invokevirtual 151, 95), (44, .if_icmp .ge 31, 75), (47, .aload_n 2, 0), (48, .iload_n 3, 0), (49, .invokevirtual 176, 96), (52, .aload_n 1, 0), (53, .iconst 0, 0), (54, .invokevirtual 193, 103), (57, .ifCond .eq 12, 69), (60, .aload_n 2, 0), (61, .iload_n 3, 0), (62, .invokevirtual 176, 96), (65, .getfield 98, 576), (68, .ireturn, 0), (69, .iinc 3 1, 0), (72, .goto (-33), 39), (75, .bipush (-2), 0), (77, .ireturn, 0)]
def il_120 : List (Nat × Instr × Nat) := [(0, .aload_n 0, 0), (1, .getfield 21, 1), (4, .invokevirtual 71, 20), (7, .aload_n 0, 0), (8, .getfield 21, 1), (11, .invokevirtual 197, 31), (14, .astore_n 1, 0), (15, .aload_n 1, 0), (16, .ifnonnull 7, 23), (19, .aconst_null, 0), (20, .goto 10, 30), (23, .aload_n 0, 0), (24, .getfield 21, 1), (27, .invokevirtual 197, 31), (30, .astore_n 2, 0), (31, .aload_n 0, 0), (32, .invokevirtual 81, 54), (35, .ifCond .eq 11, 46), (38, .aload_n 1, 0), (39, .ifnull 7, 46), (42, .aload_n 2, 0), (43, .ifnonnull 6, 49), (46, .bipush (-6), 0), (48, .ireturn, 0), (49, .aload_n 1, 0), (50, .aload_n 2, 0), (51, .invokevirtual 201, 58), (54, .ireturn, 0)]
def il_121 : List (Nat × Instr × Nat) := [(0, .aload_n 0, 0), (1, .getfield 21, 1), (4, .invokevirtual 71, 20), (7, .aload_n 0, 0), (8, .getfield 21, 1), (11, .invokevirtual 197, 31), (14, .astore_n 1, 0), (15, .aload_n 1, 0), (16, .ifnonnull 7, 23), (19, .aconst_null, 0), (20, .goto 10, 30), (23, .aload_n 0, 0), (24, .getfield 21, 1), (27, .invokevirtual 116, 43), (30, .astore_n 2, 0), (31, .aload_n 0, 0), (32, .invokevirtual 81, 54), (35, .ifCond .eq 11, 46), (38, .aload_n 1, 0), (39, .ifnull 7, 46), (42, .aload_n 2, 0), (43, .ifnonnull 6, 49), (46, .bipush (-6), 0), (48, .ireturn, 0), (49, .aload_n 2, 0), (50, .aload_n 1, 0), (51, .invokevirtual 207, 81), (54, .ifCond .eq 7, 61), (57, .iconst 1, 0), (58, .goto 4, 62), (61, .iconst 0, 0), (62, .ireturn, 0)]
def il_122 : List (Nat × Instr × Nat) := [(0, .iload_n 1, 0), (1, .tableswitch 90 0 5 #[39, 47, 55, 66, 74, 82], 39), (40, .aload_n 0, 0), (41, .getfield 28, 2), (44, .invokevirtual 111, 66), (47, .ireturn, 0), (48, .aload_n 0, 0), (49, .getfield 37, 3), (52, .invokevirtual 124, 69), (55, .ireturn, 0), (56, .aload_n 0, 0), (57, .getfield 53, 5), (60, .invokevirtual 132, 93), (63, .invokevirtual 151, 95), (66, .ireturn, 0), (67, .aload_n 0, 0), (68, .getfield 53, 5), (71, .invokevirtual 213, 123), (74, .ireturn, 0), (75, .aload_n 0, 0), (76, .getfield 53, 5), (79, .invokevirtual 214, 124), (82, .ireturn, 0), (83, .aload_n 0, 0), (84, .getfield 10, 0), (87, .invokevirtual 64, 16), (90, .ireturn, 0), (91, .iconst (-1), 0), (92, .ireturn, 0)]
def il_123 : List (Nat × Instr × Nat) := [(0, .aload_n 0, 0), (1, .getfield 29, 385), (4, .ireturn, 0)]
def il_124 : List (Nat × Instr × Nat) := [(0, .aload_n 0, 0), (1, .getfield 33, 386), (4, .ireturn, 0)]
def il_125 : List (Nat × Instr × Nat) := [(0, .aload_n 0, 0), (1, .invokespecial 11, 9999), (4, .aload_n 0, 0), (5, .sipush 400, 0), (8, .newarray .char, 0), (10, .putfield 19, 768), (13, .aload_n 0, 0), (14, .sipush 400, 0), (17, .anewarray 2, 9), (20, .putfield 23, 770), (23, .aload_n 0, 0), (24, .bipush 32, 0), (26, .anewarray 27, 10), (29, .putfield 29, 773), (32, .aload_n 0, 0), (33, .bipush 6, 0), (35, .anewarray 2, 9), (38, .putfield 33, 776), (41, .aload_n 0, 0), (42, .bipush 6, 0), (44, .anewarray 36, 11), (47, .putfield 38, 777), (50, .aload_n 0, 0), (51, .iconst 4, 0), (52, .anewarray 42, 12), (55, .putfield 44, 779), (58, .aload_n 0, 0), (59, .iconst 1, 0), (60, .putfield 48, 780), (63, .aload_n 0, 0), (64, .bipush 16, 0), (66, .anewarray 27, 10), (69, .putfield 52, 782), (72, .aload_n 0, 0), (73, .bipush 16, 0), (75, .newarray .boolean, 4), (77, .putfield 55, 783), (80, .aload_n 0, 0), (81, .bipush 8, 0), (83, .anewarray 2, 9), (86, .putfield 59, 785), (89, .aload_n 0, 0), (90, .bipush 8, 0), (92, .anewarray 27, 10), (95, .putfield 62, 787), (98, .aload_n 0, 0), (99, .bipush 8, 0), (101, .anewarray 27, 10), (104, .putfield 65, 788), (107, .aload_n 0, 0), (108, .bipush 8, 0), (110, .newarray .boolean, 4), (112, .putfield 68, 791), (115, .aload_n 0, 0), (116, .getfield 44, 779), (119, .iconst 0, 0), (120, .new 42, 13), (123, .dup, 0), (124, .invokespecial 71, 126), (127, .aastore, 0), (128, .return_, 0)]
def il_126 : List (Nat × Instr × Nat) := [(0, .aload_n 0, 0), (1, .invokespecial 3, 9999), (4, .aload_n 0, 0), (5, .bipush 8, 0), (7, .anewarray 9, 10), (10, .putfield 11, 832), (13, .aload_n 0, 0), (14, .bipush 8, 0), (16, .newarray .int, 2), (18, .putfield 17, 833), (21, .return_, 0)]
def il_127 : List (Nat × Instr × Nat) := [(0, .aload_n 0, 0), (1, .getfield 72, 769), (4, .bipush 20, 0), (6, .iadd, 0), (7, .sipush 400, 0), (10, .if_icmp .le 6, 16), (13, .bipush (-3), 0), (15, .ireturn, 0), (16, .aload_n 0, 0), (17, .iload_n 1, 0), (18, .invokevirtual 75, 128), (21, .aload_n 0, 0), (22, .iload_n 2, 0), (23, .invokevirtual 75, 128), (26, .aload_n 0, 0), (27, .iload_n 3, 0), (28, .invokevirtual 75, 128), (31, .aload_n 0, 0), (32, .iload 4, 0), (34, .invokevirtual 75, 128), (37, .aload_n 0, 0), (38, .iload 5, 0), (40, .invokevirtual 75, 128), (43, .aload_n 0, 0), (44, .getfield 72, 769), (47, .ireturn, 0)]
def il_128 : List (Nat × Instr × Nat) := [(0, .bipush 24, 0), (2, .istore_n 2, 0), (3, .iload_n 2, 0), (4, .ifCond .lt 36, 40), (7, .aload_n 0, 0), (8, .getfield 19, 768), (11, .aload_n 0, 0), (12, .getfield 72, 769), (15, .iload_n 1, 0), (16, .iload_n 2, 0), (17, .ishr, 0), (18, .sipush 255, 0), (21, .iand, 0), (22, .i2c, 0), (23, .castore, 0), (24, .aload_n 0, 0), (25, .dup, 0), (26, .getfield 72, 769), (29, .iconst 1, 0), (30, .iadd, 0), (31, .putfield 72, 769), (34, .iinc 2 (-8), 0), (37, .goto (-34), 3), (40, .return_, 0)]
def il_129 : List (Nat × Instr × Nat) := [(0, .iload_n 1, 0), (1, .ifCond .lt 11, 12), (4, .iload_n 1, 0), (5, .aload_n 0, 0), (6, .getfield 72, 769), (9, .if_icmp .le 5, 14), (12, .iconst (-1), 0), (13, .ireturn, 0), (14, .aload_n 0, 0), (15, .iload_n 1, 0), (16, .putfield 72, 769), (19, .iload_n 1, 0), (20, .ireturn, 0)]
def il_130 : List (Nat × Instr × Nat) := [(0, .aload_n 0, 0), (1, .invokevirtual 240, 131), (4, .astore_n 1, 0), (5, .aload_n 1, 0), (6, .ifnonnull 6, 12), (9, .bipush (-6), 0), (11, .ireturn, 0), (12, .iconst 0, 0), (13, .istore_n 2, 0), (14, .iconst 0, 0), (15, .istore_n 3, 0), (16, .iload_n 3, 0), (17, .aload_n 0, 0), (18, .getfield 244, 774), (21, .if_icmp .ge 56, 77), (24, .aload_n 0, 0), (25, .getfield 29, 773), (28, .iload_n 3, 0), (29, .aaload, 0), (30, .getfield 205, 897), (33, .aload_n 1, 0), (34, .getfield 205, 897), (37, .invokevirtual 92, 8888), (40, .ifCond .ne 6, 46), (43, .goto 28, 71), (46, .aload_n 0, 0), (47, .getfield 29, 773), (50, .iload_n 3, 0), (51, .aaload, 0), (52, .getfield 209, 898), (55, .aload_n 1, 0), (56, .getfield 209, 898), (59, .invokestatic 186, 148), (62, .ifCond .ne 6, 68), (65, .bipush (-4), 0), (67, .ireturn, 0), (68, .iinc 2 1, 0), (71, .iinc 3 1, 0), (74, .goto (-58), 16), (77, .aload_n 0, 0), (78, .invokevirtual 247, 150), (81, .aload_n 0, 0), (82, .getfield 244, 774), (85, .bipush 32, 0), (87, .if_icmp .eq 21, 108), (90, .iload_n 2, 0), (91, .iconst 5, 0), (92, .if_icmp .eq 16, 108), (95, .iload_n 2, 0), (96, .ifCond .ne 15, 111), (99, .aload_n 0, 0), (100, .getfield 250, 786), (103, .bipush 8, 0), (105, .if_icmp .ne 6, 111), (108, .bipush (-3), 0), (110, .ireturn, 0), (111, .aload_n 1, 0), (112, .aload_n 0, 0), (113, .getfield 253, 775), (116, .putfield 256, 896), (119, .aload_n 0, 0), (120, .dup, 0), (121, .getfield 253, 775), (124, .iconst 1, 0), (125, .iadd, 0), (126, .putfield 253, 775), (129, .aload_n 0, 0), (130, .getfield 29, 773), (133, .aload_n 0, 0), (134, .getfield 244, 774), (137, .aload_n 1, 0), (138, .aastore, 0), (139, .aload_n 0, 0), (140, .dup, 0), (141, .getfield 244, 774), (144, .iconst 1, 0), (145, .iadd, 0), (146, .putfield 244, 774), (149, .aload_n 0, 0), (150, .iconst 0, 0), (151, .putfield 258, 790), (154, .aload_n 1, 0), (155, .getfield 256, 896), (158, .ireturn, 0)]
def il_131 : List (Nat × Instr × Nat) := [(0, .aload_n 0, 0), (1, .invokevirtual 198, 132), (4, .new 27, 14), (7, .dup, 0), (8, .invokespecial 201, 133), (11, .astore_n 1, 0), (12, .aload_n 0, 0), (13, .getfield 79, 771), (16, .iconst 2, 0), (17, .if_icmp .lt 15, 32), (20, .aload_n 0, 0), (21, .getfield 23, 770), (24, .iconst 0, 0), (25, .aaload, 0), (26, .invokestatic 202, 134), (29, .ifCond .ne 5, 34), (32, .aconst_null, 0), (33, .areturn, 0), (34, .aload_n 1, 0), (35, .aload_n 0, 0), (36, .getfield 23, 770), (39, .iconst 0, 0), (40, .aaload, 0), (41, .putfield 205, 897), (44, .aload_n 1, 0), (45, .aload_n 0, 0), (46, .getfield 23, 770), (49, .iconst 1, 0), (50, .aaload, 0), (51, .iconst 0, 0), (52, .invokestatic 180, 135), (55, .putfield 209, 898), (58, .aload_n 1, 0), (59, .getfield 209, 898), (62, .ifnonnull 5, 67), (65, .aconst_null, 0), (66, .areturn, 0), (67, .aload_n 0, 0), (68, .iconst 2, 0), (69, .putfield 82, 772), (72, .aload_n 0, 0), (73, .getfield 82, 772), (76, .aload_n 0, 0), (77, .getfield 79, 771), (80, .if_icmp .ge 242, 322), (83, .aload_n 0, 0), (84, .invokevirtual 151, 141), (87, .astore_n 2, 0), (88, .aload_n 0, 0), (89, .dup, 0), (90, .getfield 82, 772), (93, .iconst 1, 0), (94, .iadd, 0), (95, .putfield 82, 772), (98, .aload_n 2, 0), (99, .ldc 98, 10002), (101, .invokevirtual 92, 8888), (104, .ifCond .eq 59, 163), (107, .aload_n 1, 0), (108, .getfield 212, 906), (111, .iconst 4, 0), (112, .if_icmp .eq 13, 125), (115, .aload_n 0, 0), (116, .invokevirtual 151, 141), (119, .invokestatic 215, 142), (122, .ifCond .ne 5, 127), (125, .aconst_null, 0), (126, .areturn, 0), (127, .aload_n 1, 0), (128, .getfield 218, 905), (131, .aload_n 1, 0), (132, .getfield 212, 906), (135, .aload_n 0, 0), (136, .invokevirtual 151, 141), (139, .aastore, 0), (140, .aload_n 1, 0), (141, .dup, 0), (142, .getfield 212, 906), (145, .iconst 1, 0), (146, .iadd, 0), (147, .putfield 212, 906), (150, .aload_n 0, 0), (151, .dup, 0), (152, .getfield 82, 772), (155, .iconst 1, 0), (156, .iadd, 0), (157, .putfield 82, 772), (160, .goto (-88), 72), (163, .aload_n 2, 0), (164, .ldc 90, 10000), (166, .invokevirtual 92, 8888), (169, .istore_n 3, 0), (170, .iload_n 3, 0), (171, .ifCond .ne 12, 183), (174, .aload_n 2, 0), (175, .ldc 96, 10001), (177, .invokevirtual 92, 8888), (180, .ifCond .eq 37, 217), (183, .iload_n 3, 0), (184, .ifCond .eq 15, 199), (187, .aload_n 1, 0), (188, .getfield 220, 901), (191, .bipush 6, 0), (193, .if_icmp .ne 14, 207), (196, .goto 21, 217), (199, .aload_n 1, 0), (200, .getfield 223, 904), (203, .iconst 3, 0), (204, .if_icmp .eq 13, 217), (207, .aload_n 0, 0), (208, .invokevirtual 151, 141), (211, .invokestatic 202, 134), (214, .ifCond .ne 5, 219), (217, .aconst_null, 0), (218, .areturn, 0), (219, .aload_n 0, 0), (220, .invokevirtual 151, 141), (223, .astore 4, 0), (225, .aload_n 0, 0), (226, .dup, 0), (227, .getfield 82, 772), (230, .iconst 1, 0), (231, .iadd, 0), (232, .putfield 82, 772), (235, .aload_n 0, 0), (236, .invokevirtual 226, 143), (239, .astore 5, 0), (241, .aload 5, 0), (243, .ifnonnull 5, 248), (246, .aconst_null, 0), (247, .areturn, 0), (248, .iload_n 3, 0), (249, .ifCond .eq 38, 287), (252, .aload_n 1, 0), (253, .getfield 230, 899), (256, .aload_n 1, 0), (257, .getfield 220, 901), (260, .aload 4, 0), (262, .aastore, 0), (263, .aload_n 1, 0), (264, .getfield 232, 900), (267, .aload_n 1, 0), (268, .getfield 220, 901), (271, .aload 5, 0), (273, .aastore, 0), (274, .aload_n 1, 0), (275, .dup, 0), (276, .getfield 220, 901), (279, .iconst 1, 0), (280, .iadd, 0), (281, .putfield 220, 901), (284, .goto 35, 319), (287, .aload_n 1, 0), (288, .getfield 235, 902), (291, .aload_n 1, 0), (292, .getfield 223, 904), (295, .aload 4, 0), (297, .aastore, 0), (298, .aload_n 1, 0), (299, .getfield 237, 903), (302, .aload_n 1, 0), (303, .getfield 223, 904), (306, .aload 5, 0), (308, .aastore, 0), (309, .aload_n 1, 0), (310, .dup, 0), (311, .getfield 223, 904), (314, .iconst 1, 0), (315, .iadd, 0), (316, .putfield 223, 904), (319, .goto (-247), 72), (322, .aload_n 1, 0), (323, .areturn, 0)]
def il_132 : List (Nat × Instr × Nat) := [(0, .aload_n 0, 0), (1, .iconst 0, 0), (2, .putfield 79, 771), (5, .aload_n 0, 0), (6, .iconst 0, 0), (7, .putfield 82, 772), (10, .iconst 0, 0), (11, .istore_n 1, 0), (12, .iload_n 1, 0), (13, .aload_n 0, 0), (14, .getfield 72, 769), (17, .if_icmp .ge 84, 101), (20, .aload_n 0, 0), (21, .getfield 19, 768), (24, .iload_n 1, 0), (25, .caload, 0), (26, .bipush 32, 0), (28, .if_icmp .ne 9, 37), (31, .iinc 1 1, 0), (34, .goto (-22), 12), (37, .iload_n 1, 0), (38, .istore_n 2, 0), (39, .iload_n 1, 0), (40, .aload_n 0, 0), (41, .getfield 72, 769), (44, .if_icmp .ge 20, 64), (47, .aload_n 0, 0), (48, .getfield 19, 768), (51, .iload_n 1, 0), (52, .caload, 0), (53, .bipush 32, 0), (55, .if_icmp .eq 9, 64), (58, .iinc 1 1, 0), (61, .goto (-22), 39), (64, .aload_n 0, 0), (65, .getfield 23, 770), (68, .aload_n 0, 0), (69, .getfield 79, 771), (72, .new 2, 17), (75, .dup, 0), (76, .aload_n 0, 0), (77, .getfield 19, 768), (80, .iload_n 2, 0), (81, .iload_n 1, 0), (82, .iload_n 2, 0), (83, .isub, 0), (84, .invokespecial 85, 8888), (87, .aastore, 0), (88, .aload_n 0, 0), (89, .dup, 0), (90, .getfield 79, 771), (93, .iconst 1, 0), (94, .iadd, 0), (95, .putfield 79, 771), (98, .goto (-86), 12), (101, .aload_n 0, 0), (102, .iconst 0, 0), (103, .putfield 72, 769), (106, .return_, 0)]
def il_133 : List (Nat × Instr × Nat) := [(0, .aload_n 0, 0), (1, .invokespecial 1, 9999), (4, .aload_n 0, 0), (5, .bipush 6, 0), (7, .anewarray 7, 9), (10, .putfield 9, 899), (13, .aload_n 0, 0), (14, .bipush 6, 0), (16, .anewarray 15, 11), (19, .putfield 17, 900), (22, .aload_n 0, 0), (23, .iconst 3, 0), (24, .anewarray 7, 9), (27, .putfield 21, 902), (30, .aload_n 0, 0), (31, .iconst 3, 0), (32, .anewarray 15, 11), (35, .putfield 24, 903), (38, .aload_n 0, 0), (39, .iconst 4, 0), (40, .anewarray 7, 9), (43, .putfield 27, 905), (46, .return_, 0)]
def il_134 : List (Nat × Instr × Nat) := [(0, .aload_n 0, 0), (1, .invokevirtual 1, 28), (4, .iconst 1, 0), (5, .if_icmp .lt 39, 44), (8, .aload_n 0, 0), (9, .invokevirtual 1, 28), (12, .bipush 8, 0), (14, .if_icmp .gt 30, 44), (17, .aload_n 0, 0), (18, .ldc 90, 10000), (20, .invokevirtual 92, 8888), (23, .ifCond .ne 21, 44), (26, .aload_n 0, 0), (27, .ldc 96, 10001), (29, .invokevirtual 92, 8888), (32, .ifCond .ne 12, 44), (35, .aload_n 0, 0), (36, .ldc 98, 10002), (38, .invokevirtual 92, 8888), (41, .ifCond .eq 5, 46), (44, .iconst 0, 0), (45, .ireturn, 0), (46, .iconst 0, 0), (47, .istore_n 1, 0), (48, .iload_n 1, 0), (49, .aload_n 0, 0), (50, .invokevirtual 1, 28), (53, .if_icmp .ge 31, 84), (56, .aload_n 0, 0), (57, .iload_n 1, 0), (58, .invokevirtual 7, 8888), (61, .bipush 97, 0), (63, .if_icmp .lt 13, 76), (66, .aload_n 0, 0), (67, .iload_n 1, 0), (68, .invokevirtual 7, 8888), (71, .bipush 122, 0), (73, .if_icmp .le 5, 78), (76, .iconst 0, 0), (77, .ireturn, 0), (78, .iinc 1 1, 0), (81, .goto (-33), 48), (84, .iconst 1, 0), (85, .ireturn, 0)]
def il_135 : List (Nat × Instr × Nat) := [(0, .new 111, 15), (3, .dup, 0), (4, .invokespecial 113, 136), (7, .astore_n 2, 0), (8, .iload_n 1, 0), (9, .istore_n 3, 0), (10, .iconst 0, 0), (11, .istore 4, 0), (13, .iload 4, 0), (15, .iconst 3, 0), (16, .if_icmp .ge 105, 121), (19, .iload_n 3, 0), (20, .istore 5, 0), (22, .iload 5, 0), (24, .aload_n 0, 0), (25, .invokevirtual 1, 28), (28, .if_icmp .ge 21, 49), (31, .aload_n 0, 0), (32, .iload 5, 0), (34, .invokevirtual 7, 8888), (37, .invokestatic 100, 137), (40, .ifCond .eq 9, 49), (43, .iinc 5 1, 0), (46, .goto (-24), 22), (49, .aload_n 2, 0), (50, .getfield 114, 960), (53, .iload 4, 0), (55, .aload_n 0, 0), (56, .iload_n 3, 0), (57, .iload 5, 0), (59, .invokevirtual 118, 8888), (62, .bipush 9, 0), (64, .invokestatic 122, 138), (67, .iastore, 0), (68, .aload_n 2, 0), (69, .getfield 114, 960), (72, .iload 4, 0), (74, .iaload, 0), (75, .ifCond .ge 5, 80), (78, .aconst_null, 0), (79, .areturn, 0), (80, .iload 5, 0), (82, .istore_n 3, 0), (83, .iload 4, 0), (85, .iconst 2, 0), (86, .if_icmp .ne 6, 92), (89, .goto 32, 121), (92, .iload_n 3, 0), (93, .aload_n 0, 0), (94, .invokevirtual 1, 28), (97, .if_icmp .ge 13, 110), (100, .aload_n 0, 0), (101, .iload_n 3, 0), (102, .invokevirtual 7, 8888), (105, .bipush 46, 0), (107, .if_icmp .eq 5, 112), (110, .aconst_null, 0), (111, .areturn, 0), (112, .iinc 3 1, 0), (115, .iinc 4 1, 0), (118, .goto (-105), 13), (121, .iload_n 3, 0), (122, .aload_n 0, 0), (123, .invokevirtual 1, 28), (126, .if_icmp .ne 5, 131), (129, .aload_n 2, 0), (130, .areturn, 0), (131, .aload_n 0, 0), (132, .iload_n 3, 0), (133, .invokevirtual 7, 8888), (136, .bipush 45, 0), (138, .if_icmp .eq 5, 143), (141, .aconst_null, 0), (142, .areturn, 0), (143, .iload_n 3, 0), (144, .aload_n 0, 0), (145, .invokevirtual 1, 28), (148, .if_icmp .ge 162, 310), (151, .iinc 3 1, 0), (154, .iload_n 3, 0), (155, .istore 4, 0), (157, .iload 4, 0), (159, .aload_n 0, 0), (160, .invokevirtual 1, 28), (163, .if_icmp .ge 44, 207), (166, .aload_n 0, 0), (167, .iload 4, 0), (169, .invokevirtual 7, 8888), (172, .invokestatic 104, 140), (175, .ifCond .ne 26, 201), (178, .aload_n 0, 0), (179, .iload 4, 0), (181, .invokevirtual 7, 8888), (184, .invokestatic 100, 137), (187, .ifCond .ne 14, 201), (190, .aload_n 0, 0), (191, .iload 4, 0), (193, .invokevirtual 7, 8888), (196, .bipush 45, 0), (198, .if_icmp .ne 9, 207), (201, .iinc 4 1, 0), (204, .goto (-47), 157), (207, .aload_n 0, 0), (208, .iload_n 3, 0), (209, .iload 4, 0), (211, .invokevirtual 118, 8888), (214, .astore 5, 0), (216, .aload 5, 0), (218, .invokevirtual 1, 28), (221, .iconst 1, 0), (222, .if_icmp .lt 39, 261), (225, .aload 5, 0), (227, .invokevirtual 1, 28), (230, .bipush 8, 0), (232, .if_icmp .gt 29, 261), (235, .aload_n 2, 0), (236, .getfield 125, 962), (239, .iconst 4, 0), (240, .if_icmp .eq 21, 261), (243, .aload 5, 0), (245, .invokestatic 107, 139), (248, .ifCond .eq 15, 263), (251, .aload 5, 0), (253, .bipush 8, 0), (255, .invokestatic 122, 138), (258, .ifCond .ge 5, 263), (261, .aconst_null, 0), (262, .areturn, 0), (263, .aload_n 2, 0), (264, .getfield 128, 961), (267, .aload_n 2, 0), (268, .getfield 125, 962), (271, .aload 5, 0), (273, .aastore, 0), (274, .aload_n 2, 0), (275, .dup, 0), (276, .getfield 125, 962), (279, .iconst 1, 0), (280, .iadd, 0), (281, .putfield 125, 962), (284, .iload 4, 0), (286, .istore_n 3, 0), (287, .iload_n 3, 0), (288, .aload_n 0, 0), (289, .invokevirtual 1, 28), (292, .if_icmp .ge 15, 307), (295, .aload_n 0, 0), (296, .iload_n 3, 0), (297, .invokevirtual 7, 8888), (300, .bipush 46, 0), (302, .if_icmp .eq 5, 307), (305, .aconst_null, 0), (306, .areturn, 0), (307, .goto (-164), 143), (310, .aload_n 2, 0), (311, .areturn, 0)]
def il_136 : List (Nat × Instr × Nat) := [(0, .aload_n 0, 0), (1, .invokespecial 1, 9999), (4, .aload_n 0, 0), (5, .iconst 3, 0), (6, .newarray .int, 2), (8, .putfield 7, 960), (11, .aload_n 0, 0), (12, .iconst 4, 0), (13, .anewarray 13, 9), (16, .putfield 15, 961), (19, .return_, 0)]
def il_137 : List (Nat × Instr × Nat) := [(0, .iload_n 0, 0), (1, .bipush 48, 0), (3, .if_icmp .lt 13, 16), (6, .iload_n 0, 0), (7, .bipush 57, 0), (9, .if_icmp .gt 7, 16), (12, .iconst 1, 0), (13, .goto 4, 17), (16, .iconst 0, 0), (17, .ireturn, 0)]
def il_138 : List (Nat × Instr × Nat) := [(0, .aload_n 0, 0), (1, .invokestatic 107, 139), (4, .ifCond .eq 29, 33), (7, .aload_n 0, 0), (8, .invokevirtual 1, 28), (11, .iload_n 1, 0), (12, .if_icmp .gt 21, 33), (15, .aload_n 0, 0), (16, .invokevirtual 1, 28), (19, .iconst 1, 0), (20, .if_icmp .le 15, 35), (23, .aload_n 0, 0), (24, .iconst 0, 0), (25, .invokevirtual 7, 8888), (28, .bipush 48, 0), (30, .if_icmp .ne 5, 35), (33, .iconst (-1), 0), (34, .ireturn, 0), (35, .iconst 0, 0), (36, .istore_n 2, 0), (37, .iconst 0, 0), (38, .istore_n 3, 0), (39, .iload_n 3, 0), (40, .aload_n 0, 0), (41, .invokevirtual 1, 28), (44, .if_icmp .ge 23, 67), (47, .bipush 10, 0), (49, .iload_n 2, 0), (50, .imul, 0), (51, .aload_n 0, 0), (52, .iload_n 3, 0), (53, .invokevirtual 7, 8888), (56, .iadd, 0), (57, .bipush 48, 0), (59, .isub, 0), (60, .istore_n 2, 0), (61, .iinc 3 1, 0), (64, .goto (-25), 39), (67, .iload_n 2, 0), (68, .ireturn, 0)]
def il_139 : List (Nat × Instr × Nat) := [(0, .iconst 0, 0), (1, .istore_n 1, 0), (2, .iload_n 1, 0), (3, .aload_n 0, 0), (4, .invokevirtual 1, 28), (7, .if_icmp .ge 22, 29), (10, .aload_n 0, 0), (11, .iload_n 1, 0), (12, .invokevirtual 7, 8888), (15, .invokestatic 100, 137), (18, .ifCond .ne 5, 23), (21, .iconst 0, 0), (22, .ireturn, 0), (23, .iinc 1 1, 0), (26, .goto (-24), 2), (29, .aload_n 0, 0), (30, .invokevirtual 1, 28), (33, .ifCond .le 7, 40), (36, .iconst 1, 0), (37, .goto 4, 41), (40, .iconst 0, 0), (41, .ireturn, 0)]
def il_140 : List (Nat × Instr × Nat) := [(0, .iload_n 0, 0), (1, .bipush 97, 0), (3, .if_icmp .lt 9, 12), (6, .iload_n 0, 0), (7, .bipush 122, 0), (9, .if_icmp .le 15, 24), (12, .iload_n 0, 0), (13, .bipush 65, 0), (15, .if_icmp .lt 13, 28), (18, .iload_n 0, 0), (19, .bipush 90, 0), (21, .if_icmp .gt 7, 28), (24, .iconst 1, 0), (25, .goto 4, 29), (28, .iconst 0, 0), (29, .ireturn, 0)]
def il_141 : List (Nat × Instr × Nat) := [(0, .aload_n 0, 0), (1, .getfield 82, 772), (4, .aload_n 0, 0), (5, .getfield 79, 771), (8, .if_icmp .ge 15, 23), (11, .aload_n 0, 0), (12, .getfield 23, 770), (15, .aload_n 0, 0), (16, .getfield 82, 772), (19, .aaload, 0), (20, .goto 5, 25), (23, .ldc 88, 10005), (25, .areturn, 0)]
def il_142 : List (Nat × Instr × Nat) := [(0, .aload_n 0, 0), (1, .invokevirtual 1, 28), (4, .iconst 1, 0), (5, .if_icmp .lt 12, 17), (8, .aload_n 0, 0), (9, .invokevirtual 1, 28), (12, .bipush 20, 0), (14, .if_icmp .le 5, 19), (17, .iconst 0, 0), (18, .ireturn, 0), (19, .iconst 0, 0), (20, .istore_n 1, 0), (21, .iload_n 1, 0), (22, .aload_n 0, 0), (23, .invokevirtual 1, 28), (26, .if_icmp .ge 49, 75), (29, .aload_n 0, 0), (30, .iload_n 1, 0), (31, .invokevirtual 7, 8888), (34, .istore_n 2, 0), (35, .iload_n 2, 0), (36, .invokestatic 100, 137), (39, .ifCond .ne 30, 69), (42, .iload_n 2, 0), (43, .invokestatic 104, 140), (46, .ifCond .ne 23, 69), (49, .iload_n 2, 0), (50, .bipush 46, 0), (52, .if_icmp .eq 17, 69), (55, .iload_n 2, 0), (56, .bipush 47, 0), (58, .if_icmp .eq 11, 69), (61, .iload_n 2, 0), (62, .bipush 45, 0), (64, .if_icmp .eq 5, 69), (67, .iconst 0, 0), (68, .ireturn, 0), (69, .iinc 1 1, 0), (72, .goto (-51), 21), (75, .iconst 1, 0), (76, .ireturn, 0)]
def il_143 : List (Nat × Instr × Nat) := [(0, .new 36, 16), (3, .dup, 0), (4, .invokespecial 155, 144), (7, .astore_n 1, 0), (8, .iconst 1, 0), (9, .istore_n 2, 0), (10, .iload_n 2, 0), (11, .ifCond .eq 182, 193), (14, .aload_n 1, 0), (15, .getfield 156, 1027), (18, .iconst 4, 0), (19, .if_icmp .ne 5, 24), (22, .aconst_null, 0), (23, .areturn, 0), (24, .iconst 0, 0), (25, .istore_n 3, 0), (26, .aload_n 0, 0), (27, .invokevirtual 159, 145), (30, .ifCond .ne 107, 137), (33, .aload_n 0, 0), (34, .invokevirtual 151, 141), (37, .ldc 163, 10004), (39, .invokevirtual 92, 8888), (42, .ifCond .ne 95, 137), (45, .iload_n 3, 0), (46, .iconst 4, 0), (47, .if_icmp .ne 5, 52), (50, .aconst_null, 0), (51, .areturn, 0), (52, .iconst 4, 0), (53, .aload_n 1, 0), (54, .getfield 156, 1027), (57, .imul, 0), (58, .iload_n 3, 0), (59, .iadd, 0), (60, .istore 4, 0), (62, .aload_n 0, 0), (63, .invokevirtual 151, 141), (66, .ldc 165, 10003), (68, .invokevirtual 92, 8888), (71, .ifCond .ne 50, 121), (74, .aload_n 1, 0), (75, .getfield 167, 1024), (78, .iload 4, 0), (80, .aload_n 0, 0), (81, .invokevirtual 151, 141), (84, .invokestatic 170, 146), (87, .iastore, 0), (88, .aload_n 1, 0), (89, .getfield 173, 1025), (92, .iload 4, 0), (94, .aload_n 0, 0), (95, .invokevirtual 151, 141), (98, .aload_n 0, 0), (99, .invokevirtual 151, 141), (102, .invokestatic 177, 147), (105, .invokestatic 180, 135), (108, .aastore, 0), (109, .aload_n 1, 0), (110, .getfield 173, 1025), (113, .iload 4, 0), (115, .aaload, 0), (116, .ifnonnull 5, 121), (119, .aconst_null, 0), (120, .areturn, 0), (121, .iinc 3 1, 0), (124, .aload_n 0, 0), (125, .dup, 0), (126, .getfield 82, 772), (129, .iconst 1, 0), (130, .iadd, 0), (131, .putfield 82, 772), (134, .goto (-108), 26), (137, .iload_n 3, 0), (138, .ifCond .ne 5, 143), (141, .aconst_null, 0), (142, .areturn, 0), (143, .aload_n 1, 0), (144, .getfield 183, 1026), (147, .aload_n 1, 0), (148, .getfield 156, 1027), (151, .iload_n 3, 0), (152, .iastore, 0), (153, .aload_n 1, 0), (154, .dup, 0), (155, .getfield 156, 1027), (158, .iconst 1, 0), (159, .iadd, 0), (160, .putfield 156, 1027), (163, .aload_n 0, 0), (164, .invokevirtual 159, 145), (167, .ifCond .ne 7, 174), (170, .iconst 1, 0), (171, .goto 4, 175), (174, .iconst 0, 0), (175, .istore_n 2, 0), (176, .iload_n 2, 0), (177, .ifCond .eq 13, 190), (180, .aload_n 0, 0), (181, .dup, 0), (182, .getfield 82, 772), (185, .iconst 1, 0), (186, .iadd, 0), (187, .putfield 82, 772), (190, .goto (-180), 10), (193, .aload_n 1, 0), (194, .areturn, 0)]
def il_144 : List (Nat × Instr × Nat) := [(0, .aload_n 0, 0), (1, .invokespecial 1, 9999), (4, .aload_n 0, 0), (5, .bipush 16, 0), (7, .newarray .int, 2), (9, .putfield 7, 1024), (12, .aload_n 0, 0), (13, .bipush 16, 0), (15, .anewarray 13, 13), (18, .putfield 15, 1025), (21, .aload_n 0, 0), (22, .iconst 4, 0), (23, .newarray .int, 2), (25, .putfield 19, 1026), (28, .return_, 0)]
def il_145 : List (Nat × Instr × Nat) := [(0, .aload_n 0, 0), (1, .getfield 82, 772), (4, .aload_n 0, 0), (5, .getfield 79, 771), (8, .if_icmp .eq 39, 47), (11, .aload_n 0, 0), (12, .invokevirtual 151, 141), (15, .ldc 90, 10000), (17, .invokevirtual 92, 8888), (20, .ifCond .ne 27, 47), (23, .aload_n 0, 0), (24, .invokevirtual 151, 141), (27, .ldc 96, 10001), (29, .invokevirtual 92, 8888), (32, .ifCond .ne 15, 47), (35, .aload_n 0, 0), (36, .invokevirtual 151, 141), (39, .ldc 98, 10002), (41, .invokevirtual 92, 8888), (44, .ifCond .eq 7, 51), (47, .iconst 1, 0), (48, .goto 4, 52), (51, .iconst 0, 0), (52, .ireturn, 0)]
def il_146 : List (Nat × Instr × Nat) := [(0, .aload_n 0, 0), (1, .ldc 134, 10006), (3, .invokevirtual 136, 8888), (6, .ifCond .eq 5, 11), (9, .iconst 3, 0), (10, .ireturn, 0), (11, .aload_n 0, 0), (12, .ldc 139, 10007), (14, .invokevirtual 136, 8888), (17, .ifCond .eq 5, 22), (20, .iconst 5, 0), (21, .ireturn, 0), (22, .aload_n 0, 0), (23, .ldc 141, 10008), (25, .invokevirtual 136, 8888), (28, .ifCond .eq 5, 33), (31, .iconst 2, 0), (32, .ireturn, 0), (33, .aload_n 0, 0), (34, .ldc 143, 10009), (36, .invokevirtual 136, 8888), (39, .ifCond .eq 5, 44), (42, .iconst 4, 0), (43, .ireturn, 0), (44, .aload_n 0, 0), (45, .ldc 147, 10010), (47, .invokevirtual 136, 8888), (50, .ifCond .eq 6, 56), (53, .bipush 6, 0), (55, .ireturn, 0), (56, .aload_n 0, 0), (57, .ldc 149, 10011), (59, .invokevirtual 136, 8888), (62, .ifCond .eq 8, 70), (65, .bipush 7, 0), (67, .goto 4, 71), (70, .iconst 1, 0), (71, .ireturn, 0)]
def il_147 : List (Nat × Instr × Nat) := [(0, .aload_n 0, 0), (1, .ldc 134, 10006), (3, .invokevirtual 136, 8888), (6, .ifCond .ne 12, 18), (9, .aload_n 0, 0), (10, .ldc 139, 10007), (12, .invokevirtual 136, 8888), (15, .ifCond .eq 5, 20), (18, .iconst 2, 0), (19, .ireturn, 0), (20, .aload_n 0, 0), (21, .ldc 141, 10008), (23, .invokevirtual 136, 8888), (26, .ifCond .ne 39, 65), (29, .aload_n 0, 0), (30, .ldc 143, 10009), (32, .invokevirtual 136, 8888), (35, .ifCond .ne 30, 65), (38, .aload_n 0, 0), (39, .ldc 145, 10012), (41, .invokevirtual 136, 8888), (44, .ifCond .ne 21, 65), (47, .aload_n 0, 0), (48, .ldc 147, 10010), (50, .invokevirtual 136, 8888), (53, .ifCond .ne 12, 65), (56, .aload_n 0, 0), (57, .ldc 149, 10011), (59, .invokevirtual 136, 8888), (62, .ifCond .eq 7, 69), (65, .iconst 1, 0), (66, .goto 4, 70), (69, .iconst 0, 0), (70, .ireturn, 0)]
def il_148 : List (Nat × Instr × Nat) := [(0, .iconst 0, 0), (1, .istore_n 2, 0), (2, .iload_n 2, 0), (3, .iconst 3, 0), (4, .if_icmp .ge 45, 49), (7, .aload_n 0, 0), (8, .getfield 114, 960), (11, .iload_n 2, 0), (12, .iaload, 0), (13, .aload_n 1, 0), (14, .getfield 114, 960), (17, .iload_n 2, 0), (18, .iaload, 0), (19, .if_icmp .eq 24, 43), (22, .aload_n 0, 0), (23, .getfield 114, 960), (26, .iload_n 2, 0), (27, .iaload, 0), (28, .aload_n 1, 0), (29, .getfield 114, 960), (32, .iload_n 2, 0), (33, .iaload, 0), (34, .if_icmp .ge 7, 41), (37, .iconst (-1), 0), (38, .goto 4, 42), (41, .iconst 1, 0), (42, .ireturn, 0), (43, .iinc 2 1, 0), (46, .goto (-44), 2), (49, .aload_n 0, 0), (50, .getfield 125, 962), (53, .ifCond .eq 10, 63), (56, .aload_n 1, 0), (57, .getfield 125, 962), (60, .ifCond .ne 31, 91), (63, .aload_n 0, 0), (64, .getfield 125, 962), (67, .aload_n 1, 0), (68, .getfield 125, 962), (71, .if_icmp .ne 7, 78), (74, .iconst 0, 0), (75, .goto 15, 90), (78, .aload_n 0, 0), (79, .getfield 125, 962), (82, .ifCond .ne 7, 89), (85, .iconst 1, 0), (86, .goto 4, 90), (89, .iconst (-1), 0), (90, .ireturn, 0), (91, .iconst 0, 0), (92, .istore_n 2, 0), (93, .iload_n 2, 0), (94, .aload_n 0, 0), (95, .getfield 125, 962), (98, .if_icmp .ge 47, 145), (101, .iload_n 2, 0), (102, .aload_n 1, 0), (103, .getfield 125, 962), (106, .if_icmp .ge 39, 145), (109, .aload_n 0, 0), (110, .getfield 128, 961), (113, .iload_n 2, 0), (114, .aaload, 0), (115, .aload_n 1, 0), (116, .getfield 128, 961), (119, .iload_n 2, 0), (120, .aaload, 0), (121, .invokestatic 131, 149), (124, .istore_n 3, 0), (125, .iload_n 3, 0), (126, .ifCond .eq 13, 139), (129, .iload_n 3, 0), (130, .ifCond .ge 7, 137), (133, .iconst (-1), 0), (134, .goto 4, 138), (137, .iconst 1, 0), (138, .ireturn, 0), (139, .iinc 2 1, 0), (142, .goto (-49), 93), (145, .aload_n 0, 0), (146, .getfield 125, 962), (149, .aload_n 1, 0), (150, .getfield 125, 962), (153, .if_icmp .ge 7, 160), (156, .iconst (-1), 0), (157, .goto 19, 176), (160, .aload_n 0, 0), (161, .getfield 125, 962), (164, .aload_n 1, 0), (165, .getfield 125, 962), (168, .if_icmp .le 7, 175), (171, .iconst 1, 0), (172, .goto 4, 176), (175, .iconst 0, 0), (176, .ireturn, 0)]
def il_149 : List (Nat × Instr × Nat) := [(0, .aload_n 0, 0), (1, .invokestatic 107, 139), (4, .istore_n 2, 0), (5, .aload_n 1, 0), (6, .invokestatic 107, 139), (9, .istore_n 3, 0), (10, .iload_n 2, 0), (11, .ifCond .eq 21, 32), (14, .iload_n 3, 0), (15, .ifCond .eq 17, 32), (18, .aload_n 0, 0), (19, .bipush 8, 0), (21, .invokestatic 122, 138), (24, .aload_n 1, 0), (25, .bipush 8, 0), (27, .invokestatic 122, 138), (30, .isub, 0), (31, .ireturn, 0), (32, .iload_n 2, 0), (33, .iload_n 3, 0), (34, .if_icmp .eq 13, 47), (37, .iload_n 2, 0), (38, .ifCond .eq 7, 45), (41, .iconst (-1), 0), (42, .goto 4, 46), (45, .iconst 1, 0), (46, .ireturn, 0), (47, .iconst 0, 0), (48, .istore 4, 0), (50, .iload 4, 0), (52, .aload_n 0, 0), (53, .invokevirtual 1, 28), (56, .if_icmp .ge 47, 103), (59, .iload 4, 0), (61, .aload_n 1, 0), (62, .invokevirtual 1, 28), (65, .if_icmp .ge 38, 103), (68, .aload_n 0, 0), (69, .iload 4, 0), (71, .invokevirtual 7, 8888), (74, .aload_n 1, 0), (75, .iload 4, 0), (77, .invokevirtual 7, 8888), (80, .if_icmp .eq 17, 97), (83, .aload_n 0, 0), (84, .iload 4, 0), (86, .invokevirtual 7, 8888), (89, .aload_n 1, 0), (90, .iload 4, 0), (92, .invokevirtual 7, 8888), (95, .isub, 0), (96, .ireturn, 0), (97, .iinc 4 1, 0), (100, .goto (-50), 50), (103, .aload_n 0, 0), (104, .invokevirtual 1, 28), (107, .aload_n 1, 0), (108, .invokevirtual 1, 28), (111, .isub, 0), (112, .ireturn, 0)]
def il_150 : List (Nat × Instr × Nat) := [(0, .aload_n 0, 0), (1, .iconst 0, 0), (2, .putfield 250, 786), (5, .iconst 0, 0), (6, .istore_n 1, 0), (7, .iload_n 1, 0), (8, .aload_n 0, 0), (9, .getfield 244, 774), (12, .if_icmp .ge 133, 145), (15, .aload_n 0, 0), (16, .getfield 29, 773), (19, .iload_n 1, 0), (20, .aaload, 0), (21, .getfield 205, 897), (24, .astore_n 2, 0), (25, .iconst 0, 0), (26, .istore_n 3, 0), (27, .iload_n 3, 0), (28, .aload_n 0, 0), (29, .getfield 250, 786), (32, .if_icmp .ge 22, 54), (35, .aload_n 0, 0), (36, .getfield 59, 785), (39, .iload_n 3, 0), (40, .aaload, 0), (41, .aload_n 2, 0), (42, .invokestatic 268, 151), (45, .ifCond .ge 9, 54), (48, .iinc 3 1, 0), (51, .goto (-24), 27), (54, .iload_n 3, 0), (55, .aload_n 0, 0), (56, .getfield 250, 786), (59, .if_icmp .ge 19, 78), (62, .aload_n 0, 0), (63, .getfield 59, 785), (66, .iload_n 3, 0), (67, .aaload, 0), (68, .aload_n 2, 0), (69, .invokevirtual 92, 8888), (72, .ifCond .eq 6, 78), (75, .goto 64, 139), (78, .aload_n 0, 0), (79, .getfield 250, 786), (82, .bipush 8, 0), (84, .if_icmp .ne 4, 88), (87, .return_, 0), (88, .aload_n 0, 0), (89, .getfield 250, 786), (92, .istore 4, 0), (94, .iload 4, 0), (96, .iload_n 3, 0), (97, .if_icmp .le 25, 122), (100, .aload_n 0, 0), (101, .getfield 59, 785), (104, .iload 4, 0), (106, .aload_n 0, 0), (107, .getfield 59, 785), (110, .iload 4, 0), (112, .iconst 1, 0), (113, .isub, 0), (114, .aaload, 0), (115, .aastore, 0), (116, .iinc 4 (-1), 0), (119, .goto (-25), 94), (122, .aload_n 0, 0), (123, .getfield 59, 785), (126, .iload_n 3, 0), (127, .aload_n 2, 0), (128, .aastore, 0), (129, .aload_n 0, 0), (130, .dup, 0), (131, .getfield 250, 786), (134, .iconst 1, 0), (135, .iadd, 0), (136, .putfield 250, 786), (139, .iinc 1 1, 0), (142, .goto (-135), 7), (145, .return_, 0)]
def il_151 : List (Nat × Instr × Nat) := [(0, .iconst 0, 0), (1, .istore_n 2, 0), (2, .iload_n 2, 0), (3, .aload_n 0, 0), (4, .invokevirtual 1, 28), (7, .if_icmp .ge 42, 49), (10, .iload_n 2, 0), (11, .aload_n 1, 0), (12, .invokevirtual 1, 28), (15, .if_icmp .ge 34, 49), (18, .aload_n 0, 0), (19, .iload_n 2, 0), (20, .invokevirtual 7, 8888), (23, .aload_n 1, 0), (24, .iload_n 2, 0), (25, .invokevirtual 7, 8888), (28, .if_icmp .eq 15, 43), (31, .aload_n 0, 0), (32, .iload_n 2, 0), (33, .invokevirtual 7, 8888), (36, .aload_n 1, 0), (37, .iload_n 2, 0), (38, .invokevirtual 7, 8888), (41, .isub, 0), (42, .ireturn, 0), (43, .iinc 2 1, 0), (46, .goto (-44), 2), (49, .aload_n 0, 0), (50, .invokevirtual 1, 28), (53, .aload_n 1, 0), (54, .invokevirtual 1, 28), (57, .isub, 0), (58, .ireturn, 0)]
def il_152 : List (Nat × Instr × Nat) := [(0, .iconst 0, 0), (1, .istore_n 2, 0), (2, .iconst 0, 0), (3, .istore_n 3, 0), (4, .iconst 0, 0), (5, .istore 4, 0), (7, .iload 4, 0), (9, .aload_n 0, 0), (10, .getfield 244, 774), (13, .if_icmp .ge 44, 57), (16, .aload_n 0, 0), (17, .getfield 29, 773), (20, .iload 4, 0), (22, .aaload, 0), (23, .getfield 256, 896), (26, .iload_n 1, 0), (27, .if_icmp .ne 8, 35), (30, .iconst 1, 0), (31, .istore_n 3, 0), (32, .goto 19, 51), (35, .aload_n 0, 0), (36, .getfield 29, 773), (39, .iload_n 2, 0), (40, .aload_n 0, 0), (41, .getfield 29, 773), (44, .iload 4, 0), (46, .aaload, 0), (47, .aastore, 0), (48, .iinc 2 1, 0), (51, .iinc 4 1, 0), (54, .goto (-47), 7), (57, .iload_n 3, 0), (58, .ifCond .ne 6, 64), (61, .bipush (-2), 0), (63, .ireturn, 0), (64, .aload_n 0, 0), (65, .iload_n 2, 0), (66, .putfield 244, 774), (69, .aload_n 0, 0), (70, .iconst 0, 0), (71, .putfield 258, 790), (74, .iload_n 2, 0), (75, .ireturn, 0)]
def il_153 : List (Nat × Instr × Nat) := [(0, .aload_n 0, 0), (1, .invokevirtual 198, 132), (4, .aload_n 0, 0), (5, .invokevirtual 151, 141), (8, .invokestatic 202, 134), (11, .ifCond .ne 6, 17), (14, .bipush (-6), 0), (16, .ireturn, 0), (17, .aload_n 0, 0), (18, .invokevirtual 151, 141), (21, .astore_n 1, 0), (22, .aload_n 0, 0), (23, .dup, 0), (24, .getfield 82, 772), (27, .iconst 1, 0), (28, .iadd, 0), (29, .putfield 82, 772), (32, .aload_n 0, 0), (33, .invokevirtual 226, 143), (36, .astore_n 2, 0), (37, .aload_n 2, 0), (38, .ifnull 14, 52), (41, .aload_n 0, 0), (42, .getfield 82, 772), (45, .aload_n 0, 0), (46, .getfield 79, 771), (49, .if_icmp .ge 6, 55), (52, .bipush (-6), 0), (54, .ireturn, 0), (55, .aload_n 0, 0), (56, .aload_n 1, 0), (57, .invokevirtual 265, 154), (60, .istore_n 3, 0), (61, .iload_n 3, 0), (62, .ifCond .ge 15, 77), (65, .aload_n 0, 0), (66, .getfield 262, 778), (69, .bipush 6, 0), (71, .if_icmp .ne 6, 77), (74, .bipush (-3), 0), (76, .ireturn, 0), (77, .iload_n 3, 0), (78, .ifCond .ge 18, 96), (81, .aload_n 0, 0), (82, .getfield 262, 778), (85, .istore_n 3, 0), (86, .aload_n 0, 0), (87, .dup, 0), (88, .getfield 262, 778), (91, .iconst 1, 0), (92, .iadd, 0), (93, .putfield 262, 778), (96, .aload_n 0, 0), (97, .getfield 33, 776), (100, .iload_n 3, 0), (101, .aload_n 1, 0), (102, .aastore, 0), (103, .aload_n 0, 0), (104, .getfield 38, 777), (107, .iload_n 3, 0), (108, .aload_n 2, 0), (109, .aastore, 0), (110, .aload_n 0, 0), (111, .iconst 0, 0), (112, .putfield 258, 790), (115, .aload_n 0, 0), (116, .getfield 262, 778), (119, .ireturn, 0)]
def il_154 : List (Nat × Instr × Nat) := [(0, .iconst 0, 0), (1, .istore_n 2, 0), (2, .iload_n 2, 0), (3, .aload_n 0, 0), (4, .getfield 262, 778), (7, .if_icmp .ge 24, 31), (10, .aload_n 0, 0), (11, .getfield 33, 776), (14, .iload_n 2, 0), (15, .aaload, 0), (16, .aload_n 1, 0), (17, .invokevirtual 92, 8888), (20, .ifCond .eq 5, 25), (23, .iload_n 2, 0), (24, .ireturn, 0), (25, .iinc 2 1, 0), (28, .goto (-26), 2), (31, .iconst (-1), 0), (32, .ireturn, 0)]
def il_155 : List (Nat × Instr × Nat) := [(0, .aload_n 0, 0), (1, .invokevirtual 198, 132), (4, .aload_n 0, 0), (5, .getfield 79, 771), (8, .iconst 1, 0), (9, .if_icmp .ne 13, 22), (12, .aload_n 0, 0), (13, .invokevirtual 151, 141), (16, .invokestatic 202, 134), (19, .ifCond .ne 6, 25), (22, .bipush (-6), 0), (24, .ireturn, 0), (25, .aload_n 0, 0), (26, .aload_n 0, 0), (27, .invokevirtual 151, 141), (30, .invokevirtual 265, 154), (33, .istore_n 1, 0), (34, .iload_n 1, 0), (35, .ifCond .ge 6, 41), (38, .bipush (-2), 0), (40, .ireturn, 0), (41, .aload_n 0, 0), (42, .dup, 0), (43, .getfield 262, 778), (46, .iconst 1, 0), (47, .isub, 0), (48, .putfield 262, 778), (51, .iload_n 1, 0), (52, .istore_n 2, 0), (53, .iload_n 2, 0), (54, .aload_n 0, 0), (55, .getfield 262, 778), (58, .if_icmp .ge 37, 95), (61, .aload_n 0, 0), (62, .getfield 33, 776), (65, .iload_n 2, 0), (66, .aload_n 0, 0), (67, .getfield 33, 776), (70, .iload_n 2, 0), (71, .iconst 1, 0), (72, .iadd, 0), (73, .aaload, 0), (74, .aastore, 0), (75, .aload_n 0, 0), (76, .getfield 38, 777), (79, .iload_n 2, 0), (80, .aload_n 0, 0), (81, .getfield 38, 777), (84, .iload_n 2, 0), (85, .iconst 1, 0), (86, .iadd, 0), (87, .aaload, 0), (88, .aastore, 0), (89, .iinc 2 1, 0), (92, .goto (-39), 53), (95, .aload_n 0, 0), (96, .iconst 0, 0), (97, .putfield 258, 790), (100, .aload_n 0, 0), (101, .getfield 262, 778), (104, .ireturn, 0)]
def il_156 : List (Nat × Instr × Nat) := [(0, .aload_n 0, 0), (1, .invokevirtual 300, 157), (4, .aload_n 0, 0), (5, .getfield 297, 789), (8, .ifCond .ge 6, 14), (11, .bipush (-2), 0), (13, .ireturn, 0), (14, .iload_n 1, 0), (15, .iconst (-1), 0), (16, .if_icmp .ne 8, 24), (19, .aload_n 0, 0), (20, .getfield 297, 789), (23, .ireturn, 0), (24, .iload_n 1, 0), (25, .ifCond .lt 11, 36), (28, .iload_n 1, 0), (29, .aload_n 0, 0), (30, .getfield 297, 789), (33, .if_icmp .lt 8, 41), (36, .bipush (-2), 0), (38, .goto 12, 50), (41, .aload_n 0, 0), (42, .getfield 65, 788), (45, .iload_n 1, 0), (46, .aaload, 0), (47, .getfield 256, 896), (50, .ireturn, 0)]
def il_157 : List (Nat × Instr × Nat) := [(0, .aload_n 0, 0), (1, .getfield 258, 790), (4, .ifCond .eq 4, 8), (7, .return_, 0), (8, .aload_n 0, 0), (9, .iconst 1, 0), (10, .putfield 258, 790), (13, .aload_n 0, 0), (14, .invokevirtual 247, 150), (17, .aload_n 0, 0), (18, .iconst (-1), 0), (19, .putfield 297, 789), (22, .aload_n 0, 0), (23, .iconst 0, 0), (24, .invokevirtual 290, 158), (27, .ifCond .ne 4, 31), (30, .return_, 0), (31, .aload_n 0, 0), (32, .iconst 0, 0), (33, .putfield 297, 789), (36, .iconst 0, 0), (37, .istore_n 1, 0), (38, .iload_n 1, 0), (39, .aload_n 0, 0), (40, .getfield 250, 786), (43, .if_icmp .ge 46, 89), (46, .aload_n 0, 0), (47, .getfield 62, 787), (50, .iload_n 1, 0), (51, .aaload, 0), (52, .ifnonnull 6, 58), (55, .goto 28, 83), (58, .aload_n 0, 0), (59, .getfield 65, 788), (62, .aload_n 0, 0), (63, .getfield 297, 789), (66, .aload_n 0, 0), (67, .getfield 62, 787), (70, .iload_n 1, 0), (71, .aaload, 0), (72, .aastore, 0), (73, .aload_n 0, 0), (74, .dup, 0), (75, .getfield 297, 789), (78, .iconst 1, 0), (79, .iadd, 0), (80, .putfield 297, 789), (83, .iinc 1 1, 0), (86, .goto (-48), 38), (89, .return_, 0)]
def il_158 : List (Nat × Instr × Nat) := [(0, .iload_n 1, 0), (1, .aload_n 0, 0), (2, .getfield 250, 786), (5, .if_icmp .ne 13, 18), (8, .aload_n 0, 0), (9, .aload_n 0, 0), (10, .getfield 62, 787), (13, .iload_n 1, 0), (14, .invokevirtual 283, 159), (17, .ireturn, 0), (18, .aload_n 0, 0), (19, .aload_n 0, 0), (20, .getfield 59, 785), (23, .iload_n 1, 0), (24, .aaload, 0), (25, .invokevirtual 265, 154), (28, .istore_n 2, 0), (29, .aload_n 0, 0), (30, .getfield 62, 787), (33, .iload_n 1, 0), (34, .aconst_null, 0), (35, .aastore, 0), (36, .iload_n 2, 0), (37, .ifCond .ge 25, 62), (40, .aload_n 0, 0), (41, .iload_n 1, 0), (42, .iconst 1, 0), (43, .iadd, 0), (44, .invokevirtual 286, 165), (47, .ifCond .eq 15, 62), (50, .aload_n 0, 0), (51, .iload_n 1, 0), (52, .iconst 1, 0), (53, .iadd, 0), (54, .invokevirtual 290, 158), (57, .ifCond .eq 5, 62), (60, .iconst 1, 0), (61, .ireturn, 0), (62, .aload_n 0, 0), (63, .aload_n 0, 0), (64, .getfield 59, 785), (67, .iload_n 1, 0), (68, .aaload, 0), (69, .aconst_null, 0), (70, .invokevirtual 293, 166), (73, .astore_n 3, 0), (74, .aload_n 3, 0), (75, .ifnull 67, 142), (78, .aload_n 0, 0), (79, .getfield 62, 787), (82, .iload_n 1, 0), (83, .aload_n 3, 0), (84, .aastore, 0), (85, .iload_n 2, 0), (86, .ifCond .lt 19, 105), (89, .aload_n 3, 0), (90, .getfield 209, 898), (93, .aload_n 0, 0), (94, .getfield 38, 777), (97, .iload_n 2, 0), (98, .aaload, 0), (99, .invokestatic 275, 161), (102, .ifCond .eq 25, 127), (105, .aload_n 0, 0), (106, .iload_n 1, 0), (107, .iconst 1, 0), (108, .iadd, 0), (109, .invokevirtual 286, 165), (112, .ifCond .eq 15, 127), (115, .aload_n 0, 0), (116, .iload_n 1, 0), (117, .iconst 1, 0), (118, .iadd, 0), (119, .invokevirtual 290, 158), (122, .ifCond .eq 5, 127), (125, .iconst 1, 0), (126, .ireturn, 0), (127, .aload_n 0, 0), (128, .aload_n 0, 0), (129, .getfield 59, 785), (132, .iload_n 1, 0), (133, .aaload, 0), (134, .aload_n 3, 0), (135, .invokevirtual 293, 166), (138, .astore_n 3, 0), (139, .goto (-65), 74), (142, .aload_n 0, 0), (143, .getfield 62, 787), (146, .iload_n 1, 0), (147, .aconst_null, 0), (148, .aastore, 0), (149, .iconst 0, 0), (150, .ireturn, 0)]
def il_159 : List (Nat × Instr × Nat) := [(0, .iconst 0, 0), (1, .istore_n 3, 0), (2, .iload_n 3, 0), (3, .aload_n 0, 0), (4, .getfield 262, 778), (7, .if_icmp .ge 46, 53), (10, .aload_n 1, 0), (11, .iload_n 2, 0), (12, .aload_n 0, 0), (13, .getfield 33, 776), (16, .iload_n 3, 0), (17, .aaload, 0), (18, .invokestatic 271, 160), (21, .astore 4, 0), (23, .aload 4, 0), (25, .ifnull 20, 45), (28, .aload 4, 0), (30, .getfield 209, 898), (33, .aload_n 0, 0), (34, .getfield 38, 777), (37, .iload_n 3, 0), (38, .aaload, 0), (39, .invokestatic 275, 161), (42, .ifCond .ne 5, 47), (45, .iconst 0, 0), (46, .ireturn, 0), (47, .iinc 3 1, 0), (50, .goto (-48), 2), (53, .iconst 0, 0), (54, .istore_n 3, 0), (55, .iload_n 3, 0), (56, .iload_n 2, 0), (57, .if_icmp .ge 142, 199), (60, .aload_n 1, 0), (61, .iload_n 3, 0), (62, .aaload, 0), (63, .astore 4, 0), (65, .aload 4, 0), (67, .ifnonnull 6, 73), (70, .goto 123, 193), (73, .iconst 0, 0), (74, .istore 5, 0), (76, .iload 5, 0), (78, .aload 4, 0), (80, .getfield 220, 901), (83, .if_icmp .ge 50, 133), (86, .aload_n 1, 0), (87, .iload_n 2, 0), (88, .aload 4, 0), (90, .getfield 230, 899), (93, .iload 5, 0), (95, .aaload, 0), (96, .invokestatic 271, 160), (99, .astore 6, 0), (101, .aload 6, 0), (103, .ifnull 22, 125), (106, .aload 6, 0), (108, .getfield 209, 898), (111, .aload 4, 0), (113, .getfield 232, 900), (116, .iload 5, 0), (118, .aaload, 0), (119, .invokestatic 275, 161), (122, .ifCond .ne 5, 127), (125, .iconst 0, 0), (126, .ireturn, 0), (127, .iinc 5 1, 0), (130, .goto (-54), 76), (133, .iconst 0, 0), (134, .istore 5, 0), (136, .iload 5, 0), (138, .aload 4, 0), (140, .getfield 223, 904), (143, .if_icmp .ge 50, 193), (146, .aload_n 1, 0), (147, .iload_n 2, 0), (148, .aload 4, 0), (150, .getfield 235, 902), (153, .iload 5, 0), (155, .aaload, 0), (156, .invokestatic 271, 160), (159, .astore 6, 0), (161, .aload 6, 0), (163, .ifnull 24, 187), (166, .aload 6, 0), (168, .getfield 209, 898), (171, .aload 4, 0), (173, .getfield 237, 903), (176, .iload 5, 0), (178, .aaload, 0), (179, .invokestatic 275, 161), (182, .ifCond .eq 5, 187), (185, .iconst 0, 0), (186, .ireturn, 0), (187, .iinc 5 1, 0), (190, .goto (-54), 136), (193, .iinc 3 1, 0), (196, .goto (-141), 55), (199, .aload_n 0, 0), (200, .aload_n 1, 0), (201, .iload_n 2, 0), (202, .invokevirtual 279, 164), (205, .ireturn, 0)]
def il_160 : List (Nat × Instr × Nat) := [(0, .iconst 0, 0), (1, .istore_n 3, 0), (2, .iload_n 3, 0), (3, .iload_n 1, 0), (4, .if_icmp .ge 32, 36), (7, .aload_n 0, 0), (8, .iload_n 3, 0), (9, .aaload, 0), (10, .ifnull 20, 30), (13, .aload_n 0, 0), (14, .iload_n 3, 0), (15, .aaload, 0), (16, .getfield 205, 897), (19, .aload_n 2, 0), (20, .invokevirtual 92, 8888), (23, .ifCond .eq 7, 30), (26, .aload_n 0, 0), (27, .iload_n 3, 0), (28, .aaload, 0), (29, .areturn, 0), (30, .iinc 3 1, 0), (33, .goto (-31), 2), (36, .aconst_null, 0), (37, .areturn, 0)]
def il_161 : List (Nat × Instr × Nat) := [(0, .iconst 0, 0), (1, .istore_n 2, 0), (2, .iload_n 2, 0), (3, .aload_n 1, 0), (4, .getfield 156, 1027), (7, .if_icmp .ge 74, 81), (10, .iconst 1, 0), (11, .istore_n 3, 0), (12, .iconst 4, 0), (13, .iload_n 2, 0), (14, .imul, 0), (15, .istore 4, 0), (17, .iload 4, 0), (19, .iconst 4, 0), (20, .iload_n 2, 0), (21, .imul, 0), (22, .aload_n 1, 0), (23, .getfield 183, 1026), (26, .iload_n 2, 0), (27, .iaload, 0), (28, .iadd, 0), (29, .if_icmp .ge 40, 69), (32, .iload_n 3, 0), (33, .ifCond .eq 28, 61), (36, .aload_n 1, 0), (37, .getfield 167, 1024), (40, .iload 4, 0), (42, .iaload, 0), (43, .aload_n 0, 0), (44, .aload_n 1, 0), (45, .getfield 173, 1025), (48, .iload 4, 0), (50, .aaload, 0), (51, .invokestatic 194, 162), (54, .ifCond .eq 7, 61), (57, .iconst 1, 0), (58, .goto 4, 62), (61, .iconst 0, 0), (62, .istore_n 3, 0), (63, .iinc 4 1, 0), (66, .goto (-49), 17), (69, .iload_n 3, 0), (70, .ifCond .eq 5, 75), (73, .iconst 1, 0), (74, .ireturn, 0), (75, .iinc 2 1, 0), (78, .goto (-76), 2), (81, .iconst 0, 0), (82, .ireturn, 0)]
def il_162 : List (Nat × Instr × Nat) := [(0, .iload_n 0, 0), (1, .ifCond .ne 5, 6), (4, .iconst 1, 0), (5, .ireturn, 0), (6, .aload_n 1, 0), (7, .aload_n 2, 0), (8, .invokestatic 186, 148), (11, .istore_n 3, 0), (12, .aload_n 2, 0), (13, .getfield 114, 960), (16, .astore 4, 0), (18, .iload_n 0, 0), (19, .tableswitch 148 1 6 #[37, 47, 57, 67, 77, 87], 37), (56, .iload_n 3, 0), (57, .ifCond .ne 7, 64), (60, .iconst 1, 0), (61, .goto 4, 65), (64, .iconst 0, 0), (65, .ireturn, 0), (66, .iload_n 3, 0), (67, .ifCond .ge 7, 74), (70, .iconst 1, 0), (71, .goto 4, 75), (74, .iconst 0, 0), (75, .ireturn, 0), (76, .iload_n 3, 0), (77, .ifCond .gt 7, 84), (80, .iconst 1, 0), (81, .goto 4, 85), (84, .iconst 0, 0), (85, .ireturn, 0), (86, .iload_n 3, 0), (87, .ifCond .le 7, 94), (90, .iconst 1, 0), (91, .goto 4, 95), (94, .iconst 0, 0), (95, .ireturn, 0), (96, .iload_n 3, 0), (97, .ifCond .lt 7, 104), (100, .iconst 1, 0), (101, .goto 4, 105), (104, .iconst 0, 0), (105, .ireturn, 0), (106, .iload_n 3, 0), (107, .ifCond .ge 5, 112), (110, .iconst 0, 0), (111, .ireturn, 0), (112, .aload 4, 0), (114, .iconst 0, 0), (115, .iaload, 0), (116, .ifCond .le 16, 132), (119, .aload_n 1, 0), (120, .aload 4, 0), (122, .iconst 0, 0), (123, .iaload, 0), (124, .iconst 1, 0), (125, .iadd, 0), (126, .iconst 0, 0), (127, .iconst 0, 0), (128, .invokestatic 190, 163), (131, .ireturn, 0), (132, .aload 4, 0), (134, .iconst 1, 0), (135, .iaload, 0), (136, .ifCond .le 18, 154), (139, .aload_n 1, 0), (140, .iconst 0, 0), (141, .aload 4, 0), (143, .iconst 1, 0), (144, .iaload, 0), (145, .iconst 1, 0), (146, .iadd, 0), (147, .iconst 0, 0), (148, .invokestatic 190, 163), (151, .goto 15, 166), (154, .aload_n 1, 0), (155, .iconst 0, 0), (156, .iconst 0, 0), (157, .aload 4, 0), (159, .iconst 2, 0), (160, .iaload, 0), (161, .iconst 1, 0), (162, .iadd, 0), (163, .invokestatic 190, 163), (166, .ireturn, 0), (167, .iload_n 3, 0), (168, .ifCond .lt 25, 193), (171, .aload_n 1, 0), (172, .aload 4, 0), (174, .iconst 0, 0), (175, .iaload, 0), (176, .aload 4, 0), (178, .iconst 1, 0), (179, .iaload, 0), (180, .iconst 1, 0), (181, .iadd, 0), (182, .iconst 0, 0), (183, .invokestatic 190, 163), (186, .ifCond .eq 7, 193), (189, .iconst 1, 0), (190, .goto 4, 194), (193, .iconst 0, 0), (194, .ireturn, 0)]
def il_163 : List (Nat × Instr × Nat) := [(0, .aload_n 0, 0), (1, .getfield 114, 960), (4, .iconst 0, 0), (5, .iaload, 0), (6, .iload_n 1, 0), (7, .if_icmp .eq 19, 26), (10, .aload_n 0, 0), (11, .getfield 114, 960), (14, .iconst 0, 0), (15, .iaload, 0), (16, .iload_n 1, 0), (17, .if_icmp .ge 7, 24), (20, .iconst 1, 0), (21, .goto 4, 25), (24, .iconst 0, 0), (25, .ireturn, 0), (26, .aload_n 0, 0), (27, .getfield 114, 960), (30, .iconst 1, 0), (31, .iaload, 0), (32, .iload_n 2, 0), (33, .if_icmp .eq 19, 52), (36, .aload_n 0, 0), (37, .getfield 114, 960), (40, .iconst 1, 0), (41, .iaload, 0), (42, .iload_n 2, 0), (43, .if_icmp .ge 7, 50), (46, .iconst 1, 0), (47, .goto 4, 51), (50, .iconst 0, 0), (51, .ireturn, 0), (52, .aload_n 0, 0), (53, .getfield 114, 960), (56, .iconst 2, 0), (57, .iaload, 0), (58, .iload_n 3, 0), (59, .if_icmp .eq 19, 78), (62, .aload_n 0, 0), (63, .getfield 114, 960), (66, .iconst 2, 0), (67, .iaload, 0), (68, .iload_n 3, 0), (69, .if_icmp .ge 7, 76), (72, .iconst 1, 0), (73, .goto 4, 77), (76, .iconst 0, 0), (77, .ireturn, 0), (78, .aload_n 0, 0), (79, .getfield 125, 962), (82, .ifCond .le 7, 89), (85, .iconst 1, 0), (86, .goto 4, 90), (89, .iconst 0, 0), (90, .ireturn, 0)]
def il_164 : List (Nat × Instr × Nat) := [(0, .iconst 0, 0), (1, .istore_n 3, 0), (2, .iload_n 3, 0), (3, .iload_n 2, 0), (4, .if_icmp .ge 16, 20), (7, .aload_n 0, 0), (8, .getfield 68, 791), (11, .iload_n 3, 0), (12, .iconst 0, 0), (13, .bastore, 0), (14, .iinc 3 1, 0), (17, .goto (-15), 2), (20, .iconst 1, 0), (21, .istore_n 3, 0), (22, .iload_n 3, 0), (23, .ifCond .eq 173, 196), (26, .iconst 0, 0), (27, .istore_n 3, 0), (28, .iconst 0, 0), (29, .istore 4, 0), (31, .iload 4, 0), (33, .iload_n 2, 0), (34, .if_icmp .ge 159, 193), (37, .aload_n 1, 0), (38, .iload 4, 0), (40, .aaload, 0), (41, .ifnull 146, 187), (44, .aload_n 0, 0), (45, .getfield 68, 791), (48, .iload 4, 0), (50, .baload, 0), (51, .ifCond .eq 6, 57), (54, .goto 133, 187), (57, .aload_n 0, 0), (58, .aload_n 1, 0), (59, .iload 4, 0), (61, .aaload, 0), (62, .getfield 205, 897), (65, .invokevirtual 265, 154), (68, .ifCond .lt 7, 75), (71, .iconst 1, 0), (72, .goto 4, 76), (75, .iconst 0, 0), (76, .istore 5, 0), (78, .iconst 0, 0), (79, .istore 6, 0), (81, .iload 6, 0), (83, .iload_n 2, 0), (84, .if_icmp .ge 85, 169), (87, .aload_n 1, 0), (88, .iload 6, 0), (90, .aaload, 0), (91, .ifnull 72, 163), (94, .aload_n 0, 0), (95, .getfield 68, 791), (98, .iload 6, 0), (100, .baload, 0), (101, .ifCond .ne 6, 107), (104, .goto 59, 163), (107, .iconst 0, 0), (108, .istore 7, 0), (110, .iload 7, 0), (112, .aload_n 1, 0), (113, .iload 6, 0), (115, .aaload, 0), (116, .getfield 220, 901), (119, .if_icmp .ge 44, 163), (122, .iload 5, 0), (124, .ifCond .ne 26, 150), (127, .aload_n 1, 0), (128, .iload 6, 0), (130, .aaload, 0), (131, .getfield 230, 899), (134, .iload 7, 0), (136, .aaload, 0), (137, .aload_n 1, 0), (138, .iload 4, 0), (140, .aaload, 0), (141, .getfield 205, 897), (144, .invokevirtual 92, 8888), (147, .ifCond .eq 7, 154), (150, .iconst 1, 0), (151, .goto 4, 155), (154, .iconst 0, 0), (155, .istore 5, 0), (157, .iinc 7 1, 0), (160, .goto (-50), 110), (163, .iinc 6 1, 0), (166, .goto (-85), 81), (169, .iload 5, 0), (171, .ifCond .ne 6, 177), (174, .goto 13, 187), (177, .aload_n 0, 0), (178, .getfield 68, 791), (181, .iload 4, 0), (183, .iconst 1, 0), (184, .bastore, 0), (185, .iconst 1, 0), (186, .istore_n 3, 0), (187, .iinc 4 1, 0), (190, .goto (-159), 31), (193, .goto (-171), 22), (196, .iconst 0, 0), (197, .istore 4, 0), (199, .iload 4, 0), (201, .iload_n 2, 0), (202, .if_icmp .ge 28, 230), (205, .aload_n 1, 0), (206, .iload 4, 0), (208, .aaload, 0), (209, .ifnull 15, 224), (212, .aload_n 0, 0), (213, .getfield 68, 791), (216, .iload 4, 0), (218, .baload, 0), (219, .ifCond .ne 5, 224), (222, .iconst 0, 0), (223, .ireturn, 0), (224, .iinc 4 1, 0), (227, .goto (-28), 199), (230, .iconst 1, 0), (231, .ireturn, 0)]
def il_165 : List (Nat × Instr × Nat) := [(0, .iconst 0, 0), (1, .istore_n 2, 0), (2, .iload_n 2, 0), (3, .iload_n 1, 0), (4, .if_icmp .ge 171, 175), (7, .aload_n 0, 0), (8, .getfield 62, 787), (11, .iload_n 2, 0), (12, .aaload, 0), (13, .astore_n 3, 0), (14, .aload_n 3, 0), (15, .ifnonnull 6, 21), (18, .goto 151, 169), (21, .iconst 0, 0), (22, .istore 4, 0), (24, .iload 4, 0), (26, .aload_n 3, 0), (27, .getfield 220, 901), (30, .if_icmp .ge 79, 109), (33, .iconst 0, 0), (34, .istore 5, 0), (36, .iload 5, 0), (38, .iload_n 1, 0), (39, .if_icmp .ge 64, 103), (42, .aload_n 0, 0), (43, .getfield 59, 785), (46, .iload 5, 0), (48, .aaload, 0), (49, .aload_n 3, 0), (50, .getfield 230, 899), (53, .iload 4, 0), (55, .aaload, 0), (56, .invokevirtual 92, 8888), (59, .ifCond .eq 38, 97), (62, .aload_n 0, 0), (63, .getfield 62, 787), (66, .iload 5, 0), (68, .aaload, 0), (69, .ifnull 26, 95), (72, .aload_n 0, 0), (73, .getfield 62, 787), (76, .iload 5, 0), (78, .aaload, 0), (79, .getfield 209, 898), (82, .aload_n 3, 0), (83, .getfield 232, 900), (86, .iload 4, 0), (88, .aaload, 0), (89, .invokestatic 275, 161), (92, .ifCond .ne 5, 97), (95, .iconst 0, 0), (96, .ireturn, 0), (97, .iinc 5 1, 0), (100, .goto (-64), 36), (103, .iinc 4 1, 0), (106, .goto (-82), 24), (109, .iconst 0, 0), (110, .istore 4, 0), (112, .iload 4, 0), (114, .aload_n 3, 0), (115, .getfield 223, 904), (118, .if_icmp .ge 51, 169), (121, .aload_n 0, 0), (122, .getfield 62, 787), (125, .iload_n 1, 0), (126, .aload_n 3, 0), (127, .getfield 235, 902), (130, .iload 4, 0), (132, .aaload, 0), (133, .invokestatic 271, 160), (136, .astore 5, 0), (138, .aload 5, 0), (140, .ifnull 23, 163), (143, .aload 5, 0), (145, .getfield 209, 898), (148, .aload_n 3, 0), (149, .getfield 237, 903), (152, .iload 4, 0), (154, .aaload, 0), (155, .invokestatic 275, 161), (158, .ifCond .eq 5, 163), (161, .iconst 0, 0), (162, .ireturn, 0), (163, .iinc 4 1, 0), (166, .goto (-54), 112), (169, .iinc 2 1, 0), (172, .goto (-170), 2), (175, .iconst 1, 0), (176, .ireturn, 0)]
def il_166 : List (Nat × Instr × Nat) := [(0, .aconst_null, 0), (1, .astore_n 3, 0), (2, .iconst 0, 0), (3, .istore 4, 0), (5, .iload 4, 0), (7, .aload_n 0, 0), (8, .getfield 244, 774), (11, .if_icmp .ge 74, 85), (14, .aload_n 0, 0), (15, .getfield 29, 773), (18, .iload 4, 0), (20, .aaload, 0), (21, .astore 5, 0), (23, .aload 5, 0), (25, .getfield 205, 897), (28, .aload_n 1, 0), (29, .invokevirtual 92, 8888), (32, .ifCond .eq 47, 79), (35, .aload_n 2, 0), (36, .ifnull 21, 57), (39, .aload 5, 0), (41, .getfield 209, 898), (44, .aload_n 2, 0), (45, .getfield 209, 898), (48, .invokestatic 186, 148), (51, .ifCond .lt 6, 57), (54, .goto 25, 79), (57, .aload_n 3, 0), (58, .ifnull 18, 76), (61, .aload 5, 0), (63, .getfield 209, 898), (66, .aload_n 3, 0), (67, .getfield 209, 898), (70, .invokestatic 186, 148), (73, .ifCond .le 6, 79), (76, .aload 5, 0), (78, .astore_n 3, 0), (79, .iinc 4 1, 0), (82, .goto (-77), 5), (85, .aload_n 3, 0), (86, .areturn, 0)]
def il_167 : List (Nat × Instr × Nat) := [(0, .iload_n 1, 0), (1, .ifCond .lt 8, 9), (4, .iload_n 1, 0), (5, .iconst 1, 0), (6, .if_icmp .le 5, 11), (9, .iconst (-1), 0), (10, .ireturn, 0), (11, .bipush 8, 0), (13, .anewarray 27, 10), (16, .astore_n 3, 0), (17, .iconst 0, 0), (18, .istore 4, 0), (20, .aload_n 0, 0), (21, .invokevirtual 320, 168), (24, .astore 5, 0), (26, .iload_n 1, 0), (27, .ifCond .ne 7, 34), (30, .iconst 1, 0), (31, .goto 4, 35), (34, .iconst 0, 0), (35, .istore 6, 0), (37, .iconst 0, 0), (38, .istore 7, 0), (40, .iload 7, 0), (42, .aload 5, 0), (44, .getfield 306, 834), (47, .if_icmp .ge 36, 83), (50, .iload 6, 0), (52, .ifCond .eq 22, 74), (55, .aload_n 0, 0), (56, .aload 5, 0), (58, .getfield 307, 832), (61, .iload 7, 0), (63, .aaload, 0), (64, .invokevirtual 324, 169), (67, .ifCond .eq 7, 74), (70, .iconst 1, 0), (71, .goto 4, 75), (74, .iconst 0, 0), (75, .istore 6, 0), (77, .iinc 7 1, 0), (80, .goto (-40), 40), (83, .iload 6, 0), (85, .ifCond .eq 24, 109), (88, .aload_n 0, 0), (89, .aload 5, 0), (91, .getfield 307, 832), (94, .aload 5, 0), (96, .getfield 306, 834), (99, .invokevirtual 283, 159), (102, .ifCond .eq 7, 109), (105, .iconst 1, 0), (106, .goto 4, 110), (109, .iconst 0, 0), (110, .istore 6, 0), (112, .iload 6, 0), (114, .ifCond .eq 92, 206), (117, .aload 5, 0), (119, .getfield 306, 834), (122, .istore 4, 0), (124, .iconst 0, 0), (125, .istore 7, 0), (127, .iload 7, 0), (129, .iload 4, 0), (131, .if_icmp .ge 72, 203), (134, .iload 7, 0), (136, .istore 8, 0), (138, .iload 8, 0), (140, .ifCond .le 45, 185), (143, .aload_n 3, 0), (144, .iload 8, 0), (146, .iconst 1, 0), (147, .isub, 0), (148, .aaload, 0), (149, .getfield 205, 897), (152, .aload 5, 0), (154, .getfield 307, 832), (157, .iload 7, 0), (159, .aaload, 0), (160, .getfield 205, 897), (163, .invokestatic 268, 151), (166, .ifCond .le 19, 185), (169, .aload_n 3, 0), (170, .iload 8, 0), (172, .aload_n 3, 0), (173, .iload 8, 0), (175, .iconst 1, 0), (176, .isub, 0), (177, .aaload, 0), (178, .aastore, 0), (179, .iinc 8 (-1), 0), (182, .goto (-44), 138), (185, .aload_n 3, 0), (186, .iload 8, 0), (188, .aload 5, 0), (190, .getfield 307, 832), (193, .iload 7, 0), (195, .aaload, 0), (196, .aastore, 0), (197, .iinc 7 1, 0), (200, .goto (-73), 127), (203, .goto 50, 253), (206, .aload_n 0, 0), (207, .invokevirtual 300, 157), (210, .aload_n 0, 0), (211, .getfield 297, 789), (214, .ifCond .ge 6, 220), (217, .bipush (-2), 0), (219, .ireturn, 0), (220, .aload_n 0, 0), (221, .getfield 297, 789), (224, .istore 4, 0), (226, .iconst 0, 0), (227, .istore 7, 0), (229, .iload 7, 0), (231, .iload 4, 0), (233, .if_icmp .ge 20, 253), (236, .aload_n 3, 0), (237, .iload 7, 0), (239, .aload_n 0, 0), (240, .getfield 65, 788), (243, .iload 7, 0), (245, .aaload, 0), (246, .aastore, 0), (247, .iinc 7 1, 0), (250, .goto (-21), 229), (253, .aload_n 3, 0), (254, .iload 4, 0), (256, .invokestatic 327, 170), (259, .ifCond .eq 6, 265), (262, .bipush (-7), 0), (264, .ireturn, 0), (265, .iload_n 2, 0), (266, .ifCond .lt 6, 272), (269, .bipush (-5), 0), (271, .ireturn, 0), (272, .aload_n 0, 0), (273, .aload_n 3, 0), (274, .iload 4, 0), (276, .invokevirtual 330, 171), (279, .astore 7, 0), (281, .aload_n 0, 0), (282, .aload 5, 0), (284, .aload 7, 0), (286, .invokevirtual 334, 173), (289, .aload_n 0, 0), (290, .getfield 48, 780), (293, .iconst 4, 0), (294, .if_icmp .ne 44, 338), (297, .iconst 0, 0), (298, .istore 8, 0), (300, .iload 8, 0), (302, .iconst 3, 0), (303, .if_icmp .ge 25, 328), (306, .aload_n 0, 0), (307, .getfield 44, 779), (310, .iload 8, 0), (312, .aload_n 0, 0), (313, .getfield 44, 779), (316, .iload 8, 0), (318, .iconst 1, 0), (319, .iadd, 0), (320, .aaload, 0), (321, .aastore, 0), (322, .iinc 8 1, 0), (325, .goto (-25), 300), (328, .aload_n 0, 0), (329, .dup, 0), (330, .getfield 48, 780), (333, .iconst 1, 0), (334, .isub, 0), (335, .putfield 48, 780), (338, .aload_n 0, 0), (339, .getfield 44, 779), (342, .aload_n 0, 0), (343, .getfield 48, 780), (346, .aload 7, 0), (348, .aastore, 0), (349, .aload_n 0, 0), (350, .dup, 0), (351, .getfield 48, 780), (354, .iconst 1, 0), (355, .iadd, 0), (356, .putfield 48, 780), (359, .aload_n 0, 0), (360, .dup, 0), (361, .getfield 338, 781), (364, .iconst 1, 0), (365, .iadd, 0), (366, .putfield 338, 781), (369, .iload 4, 0), (371, .ireturn, 0)]
def il_168 : List (Nat × Instr × Nat) := [(0, .aload_n 0, 0), (1, .getfield 44, 779), (4, .aload_n 0, 0), (5, .getfield 48, 780), (8, .iconst 1, 0), (9, .isub, 0), (10, .aaload, 0), (11, .areturn, 0)]
def il_169 : List (Nat × Instr × Nat) := [(0, .iconst 0, 0), (1, .istore_n 2, 0), (2, .iload_n 2, 0), (3, .aload_n 0, 0), (4, .getfield 244, 774), (7, .if_icmp .ge 21, 28), (10, .aload_n 0, 0), (11, .getfield 29, 773), (14, .iload_n 2, 0), (15, .aaload, 0), (16, .aload_n 1, 0), (17, .if_acmp .ne 5, 22), (20, .iconst 1, 0), (21, .ireturn, 0), (22, .iinc 2 1, 0), (25, .goto (-23), 2), (28, .iconst 0, 0), (29, .ireturn, 0)]
def il_170 : List (Nat × Instr × Nat) := [(0, .iconst 0, 0), (1, .istore_n 2, 0), (2, .iload_n 2, 0), (3, .iload_n 1, 0), (4, .if_icmp .ge 88, 92), (7, .iconst 0, 0), (8, .istore_n 3, 0), (9, .iload_n 3, 0), (10, .iload_n 2, 0), (11, .if_icmp .ge 75, 86), (14, .iconst 0, 0), (15, .istore 4, 0), (17, .iload 4, 0), (19, .aload_n 0, 0), (20, .iload_n 2, 0), (21, .aaload, 0), (22, .getfield 212, 906), (25, .if_icmp .ge 55, 80), (28, .iconst 0, 0), (29, .istore 5, 0), (31, .iload 5, 0), (33, .aload_n 0, 0), (34, .iload_n 3, 0), (35, .aaload, 0), (36, .getfield 212, 906), (39, .if_icmp .ge 35, 74), (42, .aload_n 0, 0), (43, .iload_n 2, 0), (44, .aaload, 0), (45, .getfield 218, 905), (48, .iload 4, 0), (50, .aaload, 0), (51, .aload_n 0, 0), (52, .iload_n 3, 0), (53, .aaload, 0), (54, .getfield 218, 905), (57, .iload 5, 0), (59, .aaload, 0), (60, .invokevirtual 92, 8888), (63, .ifCond .eq 5, 68), (66, .iconst 1, 0), (67, .ireturn, 0), (68, .iinc 5 1, 0), (71, .goto (-40), 31), (74, .iinc 4 1, 0), (77, .goto (-60), 17), (80, .iinc 3 1, 0), (83, .goto (-74), 9), (86, .iinc 2 1, 0), (89, .goto (-87), 2), (92, .iconst 0, 0), (93, .ireturn, 0)]
def il_171 : List (Nat × Instr × Nat) := [(0, .bipush 64, 0), (2, .newarray .boolean, 4), (4, .astore_n 3, 0), (5, .iconst 0, 0), (6, .istore 4, 0), (8, .iload 4, 0), (10, .iload_n 2, 0), (11, .if_icmp .ge 60, 71), (14, .iconst 0, 0), (15, .istore 5, 0), (17, .iload 5, 0), (19, .iload_n 2, 0), (20, .if_icmp .ge 45, 65), (23, .aload_n 3, 0), (24, .bipush 8, 0), (26, .iload 4, 0), (28, .imul, 0), (29, .iload 5, 0), (31, .iadd, 0), (32, .iload 4, 0), (34, .iload 5, 0), (36, .if_icmp .eq 17, 53), (39, .aload_n 1, 0), (40, .iload 4, 0), (42, .aaload, 0), (43, .aload_n 1, 0), (44, .iload 5, 0), (46, .aaload, 0), (47, .invokestatic 303, 172), (50, .ifCond .eq 7, 57), (53, .iconst 1, 0), (54, .goto 4, 58), (57, .iconst 0, 0), (58, .bastore, 0), (59, .iinc 5 1, 0), (62, .goto (-45), 17), (65, .iinc 4 1, 0), (68, .goto (-60), 8), (71, .iconst 0, 0), (72, .istore 4, 0), (74, .iload 4, 0), (76, .iload_n 2, 0), (77, .if_icmp .ge 76, 153), (80, .iconst 0, 0), (81, .istore 5, 0), (83, .iload 5, 0), (85, .iload_n 2, 0), (86, .if_icmp .ge 61, 147), (89, .iconst 0, 0), (90, .istore 6, 0), (92, .iload 6, 0), (94, .iload_n 2, 0), (95, .if_icmp .ge 46, 141), (98, .aload_n 3, 0), (99, .bipush 8, 0), (101, .iload 5, 0), (103, .imul, 0), (104, .iload 4, 0), (106, .iadd, 0), (107, .baload, 0), (108, .ifCond .eq 27, 135), (111, .aload_n 3, 0), (112, .bipush 8, 0), (114, .iload 4, 0), (116, .imul, 0), (117, .iload 6, 0), (119, .iadd, 0), (120, .baload, 0), (121, .ifCond .eq 14, 135), (124, .aload_n 3, 0), (125, .bipush 8, 0), (127, .iload 5, 0), (129, .imul, 0), (130, .iload 6, 0), (132, .iadd, 0), (133, .iconst 1, 0), (134, .bastore, 0), (135, .iinc 6 1, 0), (138, .goto (-46), 92), (141, .iinc 5 1, 0), (144, .goto (-61), 83), (147, .iinc 4 1, 0), (150, .goto (-76), 74), (153, .new 42, 13), (156, .dup, 0), (157, .invokespecial 71, 126), (160, .astore 4, 0), (162, .bipush 8, 0), (164, .newarray .boolean, 4), (166, .astore 5, 0), (168, .iconst 0, 0), (169, .istore 6, 0), (171, .aload 4, 0), (173, .getfield 306, 834), (176, .iload_n 2, 0), (177, .if_icmp .ge 197, 374), (180, .iconst (-1), 0), (181, .istore 7, 0), (183, .iconst 0, 0), (184, .istore 8, 0), (186, .iload 8, 0), (188, .iload_n 2, 0), (189, .if_icmp .ge 90, 279), (192, .iload 7, 0), (194, .ifCond .ge 85, 279), (197, .aload 5, 0), (199, .iload 8, 0), (201, .baload, 0), (202, .ifCond .ne 7, 209), (205, .iconst 1, 0), (206, .goto 4, 210), (209, .iconst 0, 0), (210, .istore 9, 0), (212, .iconst 0, 0), (213, .istore 10, 0), (215, .iload 10, 0), (217, .iload_n 2, 0), (218, .if_icmp .ge 46, 264), (221, .aload_n 3, 0), (222, .bipush 8, 0), (224, .iload 8, 0), (226, .imul, 0), (227, .iload 10, 0), (229, .iadd, 0), (230, .baload, 0), (231, .ifCond .eq 27, 258), (234, .aload_n 3, 0), (235, .bipush 8, 0), (237, .iload 10, 0), (239, .imul, 0), (240, .iload 8, 0), (242, .iadd, 0), (243, .baload, 0), (244, .ifCond .ne 14, 258), (247, .aload 5, 0), (249, .iload 10, 0), (251, .baload, 0), (252, .ifCond .ne 6, 258), (255, .iconst 0, 0), (256, .istore 9, 0), (258, .iinc 10 1, 0), (261, .goto (-46), 215), (264, .iload 9, 0), (266, .ifCond .eq 7, 273), (269, .iload 8, 0), (271, .istore 7, 0), (273, .iinc 8 1, 0), (276, .goto (-90), 186), (279, .iconst 0, 0), (280, .istore 8, 0), (282, .iload 8, 0), (284, .iload_n 2, 0), (285, .if_icmp .ge 83, 368), (288, .aload_n 3, 0), (289, .bipush 8, 0), (291, .iload 7, 0), (293, .imul, 0), (294, .iload 8, 0), (296, .iadd, 0), (297, .baload, 0), (298, .ifCond .eq 64, 362), (301, .aload_n 3, 0), (302, .bipush 8, 0), (304, .iload 8, 0), (306, .imul, 0), (307, .iload 7, 0), (309, .iadd, 0), (310, .baload, 0), (311, .ifCond .ne 6, 317), (314, .goto 48, 362), (317, .aload 4, 0), (319, .getfield 307, 832), (322, .aload 4, 0), (324, .getfield 306, 834), (327, .aload_n 1, 0), (328, .iload 8, 0), (330, .aaload, 0), (331, .aastore, 0), (332, .aload 4, 0), (334, .getfield 310, 833), (337, .aload 4, 0), (339, .getfield 306, 834), (342, .iload 6, 0), (344, .iastore, 0), (345, .aload 4, 0), (347, .dup, 0), (348, .getfield 306, 834), (351, .iconst 1, 0), (352, .iadd, 0), (353, .putfield 306, 834), (356, .aload 5, 0), (358, .iload 8, 0), (360, .iconst 1, 0), (361, .bastore, 0), (362, .iinc 8 1, 0), (365, .goto (-83), 282), (368, .iinc 6 1, 0), (371, .goto (-200), 171), (374, .aload 4, 0), (376, .areturn, 0)]
def il_172 : List (Nat × Instr × Nat) := [(0, .iconst 0, 0), (1, .istore_n 2, 0), (2, .iload_n 2, 0), (3, .aload_n 0, 0), (4, .getfield 220, 901), (7, .if_icmp .ge 27, 34), (10, .aload_n 0, 0), (11, .getfield 230, 899), (14, .iload_n 2, 0), (15, .aaload, 0), (16, .aload_n 1, 0), (17, .getfield 205, 897), (20, .invokevirtual 92, 8888), (23, .ifCond .eq 5, 28), (26, .iconst 1, 0), (27, .ireturn, 0), (28, .iinc 2 1, 0), (31, .goto (-29), 2), (34, .iconst 0, 0), (35, .ireturn, 0)]
def il_173 : List (Nat × Instr × Nat) := [(0, .aload_n 0, 0), (1, .iconst 0, 0), (2, .putfield 313, 784), (5, .aload_n 1, 0), (6, .getfield 306, 834), (9, .iconst 1, 0), (10, .isub, 0), (11, .istore_n 3, 0), (12, .iload_n 3, 0), (13, .ifCond .lt 60, 73), (16, .aload_n 2, 0), (17, .aload_n 1, 0), (18, .getfield 307, 832), (21, .iload_n 3, 0), (22, .aaload, 0), (23, .invokevirtual 316, 174), (26, .ifCond .eq 6, 32), (29, .goto 38, 67), (32, .aload_n 0, 0), (33, .getfield 52, 782), (36, .aload_n 0, 0), (37, .getfield 313, 784), (40, .aload_n 1, 0), (41, .getfield 307, 832), (44, .iload_n 3, 0), (45, .aaload, 0), (46, .aastore, 0), (47, .aload_n 0, 0), (48, .getfield 55, 783), (51, .aload_n 0, 0), (52, .getfield 313, 784), (55, .iconst 0, 0), (56, .bastore, 0), (57, .aload_n 0, 0), (58, .dup, 0), (59, .getfield 313, 784), (62, .iconst 1, 0), (63, .iadd, 0), (64, .putfield 313, 784), (67, .iinc 3 (-1), 0), (70, .goto (-58), 12), (73, .iconst 0, 0), (74, .istore_n 3, 0), (75, .iload_n 3, 0), (76, .aload_n 2, 0), (77, .getfield 306, 834), (80, .if_icmp .ge 60, 140), (83, .aload_n 1, 0), (84, .aload_n 2, 0), (85, .getfield 307, 832), (88, .iload_n 3, 0), (89, .aaload, 0), (90, .invokevirtual 316, 174), (93, .ifCond .eq 6, 99), (96, .goto 38, 134), (99, .aload_n 0, 0), (100, .getfield 52, 782), (103, .aload_n 0, 0), (104, .getfield 313, 784), (107, .aload_n 2, 0), (108, .getfield 307, 832), (111, .iload_n 3, 0), (112, .aaload, 0), (113, .aastore, 0), (114, .aload_n 0, 0), (115, .getfield 55, 783), (118, .aload_n 0, 0), (119, .getfield 313, 784), (122, .iconst 1, 0), (123, .bastore, 0), (124, .aload_n 0, 0), (125, .dup, 0), (126, .getfield 313, 784), (129, .iconst 1, 0), (130, .iadd, 0), (131, .putfield 313, 784), (134, .iinc 3 1, 0), (137, .goto (-62), 75), (140, .return_, 0)]
def il_174 : List (Nat × Instr × Nat) := [(0, .iconst 0, 0), (1, .istore_n 2, 0), (2, .iload_n 2, 0), (3, .aload_n 0, 0), (4, .getfield 21, 834), (7, .if_icmp .ge 21, 28), (10, .aload_n 0, 0), (11, .getfield 11, 832), (14, .iload_n 2, 0), (15, .aaload, 0), (16, .aload_n 1, 0), (17, .if_acmp .ne 5, 22), (20, .iconst 1, 0), (21, .ireturn, 0), (22, .iinc 2 1, 0), (25, .goto (-23), 2), (28, .iconst 0, 0), (29, .ireturn, 0)]
def il_175 : List (Nat × Instr × Nat) := [(0, .aload_n 0, 0), (1, .getfield 48, 780), (4, .iconst 1, 0), (5, .if_icmp .ne 6, 11), (8, .bipush (-2), 0), (10, .ireturn, 0), (11, .iload_n 1, 0), (12, .ifCond .lt 6, 18), (15, .bipush (-5), 0), (17, .ireturn, 0), (18, .aload_n 0, 0), (19, .invokevirtual 320, 168), (22, .astore_n 2, 0), (23, .aload_n 0, 0), (24, .dup, 0), (25, .getfield 48, 780), (28, .iconst 1, 0), (29, .isub, 0), (30, .putfield 48, 780), (33, .aload_n 0, 0), (34, .aload_n 2, 0), (35, .aload_n 0, 0), (36, .invokevirtual 320, 168), (39, .invokevirtual 334, 173), (42, .aload_n 0, 0), (43, .invokevirtual 320, 168), (46, .getfield 306, 834), (49, .ireturn, 0)]
def il_176 : List (Nat × Instr × Nat) := [(0, .iload_n 2, 0), (1, .ifCond .lt 8, 9), (4, .iload_n 2, 0), (5, .iconst 1, 0), (6, .if_icmp .le 5, 11), (9, .iconst (-1), 0), (10, .ireturn, 0), (11, .aload_n 0, 0), (12, .invokevirtual 320, 168), (15, .astore_n 3, 0), (16, .iload_n 1, 0), (17, .ifCond .lt 11, 28), (20, .iload_n 1, 0), (21, .aload_n 3, 0), (22, .getfield 306, 834), (25, .if_icmp .lt 6, 31), (28, .bipush (-2), 0), (30, .ireturn, 0), (31, .iload_n 2, 0), (32, .ifCond .ne 15, 47), (35, .aload_n 3, 0), (36, .getfield 307, 832), (39, .iload_n 1, 0), (40, .aaload, 0), (41, .getfield 256, 896), (44, .goto 9, 53), (47, .aload_n 3, 0), (48, .getfield 310, 833), (51, .iload_n 1, 0), (52, .iaload, 0), (53, .ireturn, 0)]
def il_177 : List (Nat × Instr × Nat) := [(0, .iload_n 2, 0), (1, .ifCond .lt 8, 9), (4, .iload_n 2, 0), (5, .iconst 1, 0), (6, .if_icmp .le 5, 11), (9, .iconst (-1), 0), (10, .ireturn, 0), (11, .iload_n 1, 0), (12, .ifCond .lt 11, 23), (15, .iload_n 1, 0), (16, .aload_n 0, 0), (17, .getfield 313, 784), (20, .if_icmp .lt 6, 26), (23, .bipush (-2), 0), (25, .ireturn, 0), (26, .iload_n 2, 0), (27, .ifCond .ne 15, 42), (30, .aload_n 0, 0), (31, .getfield 52, 782), (34, .iload_n 1, 0), (35, .aaload, 0), (36, .getfield 256, 896), (39, .goto 17, 56), (42, .aload_n 0, 0), (43, .getfield 55, 783), (46, .iload_n 1, 0), (47, .baload, 0), (48, .ifCond .eq 7, 55), (51, .iconst 1, 0), (52, .goto 4, 56), (55, .iconst 0, 0), (56, .ireturn, 0)]
def il_178 : List (Nat × Instr × Nat) := [(0, .aload_n 0, 0), (1, .invokevirtual 198, 132), (4, .aload_n 0, 0), (5, .getfield 79, 771), (8, .iconst 1, 0), (9, .if_icmp .ne 13, 22), (12, .aload_n 0, 0), (13, .invokevirtual 151, 141), (16, .invokestatic 215, 142), (19, .ifCond .ne 6, 25), (22, .bipush (-6), 0), (24, .ireturn, 0), (25, .aload_n 0, 0), (26, .invokevirtual 320, 168), (29, .astore_n 1, 0), (30, .iconst 0, 0), (31, .istore_n 2, 0), (32, .iload_n 2, 0), (33, .aload_n 1, 0), (34, .getfield 306, 834), (37, .if_icmp .ge 61, 98), (40, .iconst 0, 0), (41, .istore_n 3, 0), (42, .iload_n 3, 0), (43, .aload_n 1, 0), (44, .getfield 307, 832), (47, .iload_n 2, 0), (48, .aaload, 0), (49, .getfield 212, 906), (52, .if_icmp .ge 40, 92), (55, .aload_n 1, 0), (56, .getfield 307, 832), (59, .iload_n 2, 0), (60, .aaload, 0), (61, .getfield 218, 905), (64, .iload_n 3, 0), (65, .aaload, 0), (66, .aload_n 0, 0), (67, .invokevirtual 151, 141), (70, .invokevirtual 92, 8888), (73, .ifCond .eq 13, 86), (76, .aload_n 1, 0), (77, .getfield 307, 832), (80, .iload_n 2, 0), (81, .aaload, 0), (82, .getfield 256, 896), (85, .ireturn, 0), (86, .iinc 3 1, 0), (89, .goto (-47), 42), (92, .iinc 2 1, 0), (95, .goto (-63), 32), (98, .bipush (-2), 0), (100, .ireturn, 0)]
def il_179 : List (Nat × Instr × Nat) := [(0, .aload_n 0, 0), (1, .invokevirtual 198, 132), (4, .aload_n 0, 0), (5, .getfield 79, 771), (8, .iconst 2, 0), (9, .if_icmp .eq 6, 15), (12, .bipush (-6), 0), (14, .ireturn, 0), (15, .aload_n 0, 0), (16, .getfield 23, 770), (19, .iconst 0, 0), (20, .aaload, 0), (21, .iconst 0, 0), (22, .invokestatic 180, 135), (25, .astore_n 1, 0), (26, .aload_n 0, 0), (27, .getfield 23, 770), (30, .iconst 1, 0), (31, .aaload, 0), (32, .iconst 0, 0), (33, .invokestatic 180, 135), (36, .astore_n 2, 0), (37, .aload_n 1, 0), (38, .ifnull 7, 45), (41, .aload_n 2, 0), (42, .ifnonnull 8, 50), (45, .bipush (-6), 0), (47, .goto 8, 55), (50, .aload_n 1, 0), (51, .aload_n 2, 0), (52, .invokestatic 186, 148), (55, .ireturn, 0)]
def il_180 : List (Nat × Instr × Nat) := [(0, .aload_n 0, 0), (1, .invokevirtual 198, 132), (4, .aload_n 0, 0), (5, .getfield 79, 771), (8, .iconst 1, 0), (9, .if_icmp .le 16, 25), (12, .aload_n 0, 0), (13, .getfield 23, 770), (16, .iconst 0, 0), (17, .aaload, 0), (18, .iconst 0, 0), (19, .invokestatic 180, 135), (22, .goto 4, 26), (25, .aconst_null, 0), (26, .astore_n 1, 0), (27, .aload_n 1, 0), (28, .ifnonnull 6, 34), (31, .bipush (-6), 0), (33, .ireturn, 0), (34, .aload_n 0, 0), (35, .iconst 1, 0), (36, .putfield 82, 772), (39, .aload_n 0, 0), (40, .invokevirtual 226, 143), (43, .astore_n 2, 0), (44, .aload_n 2, 0), (45, .ifnull 14, 59), (48, .aload_n 0, 0), (49, .getfield 82, 772), (52, .aload_n 0, 0), (53, .getfield 79, 771), (56, .if_icmp .ge 6, 62), (59, .bipush (-6), 0), (61, .ireturn, 0), (62, .aload_n 1, 0), (63, .aload_n 2, 0), (64, .invokestatic 275, 161), (67, .ifCond .eq 7, 74), (70, .iconst 1, 0), (71, .goto 4, 75), (74, .iconst 0, 0), (75, .ireturn, 0)]
def il_181 : List (Nat × Instr × Nat) := [(0, .iload_n 1, 0), (1, .tableswitch 72 0 5 #[39, 44, 49, 57, 62, 67], 39), (40, .aload_n 0, 0), (41, .getfield 244, 774), (44, .ireturn, 0), (45, .aload_n 0, 0), (46, .getfield 262, 778), (49, .ireturn, 0), (50, .aload_n 0, 0), (51, .invokevirtual 320, 168), (54, .getfield 306, 834), (57, .ireturn, 0), (58, .aload_n 0, 0), (59, .getfield 48, 780), (62, .ireturn, 0), (63, .aload_n 0, 0), (64, .getfield 338, 781), (67, .ireturn, 0), (68, .aload_n 0, 0), (69, .getfield 72, 769), (72, .ireturn, 0), (73, .iconst (-1), 0), (74, .ireturn, 0)]
def il_182 : List (Nat × Instr × Nat) := [(0, .new 7, 0), (3, .dup, 0), (4, .invokespecial 9, 0), (7, .astore_n 1, 0), (8, .new 10, 12), (11, .dup, 0), (12, .invokespecial 12, 125), (15, .astore_n 2, 0), (16, .iconst 0, 0), (17, .istore_n 3, 0), (18, .iload_n 3, 0), (19, .aload_n 0, 0), (20, .arraylength, 0), (21, .bipush 6, 0), (23, .isub, 0), (24, .if_icmp .gt 445, 469), (27, .aload_n 0, 0), (28, .iload_n 3, 0), (29, .iaload, 0), (30, .bipush 15, 0), (32, .iand, 0), (33, .tableswitch 430 0 14 #[75, 138, 161, 174, 197, 210, 223, 256, 279, 302, 335, 368, 381, 394, 407], 75), (108, .aload_n 1, 0), (109, .aload_n 0, 0), (110, .iload_n 3, 0), (111, .iconst 1, 0), (112, .iadd, 0), (113, .iaload, 0), (114, .aload_n 0, 0), (115, .iload_n 3, 0), (116, .iconst 2, 0), (117, .iadd, 0), (118, .iaload, 0), (119, .aload_n 0, 0), (120, .iload_n 3, 0), (121, .iconst 3, 0), (122, .iadd, 0), (123, .iaload, 0), (124, .aload_n 0, 0), (125, .iload_n 3, 0), (126, .iconst 4, 0), (127, .iadd, 0), (128, .iaload, 0), (129, .aload_n 0, 0), (130, .iload_n 3, 0), (131, .iconst 5, 0), (132, .iadd, 0), (133, .iaload, 0), (134, .invokevirtual 13, 13), (137, .aload_n 2, 0), (138, .aload_n 0, 0), (139, .iload_n 3, 0), (140, .iconst 1, 0), (141, .iadd, 0), (142, .iaload, 0), (143, .aload_n 0, 0), (144, .iload_n 3, 0), (145, .iconst 2, 0), (146, .iadd, 0), (147, .iaload, 0), (148, .aload_n 0, 0), (149, .iload_n 3, 0), (150, .iconst 3, 0), (151, .iadd, 0), (152, .iaload, 0), (153, .aload_n 0, 0), (154, .iload_n 3, 0), (155, .iconst 4, 0), (156, .iadd, 0), (157, .iaload, 0), (158, .aload_n 0, 0), (159, .iload_n 3, 0), (160, .iconst 5, 0), (161, .iadd, 0), (162, .iaload, 0), (163, .invokevirtual 17, 127), (166, .if_icmp .eq 297, 463), (169, .iconst 0, 0), (170, .ireturn, 0), (171, .aload_n 1, 0), (172, .aload_n 0, 0), (173, .iload_n 3, 0), (174, .iconst 1, 0), (175, .iadd, 0), (176, .iaload, 0), (177, .invokevirtual 18, 17), (180, .aload_n 2, 0), (181, .aload_n 0, 0), (182, .iload_n 3, 0), (183, .iconst 1, 0), (184, .iadd, 0), (185, .iaload, 0), (186, .invokevirtual 22, 129), (189, .if_icmp .eq 274, 463), (192, .iconst 0, 0), (193, .ireturn, 0), (194, .aload_n 1, 0), (195, .invokevirtual 23, 19), (198, .aload_n 2, 0), (199, .invokevirtual 27, 130), (202, .if_icmp .eq 261, 463), (205, .iconst 0, 0), (206, .ireturn, 0), (207, .aload_n 1, 0), (208, .aload_n 0, 0), (209, .iload_n 3, 0), (210, .iconst 1, 0), (211, .iadd, 0), (212, .iaload, 0), (213, .invokevirtual 28, 63), (216, .aload_n 2, 0), (217, .aload_n 0, 0), (218, .iload_n 3, 0), (219, .iconst 1, 0), (220, .iadd, 0), (221, .iaload, 0), (222, .invokevirtual 31, 152), (225, .if_icmp .eq 238, 463), (228, .iconst 0, 0), (229, .ireturn, 0), (230, .aload_n 1, 0), (231, .invokevirtual 32, 67), (234, .aload_n 2, 0), (235, .invokevirtual 35, 153), (238, .if_icmp .eq 225, 463), (241, .iconst 0, 0), (242, .ireturn, 0), (243, .aload_n 1, 0), (244, .invokevirtual 36, 70), (247, .aload_n 2, 0), (248, .invokevirtual 39, 155), (251, .if_icmp .eq 212, 463), (254, .iconst 0, 0), (255, .ireturn, 0), (256, .aload_n 1, 0), (257, .aload_n 0, 0), (258, .iload_n 3, 0), (259, .iconst 1, 0), (260, .iadd, 0), (261, .iaload, 0), (262, .aload_n 0, 0), (263, .iload_n 3, 0), (264, .iconst 2, 0), (265, .iadd, 0), (266, .iaload, 0), (267, .invokevirtual 40, 72), (270, .aload_n 2, 0), (271, .aload_n 0, 0), (272, .iload_n 3, 0), (273, .iconst 1, 0), (274, .iadd, 0), (275, .iaload, 0), (276, .aload_n 0, 0), (277, .iload_n 3, 0), (278, .iconst 2, 0), (279, .iadd, 0), (280, .iaload, 0), (281, .invokevirtual 44, 167), (284, .if_icmp .eq 179, 463), (287, .iconst 0, 0), (288, .ireturn, 0), (289, .aload_n 1, 0), (290, .aload_n 0, 0), (291, .iload_n 3, 0), (292, .iconst 1, 0), (293, .iadd, 0), (294, .iaload, 0), (295, .invokevirtual 45, 108), (298, .aload_n 2, 0), (299, .aload_n 0, 0), (300, .iload_n 3, 0), (301, .iconst 1, 0), (302, .iadd, 0), (303, .iaload, 0), (304, .invokevirtual 48, 175), (307, .if_icmp .eq 156, 463), (310, .iconst 0, 0), (311, .ireturn, 0), (312, .aload_n 1, 0), (313, .aload_n 0, 0), (314, .iload_n 3, 0), (315, .iconst 1, 0), (316, .iadd, 0), (317, .iaload, 0), (318, .invokevirtual 49, 111), (321, .aload_n 2, 0), (322, .aload_n 0, 0), (323, .iload_n 3, 0), (324, .iconst 1, 0), (325, .iadd, 0), (326, .iaload, 0), (327, .invokevirtual 52, 156), (330, .if_icmp .eq 133, 463), (333, .iconst 0, 0), (334, .ireturn, 0), (335, .aload_n 1, 0), (336, .aload_n 0, 0), (337, .iload_n 3, 0), (338, .iconst 1, 0), (339, .iadd, 0), (340, .iaload, 0), (341, .aload_n 0, 0), (342, .iload_n 3, 0), (343, .iconst 2, 0), (344, .iadd, 0), (345, .iaload, 0), (346, .invokevirtual 53, 113), (349, .aload_n 2, 0), (350, .aload_n 0, 0), (351, .iload_n 3, 0), (352, .iconst 1, 0), (353, .iadd, 0), (354, .iaload, 0), (355, .aload_n 0, 0), (356, .iload_n 3, 0), (357, .iconst 2, 0), (358, .iadd, 0), (359, .iaload, 0), (360, .invokevirtual 56, 176), (363, .if_icmp .eq 100, 463), (366, .iconst 0, 0), (367, .ireturn, 0), (368, .aload_n 1, 0), (369, .aload_n 0, 0), (370, .iload_n 3, 0), (371, .iconst 1, 0), (372, .iadd, 0), (373, .iaload, 0), (374, .aload_n 0, 0), (375, .iload_n 3, 0), (376, .iconst 2, 0), (377, .iadd, 0), (378, .iaload, 0), (379, .invokevirtual 57, 115), (382, .aload_n 2, 0), (383, .aload_n 0, 0), (384, .iload_n 3, 0), (385, .iconst 1, 0), (386, .iadd, 0), (387, .iaload, 0), (388, .aload_n 0, 0), (389, .iload_n 3, 0), (390, .iconst 2, 0), (391, .iadd, 0), (392, .iaload, 0), (393, .invokevirtual 60, 177), (396, .if_icmp .eq 67, 463), (399, .iconst 0, 0), (400, .ireturn, 0), (401, .aload_n 1, 0), (402, .invokevirtual 61, 119), (405, .aload_n 2, 0), (406, .invokevirtual 64, 178), (409, .if_icmp .eq 54, 463), (412, .iconst 0, 0), (413, .ireturn, 0), (414, .aload_n 1, 0), (415, .invokevirtual 65, 120), (418, .aload_n 2, 0), (419, .invokevirtual 68, 179), (422, .if_icmp .eq 41, 463), (425, .iconst 0, 0), (426, .ireturn, 0), (427, .aload_n 1, 0), (428, .invokevirtual 69, 121), (431, .aload_n 2, 0), (432, .invokevirtual 72, 180), (435, .if_icmp .eq 28, 463), (438, .iconst 0, 0), (439, .ireturn, 0), (440, .aload_n 1, 0), (441, .aload_n 0, 0), (442, .iload_n 3, 0), (443, .iconst 1, 0), (444, .iadd, 0), (445, .iaload, 0), (446, .invokevirtual 73, 122), (449, .aload_n 2, 0), (450, .aload_n 0, 0), (451, .iload_n 3, 0), (452, .iconst 1, 0), (453, .iadd, 0), (454, .iaload, 0), (455, .invokevirtual 76, 181), (458, .if_icmp .eq 5, 463), (461, .iconst 0, 0), (462, .ireturn, 0), (463, .iinc 3 6, 0), (466, .goto (-448), 18), (469, .iconst 1, 0), (470, .ireturn, 0)]
def tb_ils : List (List (Nat × Instr × Nat)) := [il_0, il_1, il_2, il_3, il_4, il_5, il_6, il_7, il_8, il_9, il_10, il_11, il_12, il_13, il_14, il_15, il_16, il_17, il_18, il_19, il_20, il_21, il_22, il_23, il_24, il_25, il_26, il_27, il_28, il_29, il_30, il_31, il_32, il_33, il_34, il_35, il_36, il_37, il_38, il_39, il_40, il_41, il_42, il_43, il_44, il_45, il_46, il_47, il_48, il_49, il_50, il_51, il_52, il_53, il_54, il_55, il_56, il_57, il_58, il_59, il_60, il_61, il_62, il_63, il_64, il_65, il_66, il_67, il_68, il_69, il_70, il_71, il_72, il_73, il_74, il_75, il_76, il_77, il_78, il_79, il_80, il_81, il_82, il_83, il_84, il_85, il_86, il_87, il_88, il_89, il_90, il_91, il_92, il_93, il_94, il_95, il_96, il_97, il_98, il_99, il_100, il_101, il_102, il_103, il_104, il_105, il_106, il_107, il_108, il_109, il_110, il_111, il_112, il_113, il_114, il_115, il_116, il_117, il_118, il_119, il_120, il_121, il_122, il_123, il_124, il_125, il_126, il_127, il_128, il_129, il_130, il_131, il_132, il_133, il_134, il_135, il_136, il_137, il_138, il_139, il_140, il_141, il_142, il_143, il_144, il_145, il_146, il_147, il_148, il_149, il_150, il_151, il_152, il_153, il_154, il_155, il_156, il_157, il_158, il_159, il_160, il_161, il_162, il_163, il_164, il_165, il_166, il_167, il_168, il_169, il_170, il_171, il_172, il_173, il_174, il_175, il_176, il_177, il_178, il_179, il_180, il_181, il_182]
def tb_il (M : Nat) : List (Nat × Instr × Nat) := tb_ils.getD M []
def tb_fl : List (Nat × Nat × Nat) := [(0, 10, 0), (0, 21, 1), (0, 28, 2), (0, 37, 3), (0, 46, 4), (0, 53, 5), (1, 9, 64), (2, 7, 128), (3, 11, 192), (4, 7, 256), (4, 15, 257), (5, 9, 322), (5, 15, 323), (5, 19, 325), (5, 22, 326), (5, 25, 320), (5, 29, 321), (6, 13, 384), (6, 17, 387), (6, 21, 388), (6, 29, 385), (7, 7, 450), (7, 15, 448), (7, 19, 449), (4, 19, 258), (1, 13, 65), (2, 13, 130), (2, 20, 129), (3, 19, 194), (17, 9, 1088), (17, 15, 1089), (2, 124, 131), (8, 9, 512), (9, 9, 576), (9, 13, 577), (9, 17, 578), (9, 26, 579), (9, 30, 580), (9, 33, 581), (10, 11, 640), (10, 15, 641), (10, 19, 642), (11, 7, 704), (11, 13, 705), (11, 17, 706), (11, 20, 707), (9, 37, 582), (3, 15, 193), (5, 33, 330), (5, 47, 328), (5, 40, 332), (5, 44, 329), (5, 37, 331), (5, 85, 324), (5, 130, 327), (6, 33, 386), (6, 48, 389), (12, 19, 768), (12, 23, 770), (12, 29, 773), (12, 33, 776), (12, 38, 777), (12, 44, 779), (12, 48, 780), (12, 52, 782), (12, 55, 783), (12, 59, 785), (12, 62, 787), (12, 65, 788), (12, 68, 791), (13, 11, 832), (13, 17, 833), (12, 72, 769), (12, 244, 774), (12, 205, 897), (12, 209, 898), (12, 250, 786), (12, 253, 775), (12, 256, 896), (12, 258, 790), (12, 79, 771), (12, 82, 772), (12, 212, 906), (12, 218, 905), (12, 220, 901), (12, 223, 904), (12, 230, 899), (12, 232, 900), (12, 235, 902), (12, 237, 903), (14, 9, 899), (14, 17, 900), (14, 21, 902), (14, 24, 903), (14, 27, 905), (12, 114, 960), (12, 125, 962), (12, 128, 961), (15, 7, 960), (15, 15, 961), (12, 156, 1027), (12, 167, 1024), (12, 173, 1025), (12, 183, 1026), (16, 7, 1024), (16, 15, 1025), (16, 19, 1026), (12, 262, 778), (12, 297, 789), (12, 306, 834), (12, 307, 832), (12, 338, 781), (12, 310, 833), (12, 313, 784), (13, 21, 834)]
def tb_fn : List (Nat × Nat × Nat × Nat) := [(7, 44, 579, 0), (7, 48, 577, 0), (0, 98, 576, 0), (2, 83, 579, 0), (2, 88, 580, 0), (3, 33, 577, 0), (3, 22, 576, 0), (5, 95, 577, 0), (5, 101, 579, 0), (5, 133, 578, 0), (5, 127, 580, 0), (6, 58, 576, 0), (7, 37, 576, 0)]
def tb_ml : List (Nat × Nat × Nat) := [(0, 18, 2), (0, 34, 4), (0, 43, 5), (0, 52, 6), (6, 26, 7), (7, 23, 8), (7, 27, 11), (7, 52, 9), (7, 58, 12), (0, 57, 14), (0, 61, 15), (0, 64, 16), (0, 68, 18), (0, 71, 20), (0, 74, 23), (0, 77, 24), (0, 81, 54), (0, 85, 55), (0, 89, 59), (0, 91, 61), (0, 95, 62), (2, 17, 21), (2, 152, 16), (2, 27, 22), (2, 70, 25), (2, 74, 31), (2, 78, 41), (2, 61, 42), (2, 54, 27), (2, 92, 43), (2, 96, 51), (2, 101, 52), (2, 105, 53), (2, 23, 26), (2, 33, 30), (2, 156, 28), (17, 335, 29), (2, 37, 32), (2, 126, 33), (2, 129, 36), (2, 134, 37), (2, 137, 38), (2, 140, 40), (2, 144, 34), (2, 147, 35), (2, 64, 39), (9, 23, 4), (2, 44, 45), (2, 48, 49), (2, 58, 50), (2, 113, 46), (2, 116, 47), (2, 121, 48), (8, 17, 37), (8, 20, 48), (0, 217, 42), (3, 25, 56), (9, 50, 57), (9, 56, 58), (3, 29, 60), (0, 104, 64), (0, 108, 65), (0, 111, 66), (0, 112, 25), (0, 116, 43), (0, 120, 68), (0, 124, 69), (4, 23, 9), (4, 27, 51), (0, 125, 9), (0, 128, 71), (0, 129, 73), (0, 132, 93), (0, 136, 94), (0, 140, 98), (0, 143, 101), (0, 148, 104), (0, 151, 95), (5, 68, 74), (5, 50, 66), (5, 71, 76), (5, 75, 84), (5, 78, 85), (5, 81, 86), (5, 88, 60), (5, 91, 75), (5, 104, 69), (5, 107, 77), (5, 111, 78), (5, 115, 79), (5, 119, 80), (5, 123, 83), (5, 137, 81), (10, 23, 82), (11, 23, 58), (5, 60, 87), (5, 64, 92), (5, 143, 88), (5, 146, 90), (5, 149, 89), (5, 152, 91), (0, 176, 96), (0, 220, 97), (0, 158, 99), (0, 161, 100), (0, 169, 10), (0, 173, 75), (0, 223, 7), (7, 40, 102), (9, 46, 103), (6, 36, 93), (6, 40, 105), (6, 51, 95), (6, 54, 96), (6, 61, 106), (6, 65, 107), (0, 152, 109), (0, 155, 110), (6, 44, 109), (0, 164, 112), (0, 177, 114), (0, 180, 116), (0, 183, 117), (0, 186, 118), (0, 189, 52), (0, 193, 103), (0, 197, 31), (0, 201, 58), (0, 207, 81), (0, 213, 123), (0, 214, 124), (12, 75, 128), (12, 240, 131), (12, 186, 148), (12, 247, 150), (12, 198, 132), (12, 202, 134), (12, 180, 135), (12, 151, 141), (12, 215, 142), (12, 226, 143), (12, 1, 28), (12, 100, 137), (12, 122, 138), (12, 104, 140), (12, 107, 139), (12, 159, 145), (12, 170, 146), (12, 177, 147), (12, 131, 149), (12, 268, 151), (12, 265, 154), (12, 300, 157), (12, 290, 158), (12, 283, 159), (12, 286, 165), (12, 293, 166), (12, 275, 161), (12, 271, 160), (12, 279, 164), (12, 194, 162), (12, 190, 163), (12, 320, 168), (12, 324, 169), (12, 327, 170), (12, 330, 171), (12, 334, 173), (12, 303, 172), (12, 316, 174), (18, 9, 0), (18, 12, 125), (18, 13, 13), (18, 17, 127), (18, 18, 17), (18, 22, 129), (18, 23, 19), (18, 27, 130), (18, 28, 63), (18, 31, 152), (18, 32, 67), (18, 35, 153), (18, 36, 70), (18, 39, 155), (18, 40, 72), (18, 44, 167), (18, 45, 108), (18, 48, 175), (18, 49, 111), (18, 52, 156), (18, 53, 113), (18, 56, 176), (18, 57, 115), (18, 60, 177), (18, 61, 119), (18, 64, 178), (18, 65, 120), (18, 68, 179), (18, 69, 121), (18, 72, 180), (18, 73, 122), (18, 76, 181)]
def tb_mn : List (Nat × Nat × Nat × Nat) := [(0, 9, 1, 0), (0, 27, 3, 0), (7, 31, 10, 0), (2, 43, 44, 0), (5, 54, 10, 0), (12, 71, 126, 12), (12, 201, 133, 12), (12, 113, 136, 12), (12, 155, 144, 12)]
def tb_nl : List (Nat × Nat × Nat) := [(0, 7, 1), (0, 16, 2), (0, 25, 3), (0, 32, 4), (0, 41, 5), (0, 50, 6), (6, 11, 7), (2, 68, 9), (2, 117, 8), (9, 21, 4), (2, 41, 10), (2, 111, 11), (8, 7, 8), (0, 144, 7), (12, 42, 13), (12, 27, 14), (12, 2, 17), (12, 111, 15), (12, 36, 16), (18, 7, 0), (18, 10, 12)]
def tb_al : List (Nat × Nat × Nat) := [(3, 9, 5), (4, 13, 6), (6, 11, 7), (6, 24, 5), (7, 13, 5), (10, 9, 8), (0, 99, 5), (12, 2, 9), (12, 27, 10), (12, 36, 11), (12, 42, 12), (13, 9, 10), (14, 7, 9), (14, 15, 11), (15, 13, 9), (16, 13, 13)]
def tb_oi : List (Nat × Nat) := [(0, 1), (1, 1), (2, 1), (3, 1), (4, 1), (5, 1), (6, 3), (7, 1), (8, 1), (9, 3), (10, 1), (11, 1), (12, 11), (13, 3), (14, 1), (15, 1), (16, 1)]
def tb_kw : List (Nat × Nat × Nat) := [(19, 265, 0), (19, 266, 1), (19, 267, 2)]
def tb_k2 : List (Nat × Nat × Nat) := [(2, 132, 0), (2, 150, 1), (8, 13, 2), (8, 15, 0)]
def tb_sr : List (Nat × Nat × Nat) := [(2, 81, 0), (2, 86, 1), (2, 90, 2), (2, 52, 4), (2, 109, 3), (12, 98, 2), (12, 90, 0), (12, 96, 1), (12, 88, 5), (12, 163, 4), (12, 165, 3), (12, 134, 6), (12, 139, 7), (12, 141, 8), (12, 143, 9), (12, 147, 10), (12, 149, 11), (12, 145, 12)]
def tb_zl : List (Nat × Nat × Nat) := [(17, 38, 0)]
def tb_zv : List (Nat × String × String × Int32) := [(17, "COMPACT_STRINGS", "Z", 1)]
def tb_str : Nat := 17
def tb_sn : Nat := 13
def tb_sl : List Nat := [5, 6, 4, 1, 2, 0, 2, 2, 1, 1, 1, 1, 1]
def tb_sb : List (List Int32) := [[110, 101, 101, 100, 115], [98, 114, 101, 97, 107, 115], [111, 119, 110, 115], [42], [124, 124], [], [60, 61], [62, 61], [60], [62], [94], [126], [61]]
def tb_sf (k : Nat) : String × String := match k with
  | 0 => ("value", "[B")
  | _ => ("coder", "B")
end
section
/-! THE PURE MACHINE, 1: its values, cells, locals; what a heap has to do with a list of cells. References are counted from a base b; '.retAddr k' stands for the string constant k, at sa k. -/
def ab_v (b : Nat) (sa : Nat → Nat) (v : Value) : Value := match v with
  | .ref a => .ref (b + a)
  | .retAddr k => .ref (sa k)
  | w => w
theorem ab_v_cat (b : Nat) (sa : Nat → Nat) (v : Value) : (ab_v b sa v).category = v.category := by cases v <;> rfl
abbrev ab_A : Type := (Nat → Int32) ⊕ (Nat → Int64) ⊕ (Nat → UInt32) ⊕ (Nat → UInt64) ⊕ (Nat → Option Nat)
def ab_a (b : Nat) (x : ab_A) : ab_A := match x with
  | .inr (.inr (.inr (.inr f))) => .inr (.inr (.inr (.inr (fun j => (f j).map (fun q => b + q)))))
  | y => y
def ab_e (b : Nat) (sa : Nat → Nat) (dA : Nat → ClassId) (e : va_E) : va_E := match e with
  | .inl (t, n, x) => .inl (dA t, n, ab_a b x)
  | .inr (ci, fs) => .inr (ci, fs.map (ab_v b sa))
def ab_P (b : Nat) (sa : Nat → Nat) (D : va_G) (dA : Nat → ClassId) (cl : List vw_C) (h : List va_E) (H : Heap) : Prop :=
  H.size = b + h.length ∧ ∀ (i : Nat) (e : va_E), h[i]? = some e → va_at D cl (b + i, ab_e b sa dA e) H
theorem ab_P.set {b : Nat} {sa : Nat → Nat} {D : va_G} {dA : Nat → ClassId} {cl : List vw_C} {h : List va_E} {H H1 : Heap} {i : Nat} {e e' : va_E} (hP : ab_P b sa D dA cl h H) (hi : h[i]? = some e) (z : H1.size = H.size) (oq : ∀ q : Nat, q ≠ b + i → H1[q]? = H[q]?) (he : va_at D cl (b + i, ab_e b sa dA e') H1) : ab_P b sa D dA cl (h.set i e') H1 := by
  have hl := (List.getElem?_eq_some_iff.mp hi).1
  refine ⟨by rw [z, hP.1, List.length_set], fun k x hk => ?_⟩
  by_cases hki : k = i
  · subst hki
    rw [List.getElem?_set_self hl] at hk
    cases hk
    exact he
  · rw [List.getElem?_set_ne (Ne.symm hki)] at hk
    exact (hP.2 k x hk).kept (oq (b + k) (by omega))
theorem ab_P.push {b : Nat} {sa : Nat → Nat} {D : va_G} {dA : Nat → ClassId} {cl : List vw_C} {h : List va_E} {H H1 : Heap} {e : va_E} (hP : ab_P b sa D dA cl h H) (z : H1.size = H.size + 1) (oq : ∀ q : Nat, q < H.size → H1[q]? = H[q]?) (he : va_at D cl (b + h.length, ab_e b sa dA e) H1) : ab_P b sa D dA cl (h ++ [e]) H1 := by
  refine ⟨by rw [z, hP.1, List.length_append]; rfl, fun k x hk => ?_⟩
  by_cases hl : k < h.length
  · rw [List.getElem?_append_left hl] at hk
    exact (hP.2 k x hk).kept (oq (b + k) (by rw [hP.1]; omega))
  · rw [List.getElem?_append_right (by omega)] at hk
    have hz : k - h.length < 1 := (List.getElem?_eq_some_iff.mp hk).1
    have hk0 : k = h.length := by omega
    subst hk0
    rw [Nat.sub_self] at hk
    cases hk
    exact he
/-- the slots of a cell, of a heap; nf: how many fields a class has -/
def ab_z (nf : Nat → Nat) (e : va_E) : Nat := match e with
  | .inl (_, n, _) => n
  | .inr (ci, _) => nf ci
def ab_sl (nf : Nat → Nat) : List va_E → Nat
  | [] => 0
  | e :: h => ab_z nf e + ab_sl nf h
theorem ab_sl_app (nf : Nat → Nat) (h : List va_E) (e : va_E) : ab_sl nf (h ++ [e]) = ab_sl nf h + ab_z nf e := by
  induction h with
  | nil => simp [ab_sl]
  | cons a h ih => simp only [List.cons_append, ab_sl, ih]; omega
theorem ab_sl_set (nf : Nat → Nat) : ∀ (h : List va_E) (i : Nat) (e e' : va_E), h[i]? = some e → ab_z nf e' = ab_z nf e → ab_sl nf (h.set i e') = ab_sl nf h
  | [], i, e, e', hi, _ => by simp at hi
  | a :: h, 0, e, e', hi, hz => by
    simp only [List.getElem?_cons_zero, Option.some.injEq] at hi
    subst hi
    simp only [List.set_cons_zero, ab_sl, hz]
  | a :: h, i + 1, e, e', hi, hz => by
    simp only [List.getElem?_cons_succ] at hi
    simp only [List.set_cons_succ, ab_sl, ab_sl_set nf h i e e' hi hz]
/-- the locals -/
abbrev ab_Lo : Type := List (Option Value)
def ab_L (b : Nat) (sa : Nat → Nat) (nL : Nat) (ls : Array Slot) (L : ab_Lo) : Prop := ls.size = nL ∧ lv_wf ls ∧ ∀ (i : Nat) (v : Value), L[i]? = some (some v) → ls[i]? = some (.val (ab_v b sa v))
def ab_al (b : Nat) (sa : Nat → Nat) (L : ab_Lo) : List (Nat × Value) := (List.range L.length).filterMap (fun i => match L[i]? with
  | some (some v) => some (i, ab_v b sa v)
  | _ => none)
theorem ab_al_mem {b : Nat} {sa : Nat → Nat} {L : ab_Lo} {i : Nat} {v : Value} (h : L[i]? = some (some v)) : (i, ab_v b sa v) ∈ ab_al b sa L :=
  List.mem_filterMap.mpr ⟨i, List.mem_range.mpr (List.getElem?_eq_some_iff.mp h).1, by rw [h]⟩
theorem ab_al_of {b : Nat} {sa : Nat → Nat} {L : ab_Lo} {q : Nat × Value} (h : q ∈ ab_al b sa L) : ∃ v, L[q.1]? = some (some v) ∧ q.2 = ab_v b sa v := by
  obtain ⟨i, -, hi⟩ := List.mem_filterMap.mp h
  split at hi
  next v hv =>
    cases hi
    exact ⟨v, hv, rfl⟩
  next => cases hi
theorem ab_L.has {b : Nat} {sa : Nat → Nat} {nL : Nat} {ls : Array Slot} {L : ab_Lo} (h : ab_L b sa nL ls L) : lv_has ls nL (ab_al b sa L) := by
  refine ⟨h.1, h.2.1, fun q hq => ?_⟩
  obtain ⟨v, h1, h2⟩ := ab_al_of hq
  rw [h2]
  exact h.2.2 q.1 v h1
/-- a long that ends at place i is gone -/
def ab_c (L : ab_Lo) (i : Nat) : ab_Lo := match i with
  | 0 => L
  | j + 1 => match L[j]? with
    | some (some (.long _)) => L.set j none
    | some (some (.double _)) => L.set j none
    | _ => L
def ab_s1 (L : ab_Lo) (i : Nat) (v : Value) : ab_Lo := (ab_c L i).set i (some v)
def ab_s2 (L : ab_Lo) (i : Nat) (v : Value) : ab_Lo := ((ab_c L i).set i (some v)).set (i + 1) none
theorem ab_c_get {L : ab_Lo} {i j : Nat} {w : Value} (h : (ab_c L i)[j]? = some (some w)) : L[j]? = some (some w) ∧ ¬ (j + 1 = i ∧ w.category = 2) := by
  cases i with
  | zero => exact ⟨h, fun q => by omega⟩
  | succ k =>
    have aux : ∀ (L' : ab_Lo), L' = L.set k none → L'[j]? = some (some w) → L[j]? = some (some w) ∧ ¬ (j + 1 = k + 1 ∧ w.category = 2) := by
      intro L' e h'
      subst e
      by_cases hj : j = k
      · subst hj
        rw [List.getElem?_set] at h'
        simp at h'
      · rw [List.getElem?_set_ne (Ne.symm hj)] at h'
        exact ⟨h', fun q => hj (by omega)⟩
    simp only [ab_c] at h
    split at h
    · exact aux _ rfl h
    · exact aux _ rfl h
    · next n1 n2 =>
      refine ⟨h, fun q => ?_⟩
      have hj : j = k := by omega
      subst hj
      cases w with
      | long x => exact n1 x h
      | double x => exact n2 x h
      | _ => exact absurd q.2 (by simp [Value.category])
theorem ab_L.s1 {b : Nat} {sa : Nat → Nat} {nL : Nat} {ls' : Array Slot} {L : ab_Lo} {i : Nat} {v : Value} {w : Value} (hw : w = ab_v b sa v) (h : lv_has ls' nL ((i, w) :: (ab_al b sa L).filter (fun q => !(q.1 == i) && !(q.1 + 1 == i && q.2.category == 2)))) : ab_L b sa nL ls' (ab_s1 L i v) := by
  subst hw
  refine ⟨h.1, h.2.1, fun j x hj => ?_⟩
  unfold ab_s1 at hj
  by_cases hji : j = i
  · subst hji
    rw [List.getElem?_set] at hj
    simp only [if_true] at hj
    split at hj
    · cases hj
      exact h.2.2 (j, ab_v b sa v) List.mem_cons_self
    · cases hj
  · rw [List.getElem?_set_ne (Ne.symm hji)] at hj
    obtain ⟨h1, h2⟩ := ab_c_get hj
    refine h.2.2 (j, ab_v b sa x) (List.mem_cons_of_mem _ (List.mem_filter.mpr ⟨ab_al_mem h1, ?_⟩))
    simp only [ab_v_cat, Bool.and_eq_true, Bool.not_eq_true', beq_eq_false_iff_ne, ne_eq, hji, not_false_eq_true, true_and, Bool.and_eq_false_imp, beq_iff_eq]
    intro q
    exact fun z => h2 ⟨q, z⟩
theorem ab_L.s2 {b : Nat} {sa : Nat → Nat} {nL : Nat} {ls' : Array Slot} {L : ab_Lo} {i : Nat} {v : Value} {w : Value} (hw : w = ab_v b sa v) (h : lv_has ls' nL ((i, w) :: (ab_al b sa L).filter (fun q => !(q.1 == i) && (!(q.1 == i + 1) && !(q.1 + 1 == i && q.2.category == 2))))) : ab_L b sa nL ls' (ab_s2 L i v) := by
  subst hw
  refine ⟨h.1, h.2.1, fun j x hj => ?_⟩
  unfold ab_s2 at hj
  by_cases hj1 : j = i + 1
  · subst hj1
    rw [List.getElem?_set] at hj
    simp only [if_true] at hj
    split at hj <;> cases hj
  · rw [List.getElem?_set_ne (Ne.symm hj1)] at hj
    by_cases hji : j = i
    · subst hji
      rw [List.getElem?_set] at hj
      simp only [if_true] at hj
      split at hj
      · cases hj
        exact h.2.2 (j, ab_v b sa v) List.mem_cons_self
      · cases hj
    · rw [List.getElem?_set_ne (Ne.symm hji)] at hj
      obtain ⟨h1, h2⟩ := ab_c_get hj
      refine h.2.2 (j, ab_v b sa x) (List.mem_cons_of_mem _ (List.mem_filter.mpr ⟨ab_al_mem h1, ?_⟩))
      simp only [ab_v_cat, Bool.and_eq_true, Bool.not_eq_true', beq_eq_false_iff_ne, ne_eq, hji, hj1, not_false_eq_true, true_and, Bool.and_eq_false_imp, beq_iff_eq]
      intro q
      exact fun z => h2 ⟨q, z⟩
/-- the locals with which a method begins -/
def ab_en : List Value → ab_Lo
  | [] => []
  | v :: vs => match v with
    | .long x => some (.long x) :: none :: ab_en vs
    | .double x => some (.double x) :: none :: ab_en vs
    | w => some w :: ab_en vs
theorem ab_en_len (b : Nat) (sa : Nat → Nat) : ∀ vs : List Value, (lg_sl (vs.map (ab_v b sa))).length = (ab_en vs).length
  | [] => rfl
  | v :: vs => by
    have ih := ab_en_len b sa vs
    cases v <;> simp [lg_sl, ab_v, ab_en, Value.category] at ih ⊢ <;> omega
theorem ab_en_get (b : Nat) (sa : Nat → Nat) : ∀ (vs : List Value) (k i : Nat) (v : Value), (ab_en vs)[i]? = some (some v) → (k + i, ab_v b sa v) ∈ lv_args k (vs.map (ab_v b sa))
  | [], k, i, v, h => by simp [ab_en] at h
  | w :: vs, k, i, v, h => by
    have one : ∀ (u : Value), u.category = 1 → (some u :: ab_en vs)[i]? = some (some v) → (k + i, ab_v b sa v) ∈ lv_args k ((u :: vs).map (ab_v b sa)) := by
      intro u hu h
      rw [List.map_cons, lv_args, ab_v_cat, hu, if_neg (by decide)]
      cases i with
      | zero =>
        simp only [List.getElem?_cons_zero, Option.some.injEq] at h
        subst h
        exact List.mem_cons_self
      | succ i =>
        rw [List.getElem?_cons_succ] at h
        have := ab_en_get b sa vs (k + 1) i v h
        rw [show k + (i + 1) = k + 1 + i by omega]
        exact List.mem_cons_of_mem _ this
    have two : ∀ (u : Value), u.category = 2 → (some u :: none :: ab_en vs)[i]? = some (some v) → (k + i, ab_v b sa v) ∈ lv_args k ((u :: vs).map (ab_v b sa)) := by
      intro u hu h
      rw [List.map_cons, lv_args, ab_v_cat, hu, if_pos rfl]
      cases i with
      | zero =>
        simp only [List.getElem?_cons_zero, Option.some.injEq] at h
        subst h
        exact List.mem_cons_self
      | succ i =>
        cases i with
        | zero => simp at h
        | succ i =>
          rw [List.getElem?_cons_succ, List.getElem?_cons_succ] at h
          have := ab_en_get b sa vs (k + 2) i v h
          rw [show k + (i + 1 + 1) = k + 2 + i by omega]
          exact List.mem_cons_of_mem _ this
    cases w with
    | long x => exact two _ rfl h
    | double x => exact two _ rfl h
    | int x => exact one _ rfl h
    | float x => exact one _ rfl h
    | null => exact one _ rfl h
    | ref x => exact one _ rfl h
    | retAddr x => exact one _ rfl h
theorem ab_en_ok (b : Nat) (sa : Nat → Nat) (vs : List Value) {nL : Nat} (hn : (ab_en vs).length ≤ nL) : ab_L b sa nL ((lg_sl (vs.map (ab_v b sa)) ++ List.replicate (nL - (lg_sl (vs.map (ab_v b sa))).length) Slot.unset).toArray) (ab_en vs ++ List.replicate (nL - (ab_en vs).length) none) := by
  have h := lv_entry (vs.map (ab_v b sa)) (n := nL) (by rw [ab_en_len]; exact hn)
  refine ⟨h.1, h.2.1, fun i v hi => ?_⟩
  by_cases hl : i < (ab_en vs).length
  · rw [List.getElem?_append_left hl] at hi
    have := ab_en_get b sa vs 0 i v hi
    rw [Nat.zero_add] at this
    exact h.2.2 _ this
  · rw [List.getElem?_append_right (by omega), List.getElem?_replicate] at hi
    split at hi <;> cases hi
theorem ab_c_len (L : ab_Lo) (i : Nat) : (ab_c L i).length = L.length := by
  unfold ab_c
  split
  · rfl
  · split <;> simp
theorem ab_P.one {b : Nat} {sa : Nat → Nat} {D : va_G} {dA : Nat → ClassId} {cl : List vw_C} {h : List va_E} {H : Heap} {i : Nat} {e : va_E} (hP : ab_P b sa D dA cl h H) (hi : h[i]? = some e) : va_P D cl [(b + i, ab_e b sa dA e)] H := by
  intro k q hk
  have hz : k < 1 := (List.getElem?_eq_some_iff.mp hk).1
  have hk0 : k = 0 := by omega
  subst hk0
  cases hk
  exact hP.2 i e hi
theorem ab_v_w (b : Nat) (sa : Nat → Nat) (o : Option Nat) : ab_v b sa (match o with | none => .null | some a => .ref a) = va_rf (o.map (fun q => b + q)) := by
  cases o <;> rfl
theorem ab_v_def (b : Nat) (sa : Nat → Nat) (ty : FieldType) : ab_v b sa (defaultValue ty) = defaultValue ty := by
  cases ty <;> rfl
theorem ab_sum (b : Nat) (sa : Nat → Nat) (st : List Value) : ((st.map (ab_v b sa)).map fun v => v.category).sum = (st.map fun v => v.category).sum := by
  rw [List.map_map]
  congr 1
  exact List.map_congr_left (fun v _ => ab_v_cat b sa v)
end
section
/-! THE PURE MACHINE, 2: one step, a run. -/
abbrev ab_Y : Type := (Nat × ab_Lo × List Value × List va_E) ⊕ ((Nat × List Value × List Value) ⊕ Option Value)
def ab_n (pc : Nat) (L : ab_Lo) (st : List Value) (h : List va_E) : Option ab_Y := some (.inl (pc, L, st, h))
def ab_cd (c : Jvm.ClassFile.Cond) (x y : Int32) : Bool := match c with
  | .eq => decide (x = y)
  | .ne => !decide (x = y)
  | .lt => decide (x < y)
  | .ge => decide (y ≤ x)
  | .gt => decide (y < x)
  | .le => decide (x ≤ y)
def ab_len (i : Instr) : Nat := match i with
  | .bipush _ | .iload _ | .lload _ | .aload _ | .istore _ | .lstore _ | .astore _ | .newarray _ | .ldc _ => 2
  | .sipush _ | .iinc _ _ | .goto _ | .ifCond _ _ | .if_icmp _ _ | .if_acmp _ _ | .ifnull _ | .ifnonnull _ | .getfield _ | .putfield _ | .new _ | .anewarray _ | .invokevirtual _ | .invokespecial _ | .invokestatic _ | .ldc2_w _ | .ldc_w _ | .getstatic _ => 3
  | _ => 1
def ab_l2 (i : Instr) (r : Nat) : Nat := match i with
  | .tableswitch _ _ _ _ => r
  | .lookupswitch _ _ => r
  | _ => ab_len i
/-- may the value go into a field, be an answer, of this type -/
def ab_f (ty : FieldType) (v : Value) : Bool := match ty, v with
  | .int, .int _ => true
  | .long, .long _ => true
  | .boolean, .int x => x == 0 || x == 1
  | .char, .int x => 0 ≤ x && x ≤ 65535
  | .byte, .int x => -128 ≤ x && x ≤ 127
  | .object _, .null => true
  | .object _, .ref _ => true
  | .object _, .retAddr _ => true
  | .array _, .null => true
  | .array _, .ref _ => true
  | _, _ => false
def ab_ix (i : Int32) (n : Nat) : Bool := decide (i < 0) || decide (n ≤ i.toNatClampNeg)
/-- the place of a cell of references: none is null -/
def ab_r (v : Value) : Option (Option Nat) := match v with
  | .null => some none
  | .ref a => some (some a)
  | _ => none
def ab_w (o : Option Nat) : Value := match o with
  | none => .null
  | some a => .ref a

/-- an array of references to objects of a class -/
def ab_ro (t : Nat) : Bool := match tb_at[t]? with
  | some (.object _) => true
  | _ => false
def ab_x (X : Nat × (Nat → Int32)) (r pc : Nat) (i : Instr) (L : ab_Lo) (st : List Value) (h : List va_E) : Option ab_Y := match i with
  | .iconst n => ab_n (pc + 1) L (.int (Int32.ofInt n) :: st) h
  | .bipush n => ab_n (pc + 2) L (.int (Int8.ofInt n).toInt32 :: st) h
  | .sipush n => ab_n (pc + 3) L (.int (Int16.ofInt n).toInt32 :: st) h
  | .lconst n => ab_n (pc + 1) L (.long (Int64.ofNat (n : Nat)) :: st) h
  | .aconst_null => ab_n (pc + 1) L (.null :: st) h
  | .getstatic _ => (match tb_zv[r]? with | some q => ab_n (pc + 3) L (.int q.2.2.2 :: st) h | none => none)
  | .ldc _ => if 10000 ≤ r then ab_n (pc + 2) L (.retAddr (r - 10000) :: st) h else (match tb_ki[r]? with | some x => ab_n (pc + 2) L (.int x :: st) h | none => none)
  | .ldc_w _ => (match tb_ki[r]? with | some x => ab_n (pc + 3) L (.int x :: st) h | none => none)
  | .ldc2_w _ => (match tb_kl[r]? with | some x => ab_n (pc + 3) L (.long x :: st) h | none => none)
  | .iload k => (match L[k]? with | some (some (.int x)) => ab_n (pc + 2) L (.int x :: st) h | _ => none)
  | .iload_n k => (match L[(k : Nat)]? with | some (some (.int x)) => ab_n (pc + 1) L (.int x :: st) h | _ => none)
  | .lload k => (match L[k]? with | some (some (.long x)) => ab_n (pc + 2) L (.long x :: st) h | _ => none)
  | .lload_n k => (match L[(k : Nat)]? with | some (some (.long x)) => ab_n (pc + 1) L (.long x :: st) h | _ => none)
  | .aload k => (match L[k]? with | some (some (.ref x)) => ab_n (pc + 2) L (.ref x :: st) h | some (some .null) => ab_n (pc + 2) L (.null :: st) h | some (some (.retAddr x)) => ab_n (pc + 2) L (.retAddr x :: st) h | _ => none)
  | .aload_n k => (match L[(k : Nat)]? with | some (some (.ref x)) => ab_n (pc + 1) L (.ref x :: st) h | some (some .null) => ab_n (pc + 1) L (.null :: st) h | some (some (.retAddr x)) => ab_n (pc + 1) L (.retAddr x :: st) h | _ => none)
  | .istore k => (match st with | .int x :: st' => if k < L.length then ab_n (pc + 2) (ab_s1 L k (.int x)) st' h else none | _ => none)
  | .lstore k => (match st with | .long x :: st' => if k + 1 < L.length then ab_n (pc + 2) (ab_s2 L k (.long x)) st' h else none | _ => none)
  | .astore k => (match st with | .ref x :: st' => if k < L.length then ab_n (pc + 2) (ab_s1 L k (.ref x)) st' h else none | .null :: st' => if k < L.length then ab_n (pc + 2) (ab_s1 L k .null) st' h else none | .retAddr x :: st' => if k < L.length then ab_n (pc + 2) (ab_s1 L k (.retAddr x)) st' h else none | _ => none)
  | .istore_n k => (match st with | .int x :: st' => if (k : Nat) < L.length then ab_n (pc + 1) (ab_s1 L (k : Nat) (.int x)) st' h else none | _ => none)
  | .lstore_n k => (match st with | .long x :: st' => if (k : Nat) + 1 < L.length then ab_n (pc + 1) (ab_s2 L (k : Nat) (.long x)) st' h else none | _ => none)
  | .astore_n k => (match st with | .ref x :: st' => if (k : Nat) < L.length then ab_n (pc + 1) (ab_s1 L (k : Nat) (.ref x)) st' h else none | .null :: st' => if (k : Nat) < L.length then ab_n (pc + 1) (ab_s1 L (k : Nat) .null) st' h else none | .retAddr x :: st' => if (k : Nat) < L.length then ab_n (pc + 1) (ab_s1 L (k : Nat) (.retAddr x)) st' h else none | _ => none)
  | .iinc k n => (match L[k]? with | some (some (.int x)) => ab_n (pc + 3) (ab_s1 L k (.int (x + Int32.ofInt n))) st h | _ => none)
  | .iadd => (match st with | .int y :: .int x :: st' => ab_n (pc + 1) L (.int (x + y) :: st') h | _ => none)
  | .isub => (match st with | .int y :: .int x :: st' => ab_n (pc + 1) L (.int (x - y) :: st') h | _ => none)
  | .imul => (match st with | .int y :: .int x :: st' => ab_n (pc + 1) L (.int (x * y) :: st') h | _ => none)
  | .iand => (match st with | .int y :: .int x :: st' => ab_n (pc + 1) L (.int (x &&& y) :: st') h | _ => none)
  | .ior => (match st with | .int y :: .int x :: st' => ab_n (pc + 1) L (.int (x ||| y) :: st') h | _ => none)
  | .ixor => (match st with | .int y :: .int x :: st' => ab_n (pc + 1) L (.int (x ^^^ y) :: st') h | _ => none)
  | .ishl => (match st with | .int y :: .int x :: st' => ab_n (pc + 1) L (.int (x <<< (y &&& 31)) :: st') h | _ => none)
  | .ishr => (match st with | .int y :: .int x :: st' => ab_n (pc + 1) L (.int (x >>> (y &&& 31)) :: st') h | _ => none)
  | .idiv => (match st with | .int y :: .int x :: st' => if ¬ y = 0 then ab_n (pc + 1) L (.int (x / y) :: st') h else none | _ => none)
  | .irem => (match st with | .int y :: .int x :: st' => if ¬ y = 0 then ab_n (pc + 1) L (.int (x - x / y * y) :: st') h else none | _ => none)
  | .iushr => (match st with | .int y :: .int x :: st' => ab_n (pc + 1) L (.int (x.toUInt32 >>> (y.toUInt32 &&& Int32.toUInt32 31)).toInt32 :: st') h | _ => none)
  | .ineg => (match st with | .int x :: st' => ab_n (pc + 1) L (.int (-x) :: st') h | _ => none)
  | .ladd => (match st with | .long y :: .long x :: st' => ab_n (pc + 1) L (.long (x + y) :: st') h | _ => none)
  | .lsub => (match st with | .long y :: .long x :: st' => ab_n (pc + 1) L (.long (x - y) :: st') h | _ => none)
  | .lmul => (match st with | .long y :: .long x :: st' => ab_n (pc + 1) L (.long (x * y) :: st') h | _ => none)
  | .land => (match st with | .long y :: .long x :: st' => ab_n (pc + 1) L (.long (x &&& y) :: st') h | _ => none)
  | .lor => (match st with | .long y :: .long x :: st' => ab_n (pc + 1) L (.long (x ||| y) :: st') h | _ => none)
  | .lxor => (match st with | .long y :: .long x :: st' => ab_n (pc + 1) L (.long (x ^^^ y) :: st') h | _ => none)
  | .ldiv => (match st with | .long y :: .long x :: st' => if ¬ y = 0 then ab_n (pc + 1) L (.long (x / y) :: st') h else none | _ => none)
  | .lrem => (match st with | .long y :: .long x :: st' => if ¬ y = 0 then ab_n (pc + 1) L (.long (x - x / y * y) :: st') h else none | _ => none)
  | .lneg => (match st with | .long x :: st' => ab_n (pc + 1) L (.long (-x) :: st') h | _ => none)
  | .lshl => (match st with | .int y :: .long x :: st' => ab_n (pc + 1) L (.long (x <<< (y.toInt64 &&& 63)) :: st') h | _ => none)
  | .lshr => (match st with | .int y :: .long x :: st' => ab_n (pc + 1) L (.long (x >>> (y.toInt64 &&& 63)) :: st') h | _ => none)
  | .lushr => (match st with | .int y :: .long x :: st' => ab_n (pc + 1) L (.long (x.toUInt64 >>> (y.toInt64.toUInt64 &&& Int64.toUInt64 63)).toInt64 :: st') h | _ => none)
  | .i2l => (match st with | .int x :: st' => ab_n (pc + 1) L (.long x.toInt64 :: st') h | _ => none)
  | .l2i => (match st with | .long x :: st' => ab_n (pc + 1) L (.int x.toInt32 :: st') h | _ => none)
  | .i2b => (match st with | .int x :: st' => ab_n (pc + 1) L (.int x.toInt8.toInt32 :: st') h | _ => none)
  | .i2s => (match st with | .int x :: st' => ab_n (pc + 1) L (.int x.toInt16.toInt32 :: st') h | _ => none)
  | .i2c => (match st with | .int x :: st' => ab_n (pc + 1) L (.int (x.toUInt32 % 65536).toInt32 :: st') h | _ => none)
  | .lcmp => (match st with | .long y :: .long x :: st' => ab_n (pc + 1) L (.int (lg_cmp x y) :: st') h | _ => none)
  | .dup => (match st with | va :: st' => if va.category = 1 then ab_n (pc + 1) L (va :: va :: st') h else none | _ => none)
  | .pop => (match st with | va :: st' => if va.category = 1 then ab_n (pc + 1) L st' h else none | _ => none)
  | .dup_x1 => (match st with | va :: vb :: st' => if va.category = 1 ∧ vb.category = 1 then ab_n (pc + 1) L (va :: vb :: va :: st') h else none | _ => none)
  | .dup_x2 => (match st with | va :: vb :: vd :: st' => if va.category = 1 ∧ vb.category = 1 ∧ vd.category = 1 then ab_n (pc + 1) L (va :: vb :: vd :: va :: st') h else none | _ => none)
  | .dup2 => (match st with | va :: vb :: st' => if va.category = 1 ∧ vb.category = 1 then ab_n (pc + 1) L (va :: vb :: va :: vb :: st') h else if va.category = 2 then ab_n (pc + 1) L (va :: va :: vb :: st') h else none | _ => none)
  | .goto _ => ab_n r L st h
  | .tableswitch dflt lo hi offs => (match st with | .int x :: st' => if x.toInt < lo ∨ hi < x.toInt then (if 0 ≤ (pc : Int) + dflt then ab_n ((pc : Int) + dflt).toNat L st' h else none) else (match offs[(x.toInt - lo).toNat]? with | some off => if 0 ≤ (pc : Int) + off then ab_n ((pc : Int) + off).toNat L st' h else none | none => none) | _ => none)
  | .lookupswitch dflt ps => (match st with | .int x :: st' => if (ps.toList.zip (ps.toList.drop 1)).all (fun (a, next) => a.1 < next.1) = true ∧ 0 ≤ (pc : Int) + Op.lookupswitch.offset ps.toList dflt x.toInt then ab_n ((pc : Int) + Op.lookupswitch.offset ps.toList dflt x.toInt).toNat L st' h else none | _ => none)
  | .ifCond c _ => (match st with | .int x :: st' => if ab_cd c x 0 = true then ab_n r L st' h else ab_n (pc + 3) L st' h | _ => none)
  | .if_icmp c _ => (match st with | .int y :: .int x :: st' => if ab_cd c x y = true then ab_n r L st' h else ab_n (pc + 3) L st' h | _ => none)
  | .ifnull _ => (match st with | .null :: st' => ab_n r L st' h | .ref _ :: st' => ab_n (pc + 3) L st' h | _ => none)
  | .ifnonnull _ => (match st with | .null :: st' => ab_n (pc + 3) L st' h | .ref _ :: st' => ab_n r L st' h | _ => none)
  | .if_acmp c _ => (match st with | v :: w :: st' => (match ab_r v, ab_r w with | some y, some x => if (x = y ∧ c = .eq) ∨ (¬ x = y ∧ c = .ne) then ab_n r L st' h else ab_n (pc + 3) L st' h | _, _ => none) | _ => none)
  | .getfield _ => (match st with | .ref a :: st' => (match h[a]? with | some (.inr (ci, fs)) => if ci = r / 64 then (match fs[r % 64]? with | some v => ab_n (pc + 3) L (v :: st') h | none => none) else none | _ => none) | .retAddr q :: st' => if q < tb_sn ∧ r = tb_str * 64 then ab_n (pc + 3) L (.retAddr (2000 + q) :: st') h else if q < tb_sn ∧ r = tb_str * 64 + 1 then ab_n (pc + 3) L (.int 0 :: st') h else none | _ => none)
  | .putfield _ => (match st with | v :: .ref a :: st' => (match h[a]? with | some (.inr (ci, fs)) => if ci = r / 64 ∧ r % 64 < fs.length ∧ ab_f (tb_ft (r / 64) (r % 64)) v = true then ab_n (pc + 3) L st' (h.set a (.inr (ci, fs.set (r % 64) v))) else none | _ => none) | _ => none)
  | .iaload => (match st with | .int i :: .ref a :: st' => (match h[a]? with | some (.inl (t, n, .inl f)) => if tb_at[t]? = some .int ∧ ab_ix i n = false then ab_n (pc + 1) L (.int (f i.toNatClampNeg) :: st') h else none | _ => none) | .int i :: .retAddr q :: st' => if q = 1000 ∧ ab_ix i X.1 = false then ab_n (pc + 1) L (.int (X.2 i.toNatClampNeg) :: st') h else none | _ => none)
  | .caload => (match st with | .int i :: .ref a :: st' => (match h[a]? with | some (.inl (t, n, .inl f)) => if tb_at[t]? = some .char ∧ ab_ix i n = false then ab_n (pc + 1) L (.int (f i.toNatClampNeg) :: st') h else none | _ => none) | _ => none)
  | .laload => (match st with | .int i :: .ref a :: st' => (match h[a]? with | some (.inl (t, n, .inr (.inl f))) => if tb_at[t]? = some .long ∧ ab_ix i n = false then ab_n (pc + 1) L (.long (f i.toNatClampNeg) :: st') h else none | _ => none) | _ => none)
  | .baload => (match st with | .int i :: .ref a :: st' => (match h[a]? with | some (.inl (t, n, .inl f)) => if tb_at[t]? = some .boolean ∧ ab_ix i n = false then ab_n (pc + 1) L (.int (f i.toNatClampNeg) :: st') h else if tb_at[t]? = some .byte ∧ ab_ix i n = false then ab_n (pc + 1) L (.int (f i.toNatClampNeg) :: st') h else none | _ => none) | .int i :: .retAddr q :: st' => if (2000 ≤ q ∧ q - 2000 < tb_sn) ∧ ab_ix i (tb_sl.getD (q - 2000) 0) = false then ab_n (pc + 1) L (.int ((tb_sb.getD (q - 2000) []).getD i.toNatClampNeg 0) :: st') h else none | _ => none)
  | .aaload => (match st with | .int i :: .ref a :: st' => (match h[a]? with | some (.inl (t, n, .inr (.inr (.inr (.inr f))))) => if ab_ro t = true ∧ ab_ix i n = false then ab_n (pc + 1) L (ab_w (f i.toNatClampNeg) :: st') h else none | _ => none) | _ => none)
  | .iastore => (match st with | .int x :: .int i :: .ref a :: st' => (match h[a]? with | some (.inl (t, n, .inl f)) => if tb_at[t]? = some .int ∧ ab_ix i n = false then ab_n (pc + 1) L st' (h.set a (.inl (t, n, .inl (upd f i.toNatClampNeg x)))) else none | _ => none) | _ => none)
  | .castore => (match st with | .int x :: .int i :: .ref a :: st' => (match h[a]? with | some (.inl (t, n, .inl f)) => if tb_at[t]? = some .char ∧ ab_ix i n = false then ab_n (pc + 1) L st' (h.set a (.inl (t, n, .inl (upd f i.toNatClampNeg (vp_nar .char x))))) else none | _ => none) | _ => none)
  | .bastore => (match st with | .int x :: .int i :: .ref a :: st' => (match h[a]? with | some (.inl (t, n, .inl f)) => if tb_at[t]? = some .boolean ∧ ab_ix i n = false then ab_n (pc + 1) L st' (h.set a (.inl (t, n, .inl (upd f i.toNatClampNeg (vp_nar .boolean x))))) else if tb_at[t]? = some .byte ∧ ab_ix i n = false then ab_n (pc + 1) L st' (h.set a (.inl (t, n, .inl (upd f i.toNatClampNeg (vp_nar .byte x))))) else none | _ => none) | _ => none)
  | .lastore => (match st with | .long x :: .int i :: .ref a :: st' => (match h[a]? with | some (.inl (t, n, .inr (.inl f))) => if tb_at[t]? = some .long ∧ ab_ix i n = false then ab_n (pc + 1) L st' (h.set a (.inl (t, n, .inr (.inl (vp_updL f i.toNatClampNeg x))))) else none | _ => none) | _ => none)
  | .aastore => (match st with | .ref v :: .int i :: .ref a :: st' => (match h[a]?, h[v]? with | some (.inl (t, n, .inr (.inr (.inr (.inr f))))), some (.inr (ci, _)) => if tb_at[t]? = (tb_cl[ci]?).map (fun q => FieldType.object q.1) ∧ ab_ro t = true ∧ ab_ix i n = false then ab_n (pc + 1) L st' (h.set a (.inl (t, n, .inr (.inr (.inr (.inr (va_up f i.toNatClampNeg (some v)))))))) else none | _, _ => none) | .null :: .int i :: .ref a :: st' => (match h[a]? with | some (.inl (t, n, .inr (.inr (.inr (.inr f))))) => if ab_ro t = true ∧ ab_ix i n = false then ab_n (pc + 1) L st' (h.set a (.inl (t, n, .inr (.inr (.inr (.inr (va_up f i.toNatClampNeg none))))))) else none | _ => none) | _ => none)
  | .arraylength => (match st with | .ref a :: st' => (match h[a]? with | some (.inl (t, n, _)) => if t < tb_at.length then ab_n (pc + 1) L (.int (Int32.ofNat n) :: st') h else none | _ => none) | .retAddr q :: st' => if q = 1000 then ab_n (pc + 1) L (.int (Int32.ofNat X.1) :: st') h else if 2000 ≤ q ∧ q - 2000 < tb_sn then ab_n (pc + 1) L (.int (Int32.ofNat (tb_sl.getD (q - 2000) 0)) :: st') h else none | _ => none)
  | .newarray ty => (match st with | .int n :: st' => if n < 0 ∨ 1000000 < n.toNatClampNeg then none else (match ty with | .int => if tb_at[r]? = some .int then ab_n (pc + 2) L (.ref h.length :: st') (h ++ [.inl (r, n.toNatClampNeg, .inl (fun _ => 0))]) else none | .char => if tb_at[r]? = some .char then ab_n (pc + 2) L (.ref h.length :: st') (h ++ [.inl (r, n.toNatClampNeg, .inl (fun _ => 0))]) else none | .boolean => if tb_at[r]? = some .boolean then ab_n (pc + 2) L (.ref h.length :: st') (h ++ [.inl (r, n.toNatClampNeg, .inl (fun _ => 0))]) else none | .byte => if tb_at[r]? = some .byte then ab_n (pc + 2) L (.ref h.length :: st') (h ++ [.inl (r, n.toNatClampNeg, .inl (fun _ => 0))]) else none | .long => if tb_at[r]? = some .long then ab_n (pc + 2) L (.ref h.length :: st') (h ++ [.inl (r, n.toNatClampNeg, .inr (.inl (fun _ => 0)))]) else none | _ => none) | _ => none)
  | .anewarray _ => (match st with | .int n :: st' => if n < 0 ∨ 1000000 < n.toNatClampNeg then none else if ab_ro r = true then ab_n (pc + 3) L (.ref h.length :: st') (h ++ [.inl (r, n.toNatClampNeg, .inr (.inr (.inr (.inr (fun _ => none)))))]) else none | _ => none)
  | .new _ => (match tb_cl[r]? with | some _ => ab_n (pc + 3) L (.ref h.length :: st) (h ++ [.inr (r, (List.range (tb_nf r)).map (fun k => defaultValue (tb_ft r k)))]) | none => none)
  | .invokevirtual _ => if r = 8888 ∨ tb_st r = true then none else (match st.drop (tb_np r) with | .ref a :: st' => (match h[a]? with | some (.inr (ci, _)) => if ci = tb_oc r then some (.inr (.inl (r, .ref a :: (st.take (tb_np r)).reverse, st'))) else none | _ => none) | .retAddr a :: st' => if a < tb_sn ∧ tb_oc r = tb_str then some (.inr (.inl (r, .retAddr a :: (st.take (tb_np r)).reverse, st'))) else none | _ => none)
  | .invokespecial _ => if r = 9999 then (match st with | .ref _ :: st' => if (st'.map fun v => v.category).sum ≤ 8 then ab_n (pc + 3) L st' h else none | _ => none) else if r = 8888 ∨ tb_st r = true then none else (match st.drop (tb_np r) with | .ref a :: st' => some (.inr (.inl (r, .ref a :: (st.take (tb_np r)).reverse, st'))) | _ => none)
  | .invokestatic _ => if r ≠ 8888 ∧ tb_st r = true ∧ tb_np r ≤ st.length then some (.inr (.inl (r, (st.take (tb_np r)).reverse, st.drop (tb_np r)))) else none
  | .ireturn => (match st with | [.int x] => some (.inr (.inr (some (.int x)))) | _ => none)
  | .lreturn => (match st with | [.long x] => some (.inr (.inr (some (.long x)))) | _ => none)
  | .areturn => (match st with | [.ref x] => some (.inr (.inr (some (.ref x)))) | [.null] => some (.inr (.inr (some .null))) | [.retAddr x] => some (.inr (.inr (some (.retAddr x)))) | _ => none)
  | .return_ => (match st with | [] => some (.inr (.inr none)) | _ => none)
  | _ => none
/-- the row of an instruction -/
def ab_k : List (Nat × Instr × Nat) → Nat → Option (Instr × Nat)
  | [], _ => none
  | q :: l, pc => match Nat.beq q.1 pc with
    | true => some q.2
    | false => ab_k l pc
def ab_s (X : Nat × (Nat → Int32)) (M pc : Nat) (L : ab_Lo) (st : List Value) (h : List va_E) : Option ab_Y := match ab_k (tb_il M) pc with
  | some (i, r) => ab_x X r pc i L st h
  | none => none
/-- the words that lie below a call, and the callee's own locals, are few enough -/
def ab_cok (M : Nat) (as rest : List Value) : Bool := decide ((rest.map fun v => v.category).sum ≤ 8) && decide ((ab_en as).length ≤ tb_max M)
/-- the answer is of the method's type -/
def ab_rt (M : Nat) (v : Option Value) : Bool := match tb_ret M, v with
  | none, none => true
  | some ty, some v => ab_f ty v
  | _, _ => false
def ab_g (X : Nat × (Nat → Int32)) : Nat → Nat → Nat → Nat → ab_Lo → List Value → List va_E → Option (Option Value × List va_E)
  | 0, _, _, _, _, _, _ => none
  | n + 1, d, M, pc, L, st, h => match ab_s X M pc L st h with
    | none => none
    | some (.inl (pc', L', st', h')) => ab_g X n d M pc' L' st' h'
    | some (.inr (.inl (M', as, rest))) => match d with
      | 0 => none
      | d' + 1 => if ab_cok M' as rest = true then (match ab_g X n d' M' 0 (ab_en as ++ List.replicate (tb_max M' - (ab_en as).length) none) [] h with
        | none => none
        | some (v, h') => ab_g X n (d' + 1) M (pc + 3) L (v.toList ++ rest) h') else none
    | some (.inr (.inr v)) => if ab_rt M v = true then some (v, h) else none
end
section
/-! THE PURE MACHINE: the words that its tables give, and what makes a table's row good. -/
/-- the words of a method -/
def tb_mw (M : Nat) : List Jvm.Cond := Jvm.Cond.code (tb_y M) (tb_code M) (tb_max M) (tb_ret M) :: Jvm.Cond.initialized (tb_y M).cls :: (if tb_st M = true then [Jvm.Cond.static (tb_y M)] else if (tb_y M).name = "<init>" then [Jvm.Cond.instanceMethod (tb_y M)] else [Jvm.Cond.instanceMethod (tb_y M), Jvm.Cond.selects (tb_y M).cls (tb_y M) (tb_y M)])
def tb_fc (q : Nat × Nat × Nat) : Jvm.Cond := match tb_cl[q.2.2 / 64]? with
  | some (C, T, _) => .fieldLink (tb_cn q.1) q.2.1 C (T (q.2.2 % 64)).2.1 (T (q.2.2 % 64)).2.2.1
  | none => .initialized (tb_cn q.1)
def tb_fd (q : Nat × Nat × Nat × Nat) : Jvm.Cond := match tb_cl[q.2.2.1 / 64]? with
  | some (C, T, _) => .fieldLinkNest (tb_cn q.1) q.2.1 C (T (q.2.2.1 % 64)).2.1 (T (q.2.2.1 % 64)).2.2.1 (tb_cn q.2.2.2)
  | none => .initialized (tb_cn q.1)
def tb_zc (q : Nat × Nat × Nat) : Jvm.Cond := match tb_zv[q.2.2]? with
  | some z => .fieldLink (tb_cn q.1) q.2.1 (tb_cn z.1) z.2.1 z.2.2.1
  | none => .initialized (tb_cn q.1)
/-- the class whose objects an array of references holds -/
def tb_an (t : Nat) : String := match tb_at[t]? with
  | some (.object C) => C
  | _ => ""
def tb_ws : List Jvm.Cond := ((List.range tb_nc).flatMap tb_mw) ++ ((tb_cl.flatMap (fun q => u_ws q.1 q.2.1 q.2.2)) ++ ((tb_cl.flatMap (fun q => [Jvm.Cond.instantiable q.1 q.2.2, Jvm.Cond.initialized q.1])) ++ ((tb_fl.map tb_fc) ++ ((tb_ml.map (fun q => Jvm.Cond.methodLink (tb_cn q.1) q.2.1 (tb_y q.2.2))) ++ ((tb_kw.map (fun q => Jvm.Cond.constant (tb_cn q.1) q.2.1 (tb_ki.getD q.2.2 0))) ++ ((tb_k2.map (fun q => Jvm.Cond.constantLong (tb_cn q.1) q.2.1 (tb_kl.getD q.2.2 0))) ++ ((tb_nl.map (fun q => Jvm.Cond.classLink (tb_cn q.1) q.2.1 (tb_cn q.2.2))) ++ ((tb_al.map (fun q => Jvm.Cond.classLink (tb_cn q.1) q.2.1 (tb_an q.2.2))) ++ ((tb_oi.map (fun q => Jvm.Cond.methodLink (tb_cn q.1) q.2 objectInit)) ++ (([Jvm.Cond.instanceMethod objectInit, Jvm.Cond.code objectInit ⟨#[0xb1]⟩ 1 none]) ++ ((tb_pa.map Jvm.Cond.arrayClass) ++ (tb_zl.map tb_zc))))))))))))
def tb_nw : List Jvm.Cond := tb_fn.map tb_fd ++ tb_mn.map (fun q => Jvm.Cond.methodLinkNest (tb_cn q.1) q.2.1 (tb_y q.2.2.1) (tb_cn q.2.2.2))
theorem tb_in0 {w : Jvm.Cond} (hw : w ∈ (List.range tb_nc).flatMap tb_mw) : w ∈ tb_ws := (List.mem_append_left _ hw)
theorem tb_in1 {w : Jvm.Cond} (hw : w ∈ tb_cl.flatMap (fun q => u_ws q.1 q.2.1 q.2.2)) : w ∈ tb_ws := (List.mem_append_right _ (List.mem_append_left _ hw))
theorem tb_in2 {w : Jvm.Cond} (hw : w ∈ tb_cl.flatMap (fun q => [Jvm.Cond.instantiable q.1 q.2.2, Jvm.Cond.initialized q.1])) : w ∈ tb_ws := (List.mem_append_right _ (List.mem_append_right _ (List.mem_append_left _ hw)))
theorem tb_in3 {w : Jvm.Cond} (hw : w ∈ tb_fl.map tb_fc) : w ∈ tb_ws := (List.mem_append_right _ (List.mem_append_right _ (List.mem_append_right _ (List.mem_append_left _ hw))))
theorem tb_in4 {w : Jvm.Cond} (hw : w ∈ tb_ml.map (fun q => Jvm.Cond.methodLink (tb_cn q.1) q.2.1 (tb_y q.2.2))) : w ∈ tb_ws := (List.mem_append_right _ (List.mem_append_right _ (List.mem_append_right _ (List.mem_append_right _ (List.mem_append_left _ hw)))))
theorem tb_in5 {w : Jvm.Cond} (hw : w ∈ tb_kw.map (fun q => Jvm.Cond.constant (tb_cn q.1) q.2.1 (tb_ki.getD q.2.2 0))) : w ∈ tb_ws := (List.mem_append_right _ (List.mem_append_right _ (List.mem_append_right _ (List.mem_append_right _ (List.mem_append_right _ (List.mem_append_left _ hw))))))
theorem tb_in6 {w : Jvm.Cond} (hw : w ∈ tb_k2.map (fun q => Jvm.Cond.constantLong (tb_cn q.1) q.2.1 (tb_kl.getD q.2.2 0))) : w ∈ tb_ws := (List.mem_append_right _ (List.mem_append_right _ (List.mem_append_right _ (List.mem_append_right _ (List.mem_append_right _ (List.mem_append_right _ (List.mem_append_left _ hw)))))))
theorem tb_in7 {w : Jvm.Cond} (hw : w ∈ tb_nl.map (fun q => Jvm.Cond.classLink (tb_cn q.1) q.2.1 (tb_cn q.2.2))) : w ∈ tb_ws := (List.mem_append_right _ (List.mem_append_right _ (List.mem_append_right _ (List.mem_append_right _ (List.mem_append_right _ (List.mem_append_right _ (List.mem_append_right _ (List.mem_append_left _ hw))))))))
theorem tb_in8 {w : Jvm.Cond} (hw : w ∈ tb_al.map (fun q => Jvm.Cond.classLink (tb_cn q.1) q.2.1 (tb_an q.2.2))) : w ∈ tb_ws := (List.mem_append_right _ (List.mem_append_right _ (List.mem_append_right _ (List.mem_append_right _ (List.mem_append_right _ (List.mem_append_right _ (List.mem_append_right _ (List.mem_append_right _ (List.mem_append_left _ hw)))))))))
theorem tb_in9 {w : Jvm.Cond} (hw : w ∈ tb_oi.map (fun q => Jvm.Cond.methodLink (tb_cn q.1) q.2 objectInit)) : w ∈ tb_ws := (List.mem_append_right _ (List.mem_append_right _ (List.mem_append_right _ (List.mem_append_right _ (List.mem_append_right _ (List.mem_append_right _ (List.mem_append_right _ (List.mem_append_right _ (List.mem_append_right _ (List.mem_append_left _ hw))))))))))
theorem tb_in10 {w : Jvm.Cond} (hw : w ∈ [Jvm.Cond.instanceMethod objectInit, Jvm.Cond.code objectInit ⟨#[0xb1]⟩ 1 none]) : w ∈ tb_ws := (List.mem_append_right _ (List.mem_append_right _ (List.mem_append_right _ (List.mem_append_right _ (List.mem_append_right _ (List.mem_append_right _ (List.mem_append_right _ (List.mem_append_right _ (List.mem_append_right _ (List.mem_append_right _ (List.mem_append_left _ hw)))))))))))
theorem tb_in11 {w : Jvm.Cond} (hw : w ∈ tb_pa.map Jvm.Cond.arrayClass) : w ∈ tb_ws := (List.mem_append_right _ (List.mem_append_right _ (List.mem_append_right _ (List.mem_append_right _ (List.mem_append_right _ (List.mem_append_right _ (List.mem_append_right _ (List.mem_append_right _ (List.mem_append_right _ (List.mem_append_right _ (List.mem_append_right _ (List.mem_append_left _ hw))))))))))))
theorem tb_in12 {w : Jvm.Cond} (hw : w ∈ tb_zl.map tb_zc) : w ∈ tb_ws := (List.mem_append_right _ (List.mem_append_right _ (List.mem_append_right _ (List.mem_append_right _ (List.mem_append_right _ (List.mem_append_right _ (List.mem_append_right _ (List.mem_append_right _ (List.mem_append_right _ (List.mem_append_right _ (List.mem_append_right _ (List.mem_append_right _ hw))))))))))))
def ab_lk (M idx r : Nat) : Bool := decide ((tb_oc M, idx, r) ∈ tb_fl)
def ab_ln (M idx r : Nat) : Bool := tb_fn.any (fun z => decide (z.1 = tb_oc M ∧ z.2.1 = idx ∧ z.2.2.1 = r))
def ab_ok (M : Nat) (q : Nat × Instr × Nat) : Bool := decide (decode (tb_code M) q.1 = .ok (q.2.1, ab_l2 q.2.1 q.2.2)) && (match q.2.1 with
  | .goto off => decide ((q.1 : Int) + off = (q.2.2 : Int))
  | .ifCond _ off => decide ((q.1 : Int) + off = (q.2.2 : Int))
  | .if_icmp _ off => decide ((q.1 : Int) + off = (q.2.2 : Int))
  | .if_acmp _ off => decide ((q.1 : Int) + off = (q.2.2 : Int))
  | .ifnull off => decide ((q.1 : Int) + off = (q.2.2 : Int))
  | .ifnonnull off => decide ((q.1 : Int) + off = (q.2.2 : Int))
  | .getfield idx => (ab_lk M idx q.2.2 || ab_ln M idx q.2.2) && decide (q.2.2 / 64 < tb_cl.length) && decide (q.2.2 % 64 < tb_nf (q.2.2 / 64))
  | .putfield idx => (ab_lk M idx q.2.2 || ab_ln M idx q.2.2) && decide (q.2.2 / 64 < tb_cl.length) && decide (q.2.2 % 64 < tb_nf (q.2.2 / 64)) && (if tb_fi (q.2.2 / 64) (q.2.2 % 64) = true then ab_lk M idx q.2.2 && decide (tb_oc M = q.2.2 / 64) && decide ((tb_y M).name = "<init>") else true)
  | .new idx => decide (q.2.2 = 8888) || (decide ((tb_oc M, idx, q.2.2) ∈ tb_nl) && decide (q.2.2 < tb_cl.length))
  | .anewarray idx => decide ((tb_oc M, idx, q.2.2) ∈ tb_al) && decide (tb_an q.2.2 ∈ tb_ao)
  | .newarray aty => decide (newarray.typeOf aty ∈ tb_pa)
  | .ldc idx => if 10000 ≤ q.2.2 then decide ((tb_oc M, idx, q.2.2 - 10000) ∈ tb_sr) else decide ((tb_oc M, idx, q.2.2) ∈ tb_kw)
  | .getstatic idx => decide ((tb_oc M, idx, q.2.2) ∈ tb_zl)
  | .ldc_w idx => decide ((tb_oc M, idx, q.2.2) ∈ tb_kw)
  | .ldc2_w idx => decide ((tb_oc M, idx, q.2.2) ∈ tb_k2)
  | .invokespecial idx => if q.2.2 = 9999 then decide ((tb_oc M, idx) ∈ tb_oi) else decide (q.2.2 = 8888) || (decide (q.2.2 < tb_nc) && decide ((tb_y q.2.2).name = "<init>") && (decide ((tb_oc M, idx, q.2.2) ∈ tb_ml) || tb_mn.any (fun z => decide (z.1 = tb_oc M ∧ z.2.1 = idx ∧ z.2.2.1 = q.2.2))))
  | .invokevirtual idx => decide (q.2.2 = 8888) || (decide (q.2.2 < tb_nc) && decide ((tb_y q.2.2).name ≠ "<init>") && (decide ((tb_oc M, idx, q.2.2) ∈ tb_ml) || tb_mn.any (fun z => decide (z.1 = tb_oc M ∧ z.2.1 = idx ∧ z.2.2.1 = q.2.2))))
  | .invokestatic idx => decide (q.2.2 = 8888) || (decide (q.2.2 < tb_nc) && (decide ((tb_oc M, idx, q.2.2) ∈ tb_ml) || tb_mn.any (fun z => decide (z.1 = tb_oc M ∧ z.2.1 = idx ∧ z.2.2.1 = q.2.2))))
  | _ => true)
/-- what makes a class's rows good -/
def ab_ck (ci : Nat) : Bool := match tb_cl[ci]? with
  | none => false
  | some (C, T, N) => decide (C = tb_cn ci) && decide (N = tb_nf ci) && (List.range N).all (fun k => decide ((T k).1 = C) && decide (parseFieldDescriptor (T k).2.2.1 = some (tb_ft ci k)) && decide ((T k).2.2.2 = tb_fi ci k)) && (List.range N).all (fun x => (List.range N).all (fun y => decide (x = y) || decide ((T x).2.1 ≠ (T y).2.1)))
/-- .. and a method's -/
def ab_cm (M : Nat) : Bool := plainName (tb_y M).cls && decide ((tb_y M).cls = tb_cn (tb_oc M)) && decide ((tb_y M).cls ≠ "java/lang/invoke/MethodHandle" ∧ (tb_y M).cls ≠ "java/lang/invoke/VarHandle") && decide ((parseMethodDescriptor (tb_y M).desc).map (fun d => d.parameters.length) = some (tb_np M)) && decide (tb_max M ≤ 41) && (!decide ((tb_y M).name = "<init>") || decide (tb_ret M = none)) && (tb_st M || decide (tb_oc M < tb_cl.length)) && (tb_il M).all (ab_ok M)
end
section
/-! THE PURE MACHINE, 3: each step is the machine's. -/
def ab_J (p : Program) (l : Launch) (e : Env) (R : Room) (s : State) (m : MethodId) (args : Array Value) (below : List Frame) (meth : Method) (c : Code) (b : Nat) (sa : Nat → Nat) (D : va_G) (dA : Nat → ClassId) (nL n0 z0 : Nat) (Q : State → Prop) (pc : Nat) (L : ab_Lo) (st : List Value) (h : List va_E) : Prop :=
  ∀ (H : Heap) (locs : List Loc) (ls : Array Slot), ab_P b sa D dA tb_cl h H → va_S (fun q => b ≤ q) s.heap H locs → ab_L b sa nL ls L → L.length = nL → n0 ≤ h.length → z0 ≤ ab_sl tb_nf h →
    W p l e R s m args below meth c H locs (h.length - n0) (ab_sl tb_nf h - z0) Q (F0 m pc ls (st.map (ab_v b sa)))
section AB3
variable {p : Program} {l : Launch} {e : Env} {R : Room} {s : State} {m : MethodId} {args : Array Value} {below : List Frame} {meth : Method} {c : Code} {b : Nat} {sa : Nat → Nat} {D : va_G} {dA : Nat → ClassId} {nL n0 z0 : Nat} {Q : State → Prop} {cc : ByteArray} {pc : Nat} {L : ab_Lo} {st : List Value} {h : List va_E}
theorem so_iadd (hx : p.tables.exec = Jvm.exec) (hb : c.code = cc) {y : Int32} {x : Int32} (hd : decode cc pc = .ok (.iadd, 1)) (k : ab_J p l e R s m args below meth c b sa D dA nL n0 z0 Q (pc + 1) (L) (.int (x + y) :: st) (h)) : ab_J p l e R s m args below meth c b sa D dA nL n0 z0 Q (pc) (L) (.int y :: .int x :: st) (h) := fun H locs ls a1 a2 a3 a4 a5 a6 => lv_iadd hx hb hd (k H locs ls a1 a2 a3 a4 a5 a6)
theorem so_isub (hx : p.tables.exec = Jvm.exec) (hb : c.code = cc) {y : Int32} {x : Int32} (hd : decode cc pc = .ok (.isub, 1)) (k : ab_J p l e R s m args below meth c b sa D dA nL n0 z0 Q (pc + 1) (L) (.int (x - y) :: st) (h)) : ab_J p l e R s m args below meth c b sa D dA nL n0 z0 Q (pc) (L) (.int y :: .int x :: st) (h) := fun H locs ls a1 a2 a3 a4 a5 a6 => lv_isub hx hb hd (k H locs ls a1 a2 a3 a4 a5 a6)
theorem so_imul (hx : p.tables.exec = Jvm.exec) (hb : c.code = cc) {y : Int32} {x : Int32} (hd : decode cc pc = .ok (.imul, 1)) (k : ab_J p l e R s m args below meth c b sa D dA nL n0 z0 Q (pc + 1) (L) (.int (x * y) :: st) (h)) : ab_J p l e R s m args below meth c b sa D dA nL n0 z0 Q (pc) (L) (.int y :: .int x :: st) (h) := fun H locs ls a1 a2 a3 a4 a5 a6 => lv_imul hx hb hd (k H locs ls a1 a2 a3 a4 a5 a6)
theorem so_iand (hx : p.tables.exec = Jvm.exec) (hb : c.code = cc) {y : Int32} {x : Int32} (hd : decode cc pc = .ok (.iand, 1)) (k : ab_J p l e R s m args below meth c b sa D dA nL n0 z0 Q (pc + 1) (L) (.int (x &&& y) :: st) (h)) : ab_J p l e R s m args below meth c b sa D dA nL n0 z0 Q (pc) (L) (.int y :: .int x :: st) (h) := fun H locs ls a1 a2 a3 a4 a5 a6 => lv_iand hx hb hd (k H locs ls a1 a2 a3 a4 a5 a6)
theorem so_ior (hx : p.tables.exec = Jvm.exec) (hb : c.code = cc) {y : Int32} {x : Int32} (hd : decode cc pc = .ok (.ior, 1)) (k : ab_J p l e R s m args below meth c b sa D dA nL n0 z0 Q (pc + 1) (L) (.int (x ||| y) :: st) (h)) : ab_J p l e R s m args below meth c b sa D dA nL n0 z0 Q (pc) (L) (.int y :: .int x :: st) (h) := fun H locs ls a1 a2 a3 a4 a5 a6 => lv_ior hx hb hd (k H locs ls a1 a2 a3 a4 a5 a6)
theorem so_ixor (hx : p.tables.exec = Jvm.exec) (hb : c.code = cc) {y : Int32} {x : Int32} (hd : decode cc pc = .ok (.ixor, 1)) (k : ab_J p l e R s m args below meth c b sa D dA nL n0 z0 Q (pc + 1) (L) (.int (x ^^^ y) :: st) (h)) : ab_J p l e R s m args below meth c b sa D dA nL n0 z0 Q (pc) (L) (.int y :: .int x :: st) (h) := fun H locs ls a1 a2 a3 a4 a5 a6 => lv_ixor hx hb hd (k H locs ls a1 a2 a3 a4 a5 a6)
theorem so_ishl (hx : p.tables.exec = Jvm.exec) (hb : c.code = cc) {y : Int32} {x : Int32} (hd : decode cc pc = .ok (.ishl, 1)) (k : ab_J p l e R s m args below meth c b sa D dA nL n0 z0 Q (pc + 1) (L) (.int (x <<< (y &&& 31)) :: st) (h)) : ab_J p l e R s m args below meth c b sa D dA nL n0 z0 Q (pc) (L) (.int y :: .int x :: st) (h) := fun H locs ls a1 a2 a3 a4 a5 a6 => lv_ishl hx hb hd (k H locs ls a1 a2 a3 a4 a5 a6)
theorem so_ishr (hx : p.tables.exec = Jvm.exec) (hb : c.code = cc) {y : Int32} {x : Int32} (hd : decode cc pc = .ok (.ishr, 1)) (k : ab_J p l e R s m args below meth c b sa D dA nL n0 z0 Q (pc + 1) (L) (.int (x >>> (y &&& 31)) :: st) (h)) : ab_J p l e R s m args below meth c b sa D dA nL n0 z0 Q (pc) (L) (.int y :: .int x :: st) (h) := fun H locs ls a1 a2 a3 a4 a5 a6 => lv_ishr hx hb hd (k H locs ls a1 a2 a3 a4 a5 a6)
theorem so_idiv (hx : p.tables.exec = Jvm.exec) (hb : c.code = cc) {y : Int32} {x : Int32} (hd : decode cc pc = .ok (.idiv, 1)) (hg : ¬ y = 0) (k : ab_J p l e R s m args below meth c b sa D dA nL n0 z0 Q (pc + 1) (L) (.int (x / y) :: st) (h)) : ab_J p l e R s m args below meth c b sa D dA nL n0 z0 Q (pc) (L) (.int y :: .int x :: st) (h) := fun H locs ls a1 a2 a3 a4 a5 a6 => lv_idiv hx hb hd hg (k H locs ls a1 a2 a3 a4 a5 a6)
theorem so_irem (hx : p.tables.exec = Jvm.exec) (hb : c.code = cc) {y : Int32} {x : Int32} (hd : decode cc pc = .ok (.irem, 1)) (hg : ¬ y = 0) (k : ab_J p l e R s m args below meth c b sa D dA nL n0 z0 Q (pc + 1) (L) (.int (x - x / y * y) :: st) (h)) : ab_J p l e R s m args below meth c b sa D dA nL n0 z0 Q (pc) (L) (.int y :: .int x :: st) (h) := fun H locs ls a1 a2 a3 a4 a5 a6 => lv_irem hx hb hd hg (k H locs ls a1 a2 a3 a4 a5 a6)
theorem so_iushr (hx : p.tables.exec = Jvm.exec) (hb : c.code = cc) {y : Int32} {x : Int32} (hd : decode cc pc = .ok (.iushr, 1)) (k : ab_J p l e R s m args below meth c b sa D dA nL n0 z0 Q (pc + 1) (L) (.int (x.toUInt32 >>> (y.toUInt32 &&& Int32.toUInt32 31)).toInt32 :: st) (h)) : ab_J p l e R s m args below meth c b sa D dA nL n0 z0 Q (pc) (L) (.int y :: .int x :: st) (h) := fun H locs ls a1 a2 a3 a4 a5 a6 => lv_iushr hx hb hd rfl (k H locs ls a1 a2 a3 a4 a5 a6)
theorem so_ineg (hx : p.tables.exec = Jvm.exec) (hb : c.code = cc) {x : Int32} (hd : decode cc pc = .ok (.ineg, 1)) (k : ab_J p l e R s m args below meth c b sa D dA nL n0 z0 Q (pc + 1) (L) (.int (-x) :: st) (h)) : ab_J p l e R s m args below meth c b sa D dA nL n0 z0 Q (pc) (L) (.int x :: st) (h) := fun H locs ls a1 a2 a3 a4 a5 a6 => lv_ineg hx hb hd (k H locs ls a1 a2 a3 a4 a5 a6)
theorem so_ladd (hx : p.tables.exec = Jvm.exec) (hb : c.code = cc) {y : Int64} {x : Int64} (hd : decode cc pc = .ok (.ladd, 1)) (k : ab_J p l e R s m args below meth c b sa D dA nL n0 z0 Q (pc + 1) (L) (.long (x + y) :: st) (h)) : ab_J p l e R s m args below meth c b sa D dA nL n0 z0 Q (pc) (L) (.long y :: .long x :: st) (h) := fun H locs ls a1 a2 a3 a4 a5 a6 => lv_ladd hx hb hd (k H locs ls a1 a2 a3 a4 a5 a6)
theorem so_lsub (hx : p.tables.exec = Jvm.exec) (hb : c.code = cc) {y : Int64} {x : Int64} (hd : decode cc pc = .ok (.lsub, 1)) (k : ab_J p l e R s m args below meth c b sa D dA nL n0 z0 Q (pc + 1) (L) (.long (x - y) :: st) (h)) : ab_J p l e R s m args below meth c b sa D dA nL n0 z0 Q (pc) (L) (.long y :: .long x :: st) (h) := fun H locs ls a1 a2 a3 a4 a5 a6 => lv_lsub hx hb hd (k H locs ls a1 a2 a3 a4 a5 a6)
theorem so_lmul (hx : p.tables.exec = Jvm.exec) (hb : c.code = cc) {y : Int64} {x : Int64} (hd : decode cc pc = .ok (.lmul, 1)) (k : ab_J p l e R s m args below meth c b sa D dA nL n0 z0 Q (pc + 1) (L) (.long (x * y) :: st) (h)) : ab_J p l e R s m args below meth c b sa D dA nL n0 z0 Q (pc) (L) (.long y :: .long x :: st) (h) := fun H locs ls a1 a2 a3 a4 a5 a6 => lv_lmul hx hb hd (k H locs ls a1 a2 a3 a4 a5 a6)
theorem so_land (hx : p.tables.exec = Jvm.exec) (hb : c.code = cc) {y : Int64} {x : Int64} (hd : decode cc pc = .ok (.land, 1)) (k : ab_J p l e R s m args below meth c b sa D dA nL n0 z0 Q (pc + 1) (L) (.long (x &&& y) :: st) (h)) : ab_J p l e R s m args below meth c b sa D dA nL n0 z0 Q (pc) (L) (.long y :: .long x :: st) (h) := fun H locs ls a1 a2 a3 a4 a5 a6 => lv_land hx hb hd (k H locs ls a1 a2 a3 a4 a5 a6)
theorem so_lor (hx : p.tables.exec = Jvm.exec) (hb : c.code = cc) {y : Int64} {x : Int64} (hd : decode cc pc = .ok (.lor, 1)) (k : ab_J p l e R s m args below meth c b sa D dA nL n0 z0 Q (pc + 1) (L) (.long (x ||| y) :: st) (h)) : ab_J p l e R s m args below meth c b sa D dA nL n0 z0 Q (pc) (L) (.long y :: .long x :: st) (h) := fun H locs ls a1 a2 a3 a4 a5 a6 => lv_lor hx hb hd (k H locs ls a1 a2 a3 a4 a5 a6)
theorem so_lxor (hx : p.tables.exec = Jvm.exec) (hb : c.code = cc) {y : Int64} {x : Int64} (hd : decode cc pc = .ok (.lxor, 1)) (k : ab_J p l e R s m args below meth c b sa D dA nL n0 z0 Q (pc + 1) (L) (.long (x ^^^ y) :: st) (h)) : ab_J p l e R s m args below meth c b sa D dA nL n0 z0 Q (pc) (L) (.long y :: .long x :: st) (h) := fun H locs ls a1 a2 a3 a4 a5 a6 => lv_lxor hx hb hd (k H locs ls a1 a2 a3 a4 a5 a6)
theorem so_ldiv (hx : p.tables.exec = Jvm.exec) (hb : c.code = cc) {y : Int64} {x : Int64} (hd : decode cc pc = .ok (.ldiv, 1)) (hg : ¬ y = 0) (k : ab_J p l e R s m args below meth c b sa D dA nL n0 z0 Q (pc + 1) (L) (.long (x / y) :: st) (h)) : ab_J p l e R s m args below meth c b sa D dA nL n0 z0 Q (pc) (L) (.long y :: .long x :: st) (h) := fun H locs ls a1 a2 a3 a4 a5 a6 => lv_ldiv hx hb hd hg (k H locs ls a1 a2 a3 a4 a5 a6)
theorem so_lrem (hx : p.tables.exec = Jvm.exec) (hb : c.code = cc) {y : Int64} {x : Int64} (hd : decode cc pc = .ok (.lrem, 1)) (hg : ¬ y = 0) (k : ab_J p l e R s m args below meth c b sa D dA nL n0 z0 Q (pc + 1) (L) (.long (x - x / y * y) :: st) (h)) : ab_J p l e R s m args below meth c b sa D dA nL n0 z0 Q (pc) (L) (.long y :: .long x :: st) (h) := fun H locs ls a1 a2 a3 a4 a5 a6 => lv_lrem hx hb hd hg (k H locs ls a1 a2 a3 a4 a5 a6)
theorem so_lneg (hx : p.tables.exec = Jvm.exec) (hb : c.code = cc) {x : Int64} (hd : decode cc pc = .ok (.lneg, 1)) (k : ab_J p l e R s m args below meth c b sa D dA nL n0 z0 Q (pc + 1) (L) (.long (-x) :: st) (h)) : ab_J p l e R s m args below meth c b sa D dA nL n0 z0 Q (pc) (L) (.long x :: st) (h) := fun H locs ls a1 a2 a3 a4 a5 a6 => lv_lneg hx hb hd (k H locs ls a1 a2 a3 a4 a5 a6)
theorem so_lshl (hx : p.tables.exec = Jvm.exec) (hb : c.code = cc) {y : Int32} {x : Int64} (hd : decode cc pc = .ok (.lshl, 1)) (k : ab_J p l e R s m args below meth c b sa D dA nL n0 z0 Q (pc + 1) (L) (.long (x <<< (y.toInt64 &&& 63)) :: st) (h)) : ab_J p l e R s m args below meth c b sa D dA nL n0 z0 Q (pc) (L) (.int y :: .long x :: st) (h) := fun H locs ls a1 a2 a3 a4 a5 a6 => lv_lshl hx hb hd rfl (k H locs ls a1 a2 a3 a4 a5 a6)
theorem so_lshr (hx : p.tables.exec = Jvm.exec) (hb : c.code = cc) {y : Int32} {x : Int64} (hd : decode cc pc = .ok (.lshr, 1)) (k : ab_J p l e R s m args below meth c b sa D dA nL n0 z0 Q (pc + 1) (L) (.long (x >>> (y.toInt64 &&& 63)) :: st) (h)) : ab_J p l e R s m args below meth c b sa D dA nL n0 z0 Q (pc) (L) (.int y :: .long x :: st) (h) := fun H locs ls a1 a2 a3 a4 a5 a6 => lv_lshr hx hb hd rfl (k H locs ls a1 a2 a3 a4 a5 a6)
theorem so_lushr (hx : p.tables.exec = Jvm.exec) (hb : c.code = cc) {y : Int32} {x : Int64} (hd : decode cc pc = .ok (.lushr, 1)) (k : ab_J p l e R s m args below meth c b sa D dA nL n0 z0 Q (pc + 1) (L) (.long (x.toUInt64 >>> (y.toInt64.toUInt64 &&& Int64.toUInt64 63)).toInt64 :: st) (h)) : ab_J p l e R s m args below meth c b sa D dA nL n0 z0 Q (pc) (L) (.int y :: .long x :: st) (h) := fun H locs ls a1 a2 a3 a4 a5 a6 => lv_lushr hx hb hd rfl (k H locs ls a1 a2 a3 a4 a5 a6)
theorem so_i2l (hx : p.tables.exec = Jvm.exec) (hb : c.code = cc) {x : Int32} (hd : decode cc pc = .ok (.i2l, 1)) (k : ab_J p l e R s m args below meth c b sa D dA nL n0 z0 Q (pc + 1) (L) (.long x.toInt64 :: st) (h)) : ab_J p l e R s m args below meth c b sa D dA nL n0 z0 Q (pc) (L) (.int x :: st) (h) := fun H locs ls a1 a2 a3 a4 a5 a6 => lv_i2l hx hb hd rfl (k H locs ls a1 a2 a3 a4 a5 a6)
theorem so_l2i (hx : p.tables.exec = Jvm.exec) (hb : c.code = cc) {x : Int64} (hd : decode cc pc = .ok (.l2i, 1)) (k : ab_J p l e R s m args below meth c b sa D dA nL n0 z0 Q (pc + 1) (L) (.int x.toInt32 :: st) (h)) : ab_J p l e R s m args below meth c b sa D dA nL n0 z0 Q (pc) (L) (.long x :: st) (h) := fun H locs ls a1 a2 a3 a4 a5 a6 => lv_l2i hx hb hd rfl (k H locs ls a1 a2 a3 a4 a5 a6)
theorem so_i2b (hx : p.tables.exec = Jvm.exec) (hb : c.code = cc) {x : Int32} (hd : decode cc pc = .ok (.i2b, 1)) (k : ab_J p l e R s m args below meth c b sa D dA nL n0 z0 Q (pc + 1) (L) (.int x.toInt8.toInt32 :: st) (h)) : ab_J p l e R s m args below meth c b sa D dA nL n0 z0 Q (pc) (L) (.int x :: st) (h) := fun H locs ls a1 a2 a3 a4 a5 a6 => lv_i2b hx hb hd rfl (k H locs ls a1 a2 a3 a4 a5 a6)
theorem so_i2s (hx : p.tables.exec = Jvm.exec) (hb : c.code = cc) {x : Int32} (hd : decode cc pc = .ok (.i2s, 1)) (k : ab_J p l e R s m args below meth c b sa D dA nL n0 z0 Q (pc + 1) (L) (.int x.toInt16.toInt32 :: st) (h)) : ab_J p l e R s m args below meth c b sa D dA nL n0 z0 Q (pc) (L) (.int x :: st) (h) := fun H locs ls a1 a2 a3 a4 a5 a6 => lv_i2s hx hb hd rfl (k H locs ls a1 a2 a3 a4 a5 a6)
theorem so_i2c (hx : p.tables.exec = Jvm.exec) (hb : c.code = cc) {x : Int32} (hd : decode cc pc = .ok (.i2c, 1)) (k : ab_J p l e R s m args below meth c b sa D dA nL n0 z0 Q (pc + 1) (L) (.int (x.toUInt32 % 65536).toInt32 :: st) (h)) : ab_J p l e R s m args below meth c b sa D dA nL n0 z0 Q (pc) (L) (.int x :: st) (h) := fun H locs ls a1 a2 a3 a4 a5 a6 => lv_i2c hx hb hd rfl (k H locs ls a1 a2 a3 a4 a5 a6)
theorem so_lcmp (hx : p.tables.exec = Jvm.exec) (hb : c.code = cc) {y : Int64} {x : Int64} (hd : decode cc pc = .ok (.lcmp, 1)) (k : ab_J p l e R s m args below meth c b sa D dA nL n0 z0 Q (pc + 1) (L) (.int (lg_cmp x y) :: st) (h)) : ab_J p l e R s m args below meth c b sa D dA nL n0 z0 Q (pc) (L) (.long y :: .long x :: st) (h) := fun H locs ls a1 a2 a3 a4 a5 a6 => W.lcmp hx hb hd (k H locs ls a1 a2 a3 a4 a5 a6)
theorem so_iconst (hx : p.tables.exec = Jvm.exec) (hb : c.code = cc) {n : Int} (hd : decode cc pc = .ok (.iconst n, 1)) (k : ab_J p l e R s m args below meth c b sa D dA nL n0 z0 Q (pc + 1) (L) (.int (Int32.ofInt n) :: st) (h)) : ab_J p l e R s m args below meth c b sa D dA nL n0 z0 Q (pc) (L) (st) (h) := fun H locs ls a1 a2 a3 a4 a5 a6 => lv_iconst hx hb hd rfl (k H locs ls a1 a2 a3 a4 a5 a6)
theorem so_bipush (hx : p.tables.exec = Jvm.exec) (hb : c.code = cc) {n : Int} (hd : decode cc pc = .ok (.bipush n, 2)) (k : ab_J p l e R s m args below meth c b sa D dA nL n0 z0 Q (pc + 2) (L) (.int (Int8.ofInt n).toInt32 :: st) (h)) : ab_J p l e R s m args below meth c b sa D dA nL n0 z0 Q (pc) (L) (st) (h) := fun H locs ls a1 a2 a3 a4 a5 a6 => lv_bipush hx hb hd rfl (k H locs ls a1 a2 a3 a4 a5 a6)
theorem so_sipush (hx : p.tables.exec = Jvm.exec) (hb : c.code = cc) {n : Int} (hd : decode cc pc = .ok (.sipush n, 3)) (k : ab_J p l e R s m args below meth c b sa D dA nL n0 z0 Q (pc + 3) (L) (.int (Int16.ofInt n).toInt32 :: st) (h)) : ab_J p l e R s m args below meth c b sa D dA nL n0 z0 Q (pc) (L) (st) (h) := fun H locs ls a1 a2 a3 a4 a5 a6 => lv_sipush hx hb hd rfl (k H locs ls a1 a2 a3 a4 a5 a6)
theorem so_lconst (hx : p.tables.exec = Jvm.exec) (hb : c.code = cc) {n : Fin 2} (hd : decode cc pc = .ok (.lconst n, 1)) (k : ab_J p l e R s m args below meth c b sa D dA nL n0 z0 Q (pc + 1) (L) (.long (Int64.ofNat (n : Nat)) :: st) (h)) : ab_J p l e R s m args below meth c b sa D dA nL n0 z0 Q (pc) (L) (st) (h) := fun H locs ls a1 a2 a3 a4 a5 a6 => lv_lconst hx hb hd rfl (k H locs ls a1 a2 a3 a4 a5 a6)
theorem so_null (hx : p.tables.exec = Jvm.exec) (hb : c.code = cc) (hd : decode cc pc = .ok (.aconst_null, 1)) (k : ab_J p l e R s m args below meth c b sa D dA nL n0 z0 Q (pc + 1) (L) (.null :: st) (h)) : ab_J p l e R s m args below meth c b sa D dA nL n0 z0 Q (pc) (L) (st) (h) := fun H locs ls a1 a2 a3 a4 a5 a6 => lv_null hx hb hd (k H locs ls a1 a2 a3 a4 a5 a6)
theorem so_iload (hx : p.tables.exec = Jvm.exec) (hb : c.code = cc) {i : Nat} {x : Int32} (hd : decode cc pc = .ok (.iload i, 2)) (hi : L[i]? = some (some (.int x))) (k : ab_J p l e R s m args below meth c b sa D dA nL n0 z0 Q (pc + 2) (L) (.int x :: st) (h)) : ab_J p l e R s m args below meth c b sa D dA nL n0 z0 Q (pc) (L) (st) (h) := fun H locs ls a1 a2 a3 a4 a5 a6 => lv_iload hx hb hd (a3.2.2 i _ hi) (k H locs ls a1 a2 a3 a4 a5 a6)
theorem so_iload_n (hx : p.tables.exec = Jvm.exec) (hb : c.code = cc) {i : Fin 4} {x : Int32} (hd : decode cc pc = .ok (.iload_n i, 1)) (hi : L[(i : Nat)]? = some (some (.int x))) (k : ab_J p l e R s m args below meth c b sa D dA nL n0 z0 Q (pc + 1) (L) (.int x :: st) (h)) : ab_J p l e R s m args below meth c b sa D dA nL n0 z0 Q (pc) (L) (st) (h) := fun H locs ls a1 a2 a3 a4 a5 a6 => lv_iload_n hx hb hd rfl (a3.2.2 i _ hi) (k H locs ls a1 a2 a3 a4 a5 a6)
theorem so_lload (hx : p.tables.exec = Jvm.exec) (hb : c.code = cc) {i : Nat} {x : Int64} (hd : decode cc pc = .ok (.lload i, 2)) (hi : L[i]? = some (some (.long x))) (k : ab_J p l e R s m args below meth c b sa D dA nL n0 z0 Q (pc + 2) (L) (.long x :: st) (h)) : ab_J p l e R s m args below meth c b sa D dA nL n0 z0 Q (pc) (L) (st) (h) := fun H locs ls a1 a2 a3 a4 a5 a6 => lv_lload hx hb hd (a3.2.2 i _ hi) (k H locs ls a1 a2 a3 a4 a5 a6)
theorem so_lload_n (hx : p.tables.exec = Jvm.exec) (hb : c.code = cc) {i : Fin 4} {x : Int64} (hd : decode cc pc = .ok (.lload_n i, 1)) (hi : L[(i : Nat)]? = some (some (.long x))) (k : ab_J p l e R s m args below meth c b sa D dA nL n0 z0 Q (pc + 1) (L) (.long x :: st) (h)) : ab_J p l e R s m args below meth c b sa D dA nL n0 z0 Q (pc) (L) (st) (h) := fun H locs ls a1 a2 a3 a4 a5 a6 => lv_lload_n hx hb hd rfl (a3.2.2 i _ hi) (k H locs ls a1 a2 a3 a4 a5 a6)
theorem so_aload (hx : p.tables.exec = Jvm.exec) (hb : c.code = cc) {i : Nat} {x : Nat} (hd : decode cc pc = .ok (.aload i, 2)) (hi : L[i]? = some (some (.ref x))) (k : ab_J p l e R s m args below meth c b sa D dA nL n0 z0 Q (pc + 2) (L) (.ref x :: st) (h)) : ab_J p l e R s m args below meth c b sa D dA nL n0 z0 Q (pc) (L) (st) (h) := fun H locs ls a1 a2 a3 a4 a5 a6 => lv_aload hx hb hd (a3.2.2 i _ hi) (k H locs ls a1 a2 a3 a4 a5 a6)
theorem so_aload_n (hx : p.tables.exec = Jvm.exec) (hb : c.code = cc) {i : Fin 4} {x : Nat} (hd : decode cc pc = .ok (.aload_n i, 1)) (hi : L[(i : Nat)]? = some (some (.ref x))) (k : ab_J p l e R s m args below meth c b sa D dA nL n0 z0 Q (pc + 1) (L) (.ref x :: st) (h)) : ab_J p l e R s m args below meth c b sa D dA nL n0 z0 Q (pc) (L) (st) (h) := fun H locs ls a1 a2 a3 a4 a5 a6 => lv_aload_n hx hb hd rfl (a3.2.2 i _ hi) (k H locs ls a1 a2 a3 a4 a5 a6)
theorem so_aloadN (hx : p.tables.exec = Jvm.exec) (hb : c.code = cc) {i : Nat} (hd : decode cc pc = .ok (.aload i, 2)) (hi : L[i]? = some (some (.null))) (k : ab_J p l e R s m args below meth c b sa D dA nL n0 z0 Q (pc + 2) (L) (.null :: st) (h)) : ab_J p l e R s m args below meth c b sa D dA nL n0 z0 Q (pc) (L) (st) (h) := fun H locs ls a1 a2 a3 a4 a5 a6 => lv_aloadN hx hb hd (a3.2.2 i _ hi) (k H locs ls a1 a2 a3 a4 a5 a6)
theorem so_aload_nN (hx : p.tables.exec = Jvm.exec) (hb : c.code = cc) {i : Fin 4} (hd : decode cc pc = .ok (.aload_n i, 1)) (hi : L[(i : Nat)]? = some (some (.null))) (k : ab_J p l e R s m args below meth c b sa D dA nL n0 z0 Q (pc + 1) (L) (.null :: st) (h)) : ab_J p l e R s m args below meth c b sa D dA nL n0 z0 Q (pc) (L) (st) (h) := fun H locs ls a1 a2 a3 a4 a5 a6 => lv_aload_nN hx hb hd rfl (a3.2.2 i _ hi) (k H locs ls a1 a2 a3 a4 a5 a6)
theorem so_aloadS (hx : p.tables.exec = Jvm.exec) (hb : c.code = cc) {i : Nat} {x : Nat} (hd : decode cc pc = .ok (.aload i, 2)) (hi : L[i]? = some (some (.retAddr x))) (k : ab_J p l e R s m args below meth c b sa D dA nL n0 z0 Q (pc + 2) (L) (.retAddr x :: st) (h)) : ab_J p l e R s m args below meth c b sa D dA nL n0 z0 Q (pc) (L) (st) (h) := fun H locs ls a1 a2 a3 a4 a5 a6 => lv_aload hx hb hd (a3.2.2 i _ hi) (k H locs ls a1 a2 a3 a4 a5 a6)
theorem so_aload_nS (hx : p.tables.exec = Jvm.exec) (hb : c.code = cc) {i : Fin 4} {x : Nat} (hd : decode cc pc = .ok (.aload_n i, 1)) (hi : L[(i : Nat)]? = some (some (.retAddr x))) (k : ab_J p l e R s m args below meth c b sa D dA nL n0 z0 Q (pc + 1) (L) (.retAddr x :: st) (h)) : ab_J p l e R s m args below meth c b sa D dA nL n0 z0 Q (pc) (L) (st) (h) := fun H locs ls a1 a2 a3 a4 a5 a6 => lv_aload_n hx hb hd rfl (a3.2.2 i _ hi) (k H locs ls a1 a2 a3 a4 a5 a6)
theorem so_istore (hx : p.tables.exec = Jvm.exec) (hb : c.code = cc) {i : Nat} {x : Int32} (hd : decode cc pc = .ok (.istore i, 2)) (hi : i < L.length) (k : ab_J p l e R s m args below meth c b sa D dA nL n0 z0 Q (pc + 2) (ab_s1 L i (.int x)) (st) (h)) : ab_J p l e R s m args below meth c b sa D dA nL n0 z0 Q (pc) (L) (.int x :: st) (h) := fun H locs ls a1 a2 a3 a4 a5 a6 => lv_istore hx hb hd a3.has (by rw [← a4]; exact hi) rfl (fun ls' hl' => k H locs ls' a1 a2 (ab_L.s1 rfl hl') (by rw [← a4]; simp [ab_s1, ab_c_len]) a5 a6)
theorem so_lstore (hx : p.tables.exec = Jvm.exec) (hb : c.code = cc) {i : Nat} {x : Int64} (hd : decode cc pc = .ok (.lstore i, 2)) (hi : i + 1 < L.length) (k : ab_J p l e R s m args below meth c b sa D dA nL n0 z0 Q (pc + 2) (ab_s2 L i (.long x)) (st) (h)) : ab_J p l e R s m args below meth c b sa D dA nL n0 z0 Q (pc) (L) (.long x :: st) (h) := fun H locs ls a1 a2 a3 a4 a5 a6 => lv_lstore hx hb hd a3.has (by rw [← a4]; exact hi) rfl (fun ls' hl' => k H locs ls' a1 a2 (ab_L.s2 rfl hl') (by rw [← a4]; simp [ab_s2, ab_c_len]) a5 a6)
theorem so_astore (hx : p.tables.exec = Jvm.exec) (hb : c.code = cc) {i : Nat} {x : Nat} (hd : decode cc pc = .ok (.astore i, 2)) (hi : i < L.length) (k : ab_J p l e R s m args below meth c b sa D dA nL n0 z0 Q (pc + 2) (ab_s1 L i (.ref x)) (st) (h)) : ab_J p l e R s m args below meth c b sa D dA nL n0 z0 Q (pc) (L) (.ref x :: st) (h) := fun H locs ls a1 a2 a3 a4 a5 a6 => lv_astore hx hb hd a3.has (by rw [← a4]; exact hi) rfl (fun ls' hl' => k H locs ls' a1 a2 (ab_L.s1 rfl hl') (by rw [← a4]; simp [ab_s1, ab_c_len]) a5 a6)
theorem so_astoreN (hx : p.tables.exec = Jvm.exec) (hb : c.code = cc) {i : Nat} (hd : decode cc pc = .ok (.astore i, 2)) (hi : i < L.length) (k : ab_J p l e R s m args below meth c b sa D dA nL n0 z0 Q (pc + 2) (ab_s1 L i (.null)) (st) (h)) : ab_J p l e R s m args below meth c b sa D dA nL n0 z0 Q (pc) (L) (.null :: st) (h) := fun H locs ls a1 a2 a3 a4 a5 a6 => lv_astoreN hx hb hd a3.has (by rw [← a4]; exact hi) rfl (fun ls' hl' => k H locs ls' a1 a2 (ab_L.s1 rfl hl') (by rw [← a4]; simp [ab_s1, ab_c_len]) a5 a6)
theorem so_astoreS (hx : p.tables.exec = Jvm.exec) (hb : c.code = cc) {i : Nat} {x : Nat} (hd : decode cc pc = .ok (.astore i, 2)) (hi : i < L.length) (k : ab_J p l e R s m args below meth c b sa D dA nL n0 z0 Q (pc + 2) (ab_s1 L i (.retAddr x)) (st) (h)) : ab_J p l e R s m args below meth c b sa D dA nL n0 z0 Q (pc) (L) (.retAddr x :: st) (h) := fun H locs ls a1 a2 a3 a4 a5 a6 => lv_astore hx hb hd a3.has (by rw [← a4]; exact hi) rfl (fun ls' hl' => k H locs ls' a1 a2 (ab_L.s1 rfl hl') (by rw [← a4]; simp [ab_s1, ab_c_len]) a5 a6)
theorem so_istore_n (hx : p.tables.exec = Jvm.exec) (hb : c.code = cc) {i : Fin 4} {x : Int32} (hd : decode cc pc = .ok (.istore_n i, 1)) (hi : (i : Nat) < L.length) (k : ab_J p l e R s m args below meth c b sa D dA nL n0 z0 Q (pc + 1) (ab_s1 L (i : Nat) (.int x)) (st) (h)) : ab_J p l e R s m args below meth c b sa D dA nL n0 z0 Q (pc) (L) (.int x :: st) (h) := fun H locs ls a1 a2 a3 a4 a5 a6 => lv_istore_n hx hb hd rfl a3.has (by rw [← a4]; exact hi) rfl (fun ls' hl' => k H locs ls' a1 a2 (ab_L.s1 rfl hl') (by rw [← a4]; simp [ab_s1, ab_c_len]) a5 a6)
theorem so_lstore_n (hx : p.tables.exec = Jvm.exec) (hb : c.code = cc) {i : Fin 4} {x : Int64} (hd : decode cc pc = .ok (.lstore_n i, 1)) (hi : (i : Nat) + 1 < L.length) (k : ab_J p l e R s m args below meth c b sa D dA nL n0 z0 Q (pc + 1) (ab_s2 L (i : Nat) (.long x)) (st) (h)) : ab_J p l e R s m args below meth c b sa D dA nL n0 z0 Q (pc) (L) (.long x :: st) (h) := fun H locs ls a1 a2 a3 a4 a5 a6 => lv_lstore_n hx hb hd rfl a3.has (by rw [← a4]; exact hi) rfl (fun ls' hl' => k H locs ls' a1 a2 (ab_L.s2 rfl hl') (by rw [← a4]; simp [ab_s2, ab_c_len]) a5 a6)
theorem so_astore_n (hx : p.tables.exec = Jvm.exec) (hb : c.code = cc) {i : Fin 4} {x : Nat} (hd : decode cc pc = .ok (.astore_n i, 1)) (hi : (i : Nat) < L.length) (k : ab_J p l e R s m args below meth c b sa D dA nL n0 z0 Q (pc + 1) (ab_s1 L (i : Nat) (.ref x)) (st) (h)) : ab_J p l e R s m args below meth c b sa D dA nL n0 z0 Q (pc) (L) (.ref x :: st) (h) := fun H locs ls a1 a2 a3 a4 a5 a6 => lv_astore_n hx hb hd rfl a3.has (by rw [← a4]; exact hi) rfl (fun ls' hl' => k H locs ls' a1 a2 (ab_L.s1 rfl hl') (by rw [← a4]; simp [ab_s1, ab_c_len]) a5 a6)
theorem so_astore_nN (hx : p.tables.exec = Jvm.exec) (hb : c.code = cc) {i : Fin 4} (hd : decode cc pc = .ok (.astore_n i, 1)) (hi : (i : Nat) < L.length) (k : ab_J p l e R s m args below meth c b sa D dA nL n0 z0 Q (pc + 1) (ab_s1 L (i : Nat) (.null)) (st) (h)) : ab_J p l e R s m args below meth c b sa D dA nL n0 z0 Q (pc) (L) (.null :: st) (h) := fun H locs ls a1 a2 a3 a4 a5 a6 => lv_astore_nN hx hb hd rfl a3.has (by rw [← a4]; exact hi) rfl (fun ls' hl' => k H locs ls' a1 a2 (ab_L.s1 rfl hl') (by rw [← a4]; simp [ab_s1, ab_c_len]) a5 a6)
theorem so_astore_nS (hx : p.tables.exec = Jvm.exec) (hb : c.code = cc) {i : Fin 4} {x : Nat} (hd : decode cc pc = .ok (.astore_n i, 1)) (hi : (i : Nat) < L.length) (k : ab_J p l e R s m args below meth c b sa D dA nL n0 z0 Q (pc + 1) (ab_s1 L (i : Nat) (.retAddr x)) (st) (h)) : ab_J p l e R s m args below meth c b sa D dA nL n0 z0 Q (pc) (L) (.retAddr x :: st) (h) := fun H locs ls a1 a2 a3 a4 a5 a6 => lv_astore_n hx hb hd rfl a3.has (by rw [← a4]; exact hi) rfl (fun ls' hl' => k H locs ls' a1 a2 (ab_L.s1 rfl hl') (by rw [← a4]; simp [ab_s1, ab_c_len]) a5 a6)
theorem so_iinc (hx : p.tables.exec = Jvm.exec) (hb : c.code = cc) {i : Nat} {n : Int} {x : Int32} (hd : decode cc pc = .ok (.iinc i n, 3)) (hi : L[i]? = some (some (.int x))) (k : ab_J p l e R s m args below meth c b sa D dA nL n0 z0 Q (pc + 3) (ab_s1 L i (.int (x + Int32.ofInt n))) (st) (h)) : ab_J p l e R s m args below meth c b sa D dA nL n0 z0 Q (pc) (L) (st) (h) := by
  intro H locs ls a1 a2 a3 a4 a5 a6
  have hm : (i, Value.int x) ∈ ab_al b sa L := ab_al_mem hi
  obtain ⟨j, hj⟩ := List.getElem?_of_mem hm
  exact lv_iinc hx hb hd a3.has hj rfl (by rw [← a4]; exact (List.getElem?_eq_some_iff.mp hi).1) rfl (fun ls' hl' => k H locs ls' a1 a2 (ab_L.s1 rfl hl') (by rw [← a4]; simp [ab_s1, ab_c_len]) a5 a6)
theorem so_dup (hx : p.tables.exec = Jvm.exec) (hb : c.code = cc) {va : Value} (hd : decode cc pc = .ok (.dup, 1)) (hva : va.category = 1) (k : ab_J p l e R s m args below meth c b sa D dA nL n0 z0 Q (pc + 1) (L) (va :: va :: st) (h)) : ab_J p l e R s m args below meth c b sa D dA nL n0 z0 Q (pc) (L) (va :: st) (h) := fun H locs ls a1 a2 a3 a4 a5 a6 => lv_dup hx hb hd (by rw [ab_v_cat]; exact hva) (k H locs ls a1 a2 a3 a4 a5 a6)
theorem so_pop (hx : p.tables.exec = Jvm.exec) (hb : c.code = cc) {va : Value} (hd : decode cc pc = .ok (.pop, 1)) (hva : va.category = 1) (k : ab_J p l e R s m args below meth c b sa D dA nL n0 z0 Q (pc + 1) (L) (st) (h)) : ab_J p l e R s m args below meth c b sa D dA nL n0 z0 Q (pc) (L) (va :: st) (h) := fun H locs ls a1 a2 a3 a4 a5 a6 => lv_pop hx hb hd (by rw [ab_v_cat]; exact hva) (k H locs ls a1 a2 a3 a4 a5 a6)
theorem so_dup_x1 (hx : p.tables.exec = Jvm.exec) (hb : c.code = cc) {va : Value} {vb : Value} (hd : decode cc pc = .ok (.dup_x1, 1)) (hva : va.category = 1) (hvb : vb.category = 1) (k : ab_J p l e R s m args below meth c b sa D dA nL n0 z0 Q (pc + 1) (L) (va :: vb :: va :: st) (h)) : ab_J p l e R s m args below meth c b sa D dA nL n0 z0 Q (pc) (L) (va :: vb :: st) (h) := fun H locs ls a1 a2 a3 a4 a5 a6 => lv_dup_x1 hx hb hd (by rw [ab_v_cat]; exact hva) (by rw [ab_v_cat]; exact hvb) (k H locs ls a1 a2 a3 a4 a5 a6)
theorem so_dup_x2 (hx : p.tables.exec = Jvm.exec) (hb : c.code = cc) {va : Value} {vb : Value} {vd : Value} (hd : decode cc pc = .ok (.dup_x2, 1)) (hva : va.category = 1) (hvb : vb.category = 1) (hvd : vd.category = 1) (k : ab_J p l e R s m args below meth c b sa D dA nL n0 z0 Q (pc + 1) (L) (va :: vb :: vd :: va :: st) (h)) : ab_J p l e R s m args below meth c b sa D dA nL n0 z0 Q (pc) (L) (va :: vb :: vd :: st) (h) := fun H locs ls a1 a2 a3 a4 a5 a6 => lv_dup_x2 hx hb hd (by rw [ab_v_cat]; exact hva) (by rw [ab_v_cat]; exact hvb) (by rw [ab_v_cat]; exact hvd) (k H locs ls a1 a2 a3 a4 a5 a6)
theorem so_dup2_11 (hx : p.tables.exec = Jvm.exec) (hb : c.code = cc) {va : Value} {vb : Value} (hd : decode cc pc = .ok (.dup2, 1)) (hva : va.category = 1) (hvb : vb.category = 1) (k : ab_J p l e R s m args below meth c b sa D dA nL n0 z0 Q (pc + 1) (L) (va :: vb :: va :: vb :: st) (h)) : ab_J p l e R s m args below meth c b sa D dA nL n0 z0 Q (pc) (L) (va :: vb :: st) (h) := fun H locs ls a1 a2 a3 a4 a5 a6 => lv_dup2_11 hx hb hd (by rw [ab_v_cat]; exact hva) (by rw [ab_v_cat]; exact hvb) (k H locs ls a1 a2 a3 a4 a5 a6)
theorem so_dup2_2 (hx : p.tables.exec = Jvm.exec) (hb : c.code = cc) {va : Value} (hd : decode cc pc = .ok (.dup2, 1)) (hva : va.category = 2) (k : ab_J p l e R s m args below meth c b sa D dA nL n0 z0 Q (pc + 1) (L) (va :: va :: st) (h)) : ab_J p l e R s m args below meth c b sa D dA nL n0 z0 Q (pc) (L) (va :: st) (h) := fun H locs ls a1 a2 a3 a4 a5 a6 => lv_dup2_2 hx hb hd (by rw [ab_v_cat]; exact hva) (k H locs ls a1 a2 a3 a4 a5 a6)
theorem so_goto (hx : p.tables.exec = Jvm.exec) (hb : c.code = cc) {off : Int} {r : Nat} (hd : decode cc pc = .ok (.goto off, 3)) (ht : (pc : Int) + off = (r : Int)) (k : ab_J p l e R s m args below meth c b sa D dA nL n0 z0 Q (r) (L) (st) (h)) : ab_J p l e R s m args below meth c b sa D dA nL n0 z0 Q (pc) (L) (st) (h) := fun H locs ls a1 a2 a3 a4 a5 a6 => lv_goto hx hb hd ht (k H locs ls a1 a2 a3 a4 a5 a6)
theorem so_if (hx : p.tables.exec = Jvm.exec) (hb : c.code = cc) {x : Int32} {cd : Jvm.ClassFile.Cond} {off : Int} {r : Nat} (hd : decode cc pc = .ok (.ifCond cd off, 3)) (ht : (pc : Int) + off = (r : Int)) (kt : ab_cd cd x 0 = true → ab_J p l e R s m args below meth c b sa D dA nL n0 z0 Q (r) (L) (st) (h)) (kf : ¬ ab_cd cd x 0 = true → ab_J p l e R s m args below meth c b sa D dA nL n0 z0 Q (pc + 3) (L) (st) (h)) : ab_J p l e R s m args below meth c b sa D dA nL n0 z0 Q (pc) (L) (.int x :: st) (h) := by
  intro H locs ls a1 a2 a3 a4 a5 a6
  cases cd with
  | eq => exact lv_if_eq hx hb hd ht (fun q => kt (by simp [ab_cd, q]) H locs ls a1 a2 a3 a4 a5 a6) (fun q => kf (by simp [ab_cd, q]) H locs ls a1 a2 a3 a4 a5 a6)
  | ne => exact lv_if_ne hx hb hd ht (fun q => kt (by simp [ab_cd, q]) H locs ls a1 a2 a3 a4 a5 a6) (fun q => kf (by simp [ab_cd, q]) H locs ls a1 a2 a3 a4 a5 a6)
  | lt => exact lv_if_lt hx hb hd ht (fun q => kt (decide_eq_true q) H locs ls a1 a2 a3 a4 a5 a6) (fun q => kf (fun z => q (of_decide_eq_true z)) H locs ls a1 a2 a3 a4 a5 a6)
  | ge => exact lv_if_ge hx hb hd ht (fun q => kt (decide_eq_true q) H locs ls a1 a2 a3 a4 a5 a6) (fun q => kf (fun z => q (of_decide_eq_true z)) H locs ls a1 a2 a3 a4 a5 a6)
  | gt => exact lv_if_gt hx hb hd ht (fun q => kt (decide_eq_true q) H locs ls a1 a2 a3 a4 a5 a6) (fun q => kf (fun z => q (of_decide_eq_true z)) H locs ls a1 a2 a3 a4 a5 a6)
  | le => exact lv_if_le hx hb hd ht (fun q => kt (decide_eq_true q) H locs ls a1 a2 a3 a4 a5 a6) (fun q => kf (fun z => q (of_decide_eq_true z)) H locs ls a1 a2 a3 a4 a5 a6)
theorem so_icmp (hx : p.tables.exec = Jvm.exec) (hb : c.code = cc) {x y : Int32} {cd : Jvm.ClassFile.Cond} {off : Int} {r : Nat} (hd : decode cc pc = .ok (.if_icmp cd off, 3)) (ht : (pc : Int) + off = (r : Int)) (kt : ab_cd cd x y = true → ab_J p l e R s m args below meth c b sa D dA nL n0 z0 Q (r) (L) (st) (h)) (kf : ¬ ab_cd cd x y = true → ab_J p l e R s m args below meth c b sa D dA nL n0 z0 Q (pc + 3) (L) (st) (h)) : ab_J p l e R s m args below meth c b sa D dA nL n0 z0 Q (pc) (L) (.int y :: .int x :: st) (h) := by
  intro H locs ls a1 a2 a3 a4 a5 a6
  cases cd with
  | eq => exact lv_icmp_eq hx hb hd ht (fun q => kt (by simp [ab_cd, q]) H locs ls a1 a2 a3 a4 a5 a6) (fun q => kf (by simp [ab_cd, q]) H locs ls a1 a2 a3 a4 a5 a6)
  | ne => exact lv_icmp_ne hx hb hd ht (fun q => kt (by simp [ab_cd, q]) H locs ls a1 a2 a3 a4 a5 a6) (fun q => kf (by simp [ab_cd, q]) H locs ls a1 a2 a3 a4 a5 a6)
  | lt => exact lv_icmp_lt hx hb hd ht (fun q => kt (decide_eq_true q) H locs ls a1 a2 a3 a4 a5 a6) (fun q => kf (fun z => q (of_decide_eq_true z)) H locs ls a1 a2 a3 a4 a5 a6)
  | ge => exact lv_icmp_ge hx hb hd ht (fun q => kt (decide_eq_true q) H locs ls a1 a2 a3 a4 a5 a6) (fun q => kf (fun z => q (of_decide_eq_true z)) H locs ls a1 a2 a3 a4 a5 a6)
  | gt => exact lv_icmp_gt hx hb hd ht (fun q => kt (decide_eq_true q) H locs ls a1 a2 a3 a4 a5 a6) (fun q => kf (fun z => q (of_decide_eq_true z)) H locs ls a1 a2 a3 a4 a5 a6)
  | le => exact lv_icmp_le hx hb hd ht (fun q => kt (decide_eq_true q) H locs ls a1 a2 a3 a4 a5 a6) (fun q => kf (fun z => q (of_decide_eq_true z)) H locs ls a1 a2 a3 a4 a5 a6)
theorem so_ifnull (hx : p.tables.exec = Jvm.exec) (hb : c.code = cc) {x : Nat} {off : Int} (hd : decode cc pc = .ok (.ifnull off, 3)) (k : ab_J p l e R s m args below meth c b sa D dA nL n0 z0 Q (pc + 3) (L) (st) (h)) : ab_J p l e R s m args below meth c b sa D dA nL n0 z0 Q (pc) (L) (.ref x :: st) (h) := fun H locs ls a1 a2 a3 a4 a5 a6 => lv_ifnull hx hb hd (k H locs ls a1 a2 a3 a4 a5 a6)
theorem so_ifnullN (hx : p.tables.exec = Jvm.exec) (hb : c.code = cc) {off : Int} {r : Nat} (hd : decode cc pc = .ok (.ifnull off, 3)) (ht : (pc : Int) + off = (r : Int)) (k : ab_J p l e R s m args below meth c b sa D dA nL n0 z0 Q (r) (L) (st) (h)) : ab_J p l e R s m args below meth c b sa D dA nL n0 z0 Q (pc) (L) (.null :: st) (h) := fun H locs ls a1 a2 a3 a4 a5 a6 => lv_ifnullN hx hb hd ht (k H locs ls a1 a2 a3 a4 a5 a6)
theorem so_ifnonnull (hx : p.tables.exec = Jvm.exec) (hb : c.code = cc) {x : Nat} {off : Int} {r : Nat} (hd : decode cc pc = .ok (.ifnonnull off, 3)) (ht : (pc : Int) + off = (r : Int)) (k : ab_J p l e R s m args below meth c b sa D dA nL n0 z0 Q (r) (L) (st) (h)) : ab_J p l e R s m args below meth c b sa D dA nL n0 z0 Q (pc) (L) (.ref x :: st) (h) := fun H locs ls a1 a2 a3 a4 a5 a6 => lv_ifnonnull hx hb hd ht (k H locs ls a1 a2 a3 a4 a5 a6)
theorem so_ifnonnullN (hx : p.tables.exec = Jvm.exec) (hb : c.code = cc) {off : Int} (hd : decode cc pc = .ok (.ifnonnull off, 3)) (k : ab_J p l e R s m args below meth c b sa D dA nL n0 z0 Q (pc + 3) (L) (st) (h)) : ab_J p l e R s m args below meth c b sa D dA nL n0 z0 Q (pc) (L) (.null :: st) (h) := fun H locs ls a1 a2 a3 a4 a5 a6 => lv_ifnonnullN hx hb hd (k H locs ls a1 a2 a3 a4 a5 a6)
theorem ab_r_v {v : Value} {x : Option Nat} (hv : ab_r v = some x) : ab_v b sa v = va_rf (x.map (fun q => b + q)) := by
  cases v <;> simp [ab_r] at hv <;> subst hv <;> rfl
theorem ab_r_inj {x y : Option Nat} : x.map (fun q => b + q) = y.map (fun q => b + q) ↔ x = y := by
  cases x <;> cases y <;> simp
theorem so_acmp (hx : p.tables.exec = Jvm.exec) (hb : c.code = cc) {v w : Value} {x y : Option Nat} {cd : Jvm.ClassFile.ACond} {off : Int} {r : Nat} (hd : decode cc pc = .ok (.if_acmp cd off, 3)) (ht : (pc : Int) + off = (r : Int)) (hv : ab_r v = some y) (hw : ab_r w = some x) (kt : ((x = y ∧ cd = .eq) ∨ (¬ x = y ∧ cd = .ne)) → ab_J p l e R s m args below meth c b sa D dA nL n0 z0 Q (r) (L) (st) (h)) (kf : ¬ ((x = y ∧ cd = .eq) ∨ (¬ x = y ∧ cd = .ne)) → ab_J p l e R s m args below meth c b sa D dA nL n0 z0 Q (pc + 3) (L) (st) (h)) : ab_J p l e R s m args below meth c b sa D dA nL n0 z0 Q (pc) (L) (v :: w :: st) (h) := by
  intro H locs ls a1 a2 a3 a4 a5 a6
  have e1 := ab_r_v (b := b) (sa := sa) hv
  have e2 := ab_r_v (b := b) (sa := sa) hw
  rw [List.map_cons, List.map_cons, e1, e2]
  cases cd with
  | eq => exact lv_acmp_eq hx hb hd ht (fun q => kt (Or.inl ⟨ab_r_inj.mp q, rfl⟩) H locs ls a1 a2 a3 a4 a5 a6) (fun q => kf (fun z => z.elim (fun z => q (ab_r_inj.mpr z.1)) (fun z => by cases z.2)) H locs ls a1 a2 a3 a4 a5 a6)
  | ne => exact lv_acmp_ne hx hb hd ht (fun q => kt (Or.inr ⟨fun z => q (ab_r_inj.mpr z), rfl⟩) H locs ls a1 a2 a3 a4 a5 a6) (fun q => kf (fun z => z.elim (fun z => by cases z.2) (fun z => z.1 (ab_r_inj.mp q))) H locs ls a1 a2 a3 a4 a5 a6)
theorem so_tabO (hx : p.tables.exec = Jvm.exec) (hb : c.code = cc) {x : Int32} {dflt lo hi : Int} {offs : Array Int} {len : Nat} (hd : decode cc pc = .ok (.tableswitch dflt lo hi offs, len)) (hg : x.toInt < lo ∨ hi < x.toInt) (h0 : 0 ≤ (pc : Int) + dflt) (k : ab_J p l e R s m args below meth c b sa D dA nL n0 z0 Q (((pc : Int) + dflt).toNat) (L) (st) (h)) : ab_J p l e R s m args below meth c b sa D dA nL n0 z0 Q (pc) (L) (.int x :: st) (h) := fun H locs ls a1 a2 a3 a4 a5 a6 => lv_tableOut hx hb hd hg (Int.toNat_of_nonneg h0).symm (k H locs ls a1 a2 a3 a4 a5 a6)
theorem so_tabI (hx : p.tables.exec = Jvm.exec) (hb : c.code = cc) {x : Int32} {dflt lo hi off : Int} {offs : Array Int} {len : Nat} (hd : decode cc pc = .ok (.tableswitch dflt lo hi offs, len)) (hg : ¬ (x.toInt < lo ∨ hi < x.toInt)) (ho : offs[(x.toInt - lo).toNat]? = some off) (h0 : 0 ≤ (pc : Int) + off) (k : ab_J p l e R s m args below meth c b sa D dA nL n0 z0 Q (((pc : Int) + off).toNat) (L) (st) (h)) : ab_J p l e R s m args below meth c b sa D dA nL n0 z0 Q (pc) (L) (.int x :: st) (h) := fun H locs ls a1 a2 a3 a4 a5 a6 => lv_tableIn hx hb hd (fun q => hg (Or.inl q)) (fun q => hg (Or.inr q)) ho (Int.toNat_of_nonneg h0).symm (k H locs ls a1 a2 a3 a4 a5 a6)
theorem so_look (hx : p.tables.exec = Jvm.exec) (hb : c.code = cc) {x : Int32} {dflt : Int} {ps : Array (Int × Int)} {len : Nat} (hd : decode cc pc = .ok (.lookupswitch dflt ps, len)) (hp : (ps.toList.zip (ps.toList.drop 1)).all (fun (a, next) => a.1 < next.1) = true) (h0 : 0 ≤ (pc : Int) + Op.lookupswitch.offset ps.toList dflt x.toInt) (k : ab_J p l e R s m args below meth c b sa D dA nL n0 z0 Q (((pc : Int) + Op.lookupswitch.offset ps.toList dflt x.toInt).toNat) (L) (st) (h)) : ab_J p l e R s m args below meth c b sa D dA nL n0 z0 Q (pc) (L) (.int x :: st) (h) := fun H locs ls a1 a2 a3 a4 a5 a6 => lv_lookup hx hb hd hp rfl (Int.toNat_of_nonneg h0).symm (k H locs ls a1 a2 a3 a4 a5 a6)
end AB3
end
section
/-! THE PURE MACHINE, 4: steps that touch the heap. -/
def ab_ty (dA : Nat → ClassId) : List (ClassId × FieldType) := tb_at.mapIdx (fun t ty => (dA t, ty))
theorem ab_ty_at {dA : Nat → ClassId} {t : Nat} {ty : FieldType} (h : tb_at[t]? = some ty) : (ab_ty dA)[t]? = some (dA t, ty) := by
  unfold ab_ty
  rw [List.getElem?_mapIdx, h]
  rfl
theorem ab_ix_in {i : Int32} {n : Nat} (h : ab_ix i n = false) : vp_in i n := by
  unfold ab_ix at h
  simp only [Bool.or_eq_false_iff, decide_eq_false_iff_not] at h
  exact fun q => q.elim h.1 h.2
section AB4
variable {p : Program} {l : Launch} {e : Env} {R : Room} {s : State} {m : MethodId} {args : Array Value} {below : List Frame} {meth : Method} {c : Code} {b : Nat} {sa : Nat → Nat} {D : va_G} {dA : Nat → ClassId} {nL n0 z0 : Nat} {Q : State → Prop} {cc : ByteArray} {pc : Nat} {L : ab_Lo} {st : List Value} {h : List va_E}
theorem so_iald (hx : p.tables.exec = Jvm.exec) (hb : c.code = cc) (hK : va_K D tb_cl (ab_ty dA) s) {a t n : Nat} {f : Nat → Int32} {i : Int32} (hd : decode cc pc = .ok (.iaload, 1)) (ha : h[a]? = some (.inl (t, n, .inl f))) (ht : tb_at[t]? = some .int) (hin : ab_ix i n = false) (k : ab_J p l e R s m args below meth c b sa D dA nL n0 z0 Q (pc + 1) (L) (.int (f i.toNatClampNeg) :: st) (h)) : ab_J p l e R s m args below meth c b sa D dA nL n0 z0 Q (pc) (L) (.int i :: .ref a :: st) (h) := fun H locs ls a1 a2 a3 a4 a5 a6 => va_iald (ws := [(b + a, .inl (dA t, n, .inl f))]) hx hb hK (ab_P.one a1 ha) 0 t rfl (ab_ty_at ht) (ab_ix_in hin) hd (k H locs ls a1 a2 a3 a4 a5 a6)
theorem so_cald (hx : p.tables.exec = Jvm.exec) (hb : c.code = cc) (hK : va_K D tb_cl (ab_ty dA) s) {a t n : Nat} {f : Nat → Int32} {i : Int32} (hd : decode cc pc = .ok (.caload, 1)) (ha : h[a]? = some (.inl (t, n, .inl f))) (ht : tb_at[t]? = some .char) (hin : ab_ix i n = false) (k : ab_J p l e R s m args below meth c b sa D dA nL n0 z0 Q (pc + 1) (L) (.int (f i.toNatClampNeg) :: st) (h)) : ab_J p l e R s m args below meth c b sa D dA nL n0 z0 Q (pc) (L) (.int i :: .ref a :: st) (h) := fun H locs ls a1 a2 a3 a4 a5 a6 => va_cald (ws := [(b + a, .inl (dA t, n, .inl f))]) hx hb hK (ab_P.one a1 ha) 0 t rfl (ab_ty_at ht) (ab_ix_in hin) hd (k H locs ls a1 a2 a3 a4 a5 a6)
theorem so_zald (hx : p.tables.exec = Jvm.exec) (hb : c.code = cc) (hK : va_K D tb_cl (ab_ty dA) s) {a t n : Nat} {f : Nat → Int32} {i : Int32} (hd : decode cc pc = .ok (.baload, 1)) (ha : h[a]? = some (.inl (t, n, .inl f))) (ht : tb_at[t]? = some .boolean) (hin : ab_ix i n = false) (k : ab_J p l e R s m args below meth c b sa D dA nL n0 z0 Q (pc + 1) (L) (.int (f i.toNatClampNeg) :: st) (h)) : ab_J p l e R s m args below meth c b sa D dA nL n0 z0 Q (pc) (L) (.int i :: .ref a :: st) (h) := fun H locs ls a1 a2 a3 a4 a5 a6 => va_zald (ws := [(b + a, .inl (dA t, n, .inl f))]) hx hb hK (ab_P.one a1 ha) 0 t rfl (ab_ty_at ht) (ab_ix_in hin) hd (k H locs ls a1 a2 a3 a4 a5 a6)
theorem so_bald (hx : p.tables.exec = Jvm.exec) (hb : c.code = cc) (hK : va_K D tb_cl (ab_ty dA) s) {a t n : Nat} {f : Nat → Int32} {i : Int32} (hd : decode cc pc = .ok (.baload, 1)) (ha : h[a]? = some (.inl (t, n, .inl f))) (ht : tb_at[t]? = some .byte) (hin : ab_ix i n = false) (k : ab_J p l e R s m args below meth c b sa D dA nL n0 z0 Q (pc + 1) (L) (.int (f i.toNatClampNeg) :: st) (h)) : ab_J p l e R s m args below meth c b sa D dA nL n0 z0 Q (pc) (L) (.int i :: .ref a :: st) (h) := fun H locs ls a1 a2 a3 a4 a5 a6 => va_bald (ws := [(b + a, .inl (dA t, n, .inl f))]) hx hb hK (ab_P.one a1 ha) 0 t rfl (ab_ty_at ht) (ab_ix_in hin) hd (k H locs ls a1 a2 a3 a4 a5 a6)
theorem so_lald (hx : p.tables.exec = Jvm.exec) (hb : c.code = cc) (hK : va_K D tb_cl (ab_ty dA) s) {a t n : Nat} {f : Nat → Int64} {i : Int32} (hd : decode cc pc = .ok (.laload, 1)) (ha : h[a]? = some (.inl (t, n, .inr (.inl f)))) (ht : tb_at[t]? = some .long) (hin : ab_ix i n = false) (k : ab_J p l e R s m args below meth c b sa D dA nL n0 z0 Q (pc + 1) (L) (.long (f i.toNatClampNeg) :: st) (h)) : ab_J p l e R s m args below meth c b sa D dA nL n0 z0 Q (pc) (L) (.int i :: .ref a :: st) (h) := fun H locs ls a1 a2 a3 a4 a5 a6 => va_lald (ws := [(b + a, .inl (dA t, n, .inr (.inl f)))]) hx hb hK (ab_P.one a1 ha) 0 t rfl (ab_ty_at ht) (ab_ix_in hin) hd (k H locs ls a1 a2 a3 a4 a5 a6)
/-- the string constants, the statics, what ldc gives of texts -/
def ab_S (b : Nat) (sa : Nat → Nat) (U : State) (H : Heap) : Prop := vk_S tb_sn tb_sl tb_sb sa (fun i => sa (2000 + i)) (fun q => b ≤ q) U H ∧ (∀ q ∈ tb_zv, va_Z (tb_cn q.1) q.2.1 q.2.2.1 (.int q.2.2.2) (fun z => b ≤ z) U H) ∧ ∀ q ∈ tb_sr, vk_R (tb_cn q.1) q.2.1 (tb_sx.getD q.2.2 "") (sa q.2.2) U
theorem so_strV (hx : p.tables.exec = Jvm.exec) (hb : c.code = cc) (hS9 : ab_S b sa s s.heap) {own : String} {idx q : Nat} (hown : s.vm.findClass own = some m.cls) (hd : decode cc pc = .ok (.getfield idx, 3)) (hq : q < tb_sn) (hlink : (Jvm.Cond.fieldLink own idx "java/lang/String" "value" "[B").before args s = true) (k : ab_J p l e R s m args below meth c b sa D dA nL n0 z0 Q (pc + 3) (L) (.retAddr (2000 + q) :: st) (h)) : ab_J p l e R s m args below meth c b sa D dA nL n0 z0 Q (pc) (L) (.retAddr q :: st) (h) := fun H locs ls a1 a2 a3 a4 a5 a6 => vk_getf hx hb (hS9.1.1 q hq).2.2.1 a2 hown hlink (fun _ z => z) hd (k H locs ls a1 a2 a3 a4 a5 a6)
theorem so_strC (hx : p.tables.exec = Jvm.exec) (hb : c.code = cc) (hS9 : ab_S b sa s s.heap) {own : String} {idx q : Nat} (hown : s.vm.findClass own = some m.cls) (hd : decode cc pc = .ok (.getfield idx, 3)) (hq : q < tb_sn) (hlink : (Jvm.Cond.fieldLink own idx "java/lang/String" "coder" "B").before args s = true) (k : ab_J p l e R s m args below meth c b sa D dA nL n0 z0 Q (pc + 3) (L) (.int 0 :: st) (h)) : ab_J p l e R s m args below meth c b sa D dA nL n0 z0 Q (pc) (L) (.retAddr q :: st) (h) := fun H locs ls a1 a2 a3 a4 a5 a6 => vk_getf hx hb (hS9.1.1 q hq).2.1 a2 hown hlink (fun _ z => z) hd (k H locs ls a1 a2 a3 a4 a5 a6)
theorem so_strL (hx : p.tables.exec = Jvm.exec) (hb : c.code = cc) (hS9 : ab_S b sa s s.heap) {q : Nat} (hd : decode cc pc = .ok (.arraylength, 1)) (hq : 2000 ≤ q ∧ q - 2000 < tb_sn) (k : ab_J p l e R s m args below meth c b sa D dA nL n0 z0 Q (pc + 1) (L) (.int (Int32.ofNat (tb_sl.getD (q - 2000) 0)) :: st) (h)) : ab_J p l e R s m args below meth c b sa D dA nL n0 z0 Q (pc) (L) (.retAddr q :: st) (h) := by
  intro H locs ls a1 a2 a3 a4 a5 a6
  have h9 := (hS9.1.1 (q - 2000) hq.2).2.2.2
  dsimp only at h9
  rw [show 2000 + (q - 2000) = q by omega] at h9
  exact va_tlen hx hb h9 a2 rfl hd (k H locs ls a1 a2 a3 a4 a5 a6)
theorem so_strB (hx : p.tables.exec = Jvm.exec) (hb : c.code = cc) (hS9 : ab_S b sa s s.heap) {q : Nat} {i : Int32} (hd : decode cc pc = .ok (.baload, 1)) (hq : 2000 ≤ q ∧ q - 2000 < tb_sn) (hin : ab_ix i (tb_sl.getD (q - 2000) 0) = false) (k : ab_J p l e R s m args below meth c b sa D dA nL n0 z0 Q (pc + 1) (L) (.int ((tb_sb.getD (q - 2000) []).getD i.toNatClampNeg 0) :: st) (h)) : ab_J p l e R s m args below meth c b sa D dA nL n0 z0 Q (pc) (L) (.int i :: .retAddr q :: st) (h) := by
  intro H locs ls a1 a2 a3 a4 a5 a6
  have h9 := (hS9.1.1 (q - 2000) hq.2).2.2.2
  dsimp only at h9
  rw [show 2000 + (q - 2000) = q by omega] at h9
  exact va_tb hx hb h9 a2 (ab_ix_in hin) rfl hd (k H locs ls a1 a2 a3 a4 a5 a6)
theorem so_gets (hx : p.tables.exec = Jvm.exec) (hb : c.code = cc) (hS9 : ab_S b sa s s.heap) {own C n d : String} {idx : Nat} {v : Int32} (hown : s.vm.findClass own = some m.cls) (hd : decode cc pc = .ok (.getstatic idx, 3)) (hz : va_Z C n d (.int v) (fun q => b ≤ q) s s.heap) (hlink : (Jvm.Cond.fieldLink own idx C n d).before args s = true) (k : ab_J p l e R s m args below meth c b sa D dA nL n0 z0 Q (pc + 3) (L) (.int v :: st) (h)) : ab_J p l e R s m args below meth c b sa D dA nL n0 z0 Q (pc) (L) (st) (h) := fun H locs ls a1 a2 a3 a4 a5 a6 => va_gets hx hb hz a2 hown hlink (fun _ z => z) hd (k H locs ls a1 a2 a3 a4 a5 a6)
theorem so_ldcS (hx : p.tables.exec = Jvm.exec) (hb : c.code = cc) {own tx : String} {idx k9 : Nat} (hown : s.vm.findClass own = some m.cls) (hd : decode cc pc = .ok (.ldc idx, 2)) (hZ : vk_R own idx tx (sa k9) s) (k : ab_J p l e R s m args below meth c b sa D dA nL n0 z0 Q (pc + 2) (L) (.retAddr k9 :: st) (h)) : ab_J p l e R s m args below meth c b sa D dA nL n0 z0 Q (pc) (L) (st) (h) := fun H locs ls a1 a2 a3 a4 a5 a6 => va_ldcS hx hb hown hZ hd (k H locs ls a1 a2 a3 a4 a5 a6)
theorem so_sld (hx : p.tables.exec = Jvm.exec) (hb : c.code = cc) {X : Nat × (Nat → Int32)} (hX : va_X (sa 1000) X.1 X.2 s s.heap) (hX1 : sa 1000 < s.heap.size) (hX2 : ¬ b ≤ sa 1000) {i : Int32} (hd : decode cc pc = .ok (.iaload, 1)) (hin : ab_ix i X.1 = false) (k : ab_J p l e R s m args below meth c b sa D dA nL n0 z0 Q (pc + 1) (L) (.int (X.2 i.toNatClampNeg) :: st) (h)) : ab_J p l e R s m args below meth c b sa D dA nL n0 z0 Q (pc) (L) (.int i :: .retAddr 1000 :: st) (h) := fun H locs ls a1 a2 a3 a4 a5 a6 => va_sld hx hb hX hX1 hX2 a2 (ab_ix_in hin) hd (k H locs ls a1 a2 a3 a4 a5 a6)
theorem so_slen (hx : p.tables.exec = Jvm.exec) (hb : c.code = cc) {X : Nat × (Nat → Int32)} (hX : va_X (sa 1000) X.1 X.2 s s.heap) (hX1 : sa 1000 < s.heap.size) (hX2 : ¬ b ≤ sa 1000) (hd : decode cc pc = .ok (.arraylength, 1)) (k : ab_J p l e R s m args below meth c b sa D dA nL n0 z0 Q (pc + 1) (L) (.int (Int32.ofNat X.1) :: st) (h)) : ab_J p l e R s m args below meth c b sa D dA nL n0 z0 Q (pc) (L) (.retAddr 1000 :: st) (h) := fun H locs ls a1 a2 a3 a4 a5 a6 => va_slen hx hb hX hX1 hX2 a2 hd (k H locs ls a1 a2 a3 a4 a5 a6)
theorem so_aald (hx : p.tables.exec = Jvm.exec) (hb : c.code = cc) (hK : va_K D tb_cl (ab_ty dA) s) {a t n : Nat} {C : String} {f : Nat → Option Nat} {i : Int32} (hd : decode cc pc = .ok (.aaload, 1)) (ha : h[a]? = some (.inl (t, n, .inr (.inr (.inr (.inr f)))))) (ht : tb_at[t]? = some (.object C)) (hin : ab_ix i n = false) (k : ab_J p l e R s m args below meth c b sa D dA nL n0 z0 Q (pc + 1) (L) (ab_w (f i.toNatClampNeg) :: st) (h)) : ab_J p l e R s m args below meth c b sa D dA nL n0 z0 Q (pc) (L) (.int i :: .ref a :: st) (h) := by
  intro H locs ls a1 a2 a3 a4 a5 a6
  refine va_aldq (ws := [(b + a, .inl (dA t, n, .inr (.inr (.inr (.inr (fun j => (f j).map (fun q => b + q)))))))]) hx hb hK (ab_P.one a1 ha) 0 t rfl (ab_ty_at ht) (ab_ix_in hin) hd ?_
  have k1 := (k H locs ls a1 a2 a3 a4 a5 a6)
  rw [List.map_cons, show ab_v b sa (ab_w (f i.toNatClampNeg)) = va_rf ((f i.toNatClampNeg).map (fun q => b + q)) from ab_v_w b sa _] at k1
  exact k1
theorem so_alen (hx : p.tables.exec = Jvm.exec) (hb : c.code = cc) (hK : va_K D tb_cl (ab_ty dA) s) {a t n : Nat} {x : ab_A} (hd : decode cc pc = .ok (.arraylength, 1)) (ha : h[a]? = some (.inl (t, n, x))) (ht : t < tb_at.length) (k : ab_J p l e R s m args below meth c b sa D dA nL n0 z0 Q (pc + 1) (L) (.int (Int32.ofNat n) :: st) (h)) : ab_J p l e R s m args below meth c b sa D dA nL n0 z0 Q (pc) (L) (.ref a :: st) (h) :=
  fun H locs ls a1 a2 a3 a4 a5 a6 => va_alen (ws := [(b + a, .inl (dA t, n, ab_a b x))]) hx hb hK (ab_P.one a1 ha) 0 t rfl (ab_ty_at (List.getElem?_eq_getElem ht)) rfl hd (k H locs ls a1 a2 a3 a4 a5 a6)
theorem so_iast (hx : p.tables.exec = Jvm.exec) (hb : c.code = cc) (hK : va_K D tb_cl (ab_ty dA) s) {a t n : Nat} {f : Nat → Int32} {i : Int32} {x : Int32} (hd : decode cc pc = .ok (.iastore, 1)) (ha : h[a]? = some (.inl (t, n, .inl f))) (ht : tb_at[t]? = some .int) (hin : ab_ix i n = false) (k : ab_J p l e R s m args below meth c b sa D dA nL n0 z0 Q (pc + 1) (L) (st) (h.set a (.inl (t, n, .inl (upd f i.toNatClampNeg x))))) : ab_J p l e R s m args below meth c b sa D dA nL n0 z0 Q (pc) (L) (.int x :: .int i :: .ref a :: st) (h) := by
  intro H locs ls a1 a2 a3 a4 a5 a6
  have hc : H[b + a]? = some (vp_cell (dA t) (n, .inl f)) := a1.2 a _ ha
  refine W.iast hx hb hc ((hK.2 t _ (ab_ty_at ht)).1 n (fun j => .int (f j))) (fun q => by cases q) (by show ¬ (i < 0 ∨ (arrV _ _ _).slots.size ≤ _); rw [arrV_size]; exact ab_ix_in hin) rfl rfl hd fun H1 e z oq => ?_
  have hset : ab_P b sa D dA tb_cl (h.set a (.inl (t, n, .inl (upd f i.toNatClampNeg x)))) H1 := by
    refine a1.set ha z oq ?_
    show H1[b + a]? = some (vp_cell (dA t) (n, .inl (upd f i.toNatClampNeg x)))
    rw [e]
    rw [vp_cell_i, vp_cell_i, arrV_store]
    congr 2
    funext q
    by_cases hq : q = i.toNatClampNeg
    · subst hq
      simp [updV, upd]
      try rfl
    · simp [updV, upd, hq]
  have hz9 : ab_sl tb_nf (h.set a (.inl (t, n, .inl (upd f i.toNatClampNeg x)))) = ab_sl tb_nf h := ab_sl_set _ _ _ _ _ ha rfl
  have k1 := k H1 _ ls hset (a2.put (k := i.toNatClampNeg) z oq (Nat.le_add_right b a)) a3 a4 (by rw [List.length_set]; exact a5) (by rw [hz9]; exact a6)
  rw [List.length_set, hz9] at k1
  exact k1
theorem so_cast (hx : p.tables.exec = Jvm.exec) (hb : c.code = cc) (hK : va_K D tb_cl (ab_ty dA) s) {a t n : Nat} {f : Nat → Int32} {i : Int32} {x : Int32} (hd : decode cc pc = .ok (.castore, 1)) (ha : h[a]? = some (.inl (t, n, .inl f))) (ht : tb_at[t]? = some .char) (hin : ab_ix i n = false) (k : ab_J p l e R s m args below meth c b sa D dA nL n0 z0 Q (pc + 1) (L) (st) (h.set a (.inl (t, n, .inl (upd f i.toNatClampNeg (vp_nar .char x)))))) : ab_J p l e R s m args below meth c b sa D dA nL n0 z0 Q (pc) (L) (.int x :: .int i :: .ref a :: st) (h) := by
  intro H locs ls a1 a2 a3 a4 a5 a6
  have hc : H[b + a]? = some (vp_cell (dA t) (n, .inl f)) := a1.2 a _ ha
  refine W.cast hx hb hc ((hK.2 t _ (ab_ty_at ht)).1 n (fun j => .int (f j))) (fun q => by cases q) (by show ¬ (i < 0 ∨ (arrV _ _ _).slots.size ≤ _); rw [arrV_size]; exact ab_ix_in hin) rfl rfl hd fun H1 e z oq => ?_
  have hset : ab_P b sa D dA tb_cl (h.set a (.inl (t, n, .inl (upd f i.toNatClampNeg (vp_nar .char x))))) H1 := by
    refine a1.set ha z oq ?_
    show H1[b + a]? = some (vp_cell (dA t) (n, .inl (upd f i.toNatClampNeg (vp_nar .char x))))
    rw [e]
    rw [vp_cell_i, vp_cell_i, arrV_store]
    congr 2
    funext q
    by_cases hq : q = i.toNatClampNeg
    · subst hq
      simp [updV, upd, vp_nar]
      try rfl
    · simp [updV, upd, vp_nar, hq]
  have hz9 : ab_sl tb_nf (h.set a (.inl (t, n, .inl (upd f i.toNatClampNeg (vp_nar .char x))))) = ab_sl tb_nf h := ab_sl_set _ _ _ _ _ ha rfl
  have k1 := k H1 _ ls hset (a2.put (k := i.toNatClampNeg) z oq (Nat.le_add_right b a)) a3 a4 (by rw [List.length_set]; exact a5) (by rw [hz9]; exact a6)
  rw [List.length_set, hz9] at k1
  exact k1
theorem so_zast (hx : p.tables.exec = Jvm.exec) (hb : c.code = cc) (hK : va_K D tb_cl (ab_ty dA) s) {a t n : Nat} {f : Nat → Int32} {i : Int32} {x : Int32} (hd : decode cc pc = .ok (.bastore, 1)) (ha : h[a]? = some (.inl (t, n, .inl f))) (ht : tb_at[t]? = some .boolean) (hin : ab_ix i n = false) (k : ab_J p l e R s m args below meth c b sa D dA nL n0 z0 Q (pc + 1) (L) (st) (h.set a (.inl (t, n, .inl (upd f i.toNatClampNeg (vp_nar .boolean x)))))) : ab_J p l e R s m args below meth c b sa D dA nL n0 z0 Q (pc) (L) (.int x :: .int i :: .ref a :: st) (h) := by
  intro H locs ls a1 a2 a3 a4 a5 a6
  have hc : H[b + a]? = some (vp_cell (dA t) (n, .inl f)) := a1.2 a _ ha
  refine W.zast hx hb hc ((hK.2 t _ (ab_ty_at ht)).1 n (fun j => .int (f j))) (fun q => by cases q) (by show ¬ (i < 0 ∨ (arrV _ _ _).slots.size ≤ _); rw [arrV_size]; exact ab_ix_in hin) rfl rfl hd fun H1 e z oq => ?_
  have hset : ab_P b sa D dA tb_cl (h.set a (.inl (t, n, .inl (upd f i.toNatClampNeg (vp_nar .boolean x))))) H1 := by
    refine a1.set ha z oq ?_
    show H1[b + a]? = some (vp_cell (dA t) (n, .inl (upd f i.toNatClampNeg (vp_nar .boolean x))))
    rw [e]
    rw [vp_cell_i, vp_cell_i, arrV_store]
    congr 2
    funext q
    by_cases hq : q = i.toNatClampNeg
    · subst hq
      simp [updV, upd, vp_nar]
      try rfl
    · simp [updV, upd, vp_nar, hq]
  have hz9 : ab_sl tb_nf (h.set a (.inl (t, n, .inl (upd f i.toNatClampNeg (vp_nar .boolean x))))) = ab_sl tb_nf h := ab_sl_set _ _ _ _ _ ha rfl
  have k1 := k H1 _ ls hset (a2.put (k := i.toNatClampNeg) z oq (Nat.le_add_right b a)) a3 a4 (by rw [List.length_set]; exact a5) (by rw [hz9]; exact a6)
  rw [List.length_set, hz9] at k1
  exact k1
theorem so_bast (hx : p.tables.exec = Jvm.exec) (hb : c.code = cc) (hK : va_K D tb_cl (ab_ty dA) s) {a t n : Nat} {f : Nat → Int32} {i : Int32} {x : Int32} (hd : decode cc pc = .ok (.bastore, 1)) (ha : h[a]? = some (.inl (t, n, .inl f))) (ht : tb_at[t]? = some .byte) (hin : ab_ix i n = false) (k : ab_J p l e R s m args below meth c b sa D dA nL n0 z0 Q (pc + 1) (L) (st) (h.set a (.inl (t, n, .inl (upd f i.toNatClampNeg (vp_nar .byte x)))))) : ab_J p l e R s m args below meth c b sa D dA nL n0 z0 Q (pc) (L) (.int x :: .int i :: .ref a :: st) (h) := by
  intro H locs ls a1 a2 a3 a4 a5 a6
  have hc : H[b + a]? = some (vp_cell (dA t) (n, .inl f)) := a1.2 a _ ha
  refine W.bast hx hb hc ((hK.2 t _ (ab_ty_at ht)).1 n (fun j => .int (f j))) (fun q => by cases q) (by show ¬ (i < 0 ∨ (arrV _ _ _).slots.size ≤ _); rw [arrV_size]; exact ab_ix_in hin) rfl rfl hd fun H1 e z oq => ?_
  have hset : ab_P b sa D dA tb_cl (h.set a (.inl (t, n, .inl (upd f i.toNatClampNeg (vp_nar .byte x))))) H1 := by
    refine a1.set ha z oq ?_
    show H1[b + a]? = some (vp_cell (dA t) (n, .inl (upd f i.toNatClampNeg (vp_nar .byte x))))
    rw [e]
    rw [vp_cell_i, vp_cell_i, arrV_store]
    congr 2
    funext q
    by_cases hq : q = i.toNatClampNeg
    · subst hq
      simp [updV, upd, vp_nar]
      try rfl
    · simp [updV, upd, vp_nar, hq]
  have hz9 : ab_sl tb_nf (h.set a (.inl (t, n, .inl (upd f i.toNatClampNeg (vp_nar .byte x))))) = ab_sl tb_nf h := ab_sl_set _ _ _ _ _ ha rfl
  have k1 := k H1 _ ls hset (a2.put (k := i.toNatClampNeg) z oq (Nat.le_add_right b a)) a3 a4 (by rw [List.length_set]; exact a5) (by rw [hz9]; exact a6)
  rw [List.length_set, hz9] at k1
  exact k1
theorem so_last (hx : p.tables.exec = Jvm.exec) (hb : c.code = cc) (hK : va_K D tb_cl (ab_ty dA) s) {a t n : Nat} {f : Nat → Int64} {i : Int32} {x : Int64} (hd : decode cc pc = .ok (.lastore, 1)) (ha : h[a]? = some (.inl (t, n, .inr (.inl f)))) (ht : tb_at[t]? = some .long) (hin : ab_ix i n = false) (k : ab_J p l e R s m args below meth c b sa D dA nL n0 z0 Q (pc + 1) (L) (st) (h.set a (.inl (t, n, .inr (.inl (vp_updL f i.toNatClampNeg x)))))) : ab_J p l e R s m args below meth c b sa D dA nL n0 z0 Q (pc) (L) (.long x :: .int i :: .ref a :: st) (h) := by
  intro H locs ls a1 a2 a3 a4 a5 a6
  have hc : H[b + a]? = some (vp_cell (dA t) (n, .inr (.inl f))) := a1.2 a _ ha
  refine W.last hx hb hc ((hK.2 t _ (ab_ty_at ht)).1 n (fun j => .long (f j))) (fun q => by cases q) (by show ¬ (i < 0 ∨ (arrV _ _ _).slots.size ≤ _); rw [arrV_size]; exact ab_ix_in hin) rfl rfl hd fun H1 e z oq => ?_
  have hset : ab_P b sa D dA tb_cl (h.set a (.inl (t, n, .inr (.inl (vp_updL f i.toNatClampNeg x))))) H1 := by
    refine a1.set ha z oq ?_
    show H1[b + a]? = some (vp_cell (dA t) (n, .inr (.inl (vp_updL f i.toNatClampNeg x))))
    rw [e]
    rw [vp_cell_l, vp_cell_l, arrV_store]
    congr 2
    funext q
    by_cases hq : q = i.toNatClampNeg
    · subst hq
      simp [updV, vp_updL]
      try rfl
    · simp [updV, vp_updL, hq]
  have hz9 : ab_sl tb_nf (h.set a (.inl (t, n, .inr (.inl (vp_updL f i.toNatClampNeg x))))) = ab_sl tb_nf h := ab_sl_set _ _ _ _ _ ha rfl
  have k1 := k H1 _ ls hset (a2.put (k := i.toNatClampNeg) z oq (Nat.le_add_right b a)) a3 a4 (by rw [List.length_set]; exact a5) (by rw [hz9]; exact a6)
  rw [List.length_set, hz9] at k1
  exact k1
theorem so_aast (hx : p.tables.exec = Jvm.exec) (hb : c.code = cc) (hK : va_K D tb_cl (ab_ty dA) s) {a v t n ci : Nat} {q9 : vw_C} {vs : List Value} {f : Nat → Option Nat} {i : Int32} (hd : decode cc pc = .ok (.aastore, 1)) (ha : h[a]? = some (.inl (t, n, .inr (.inr (.inr (.inr f)))))) (hv : h[v]? = some (.inr (ci, vs))) (hc9 : tb_cl[ci]? = some q9) (ht : tb_at[t]? = some (.object q9.1)) (hin : ab_ix i n = false) (k : ab_J p l e R s m args below meth c b sa D dA nL n0 z0 Q (pc + 1) (L) (st) (h.set a (.inl (t, n, .inr (.inr (.inr (.inr (va_up f i.toNatClampNeg (some v))))))))) : ab_J p l e R s m args below meth c b sa D dA nL n0 z0 Q (pc) (L) (.ref v :: .int i :: .ref a :: st) (h) := by
  intro H locs ls a1 a2 a3 a4 a5 a6
  have hin2 := ab_ix_in hin
  have hlt : i.toNatClampNeg < n := Nat.not_le.mp fun q => hin2 (Or.inr q)
  have h0 : ¬ i < 0 := fun q => hin2 (Or.inl q)
  have hc : H[b + a]? = some (vp_cell (dA t) (n, .inr (.inr (.inr (.inr (fun j => (f j).map (fun q => b + q))))))) := a1.2 a _ ha
  obtain ⟨r', hr', cellV, g1, g2, g3, -⟩ := a1.2 v _ hv
  have hcls := (hK.1 ci q9 hc9).2
  obtain ⟨kA, comp, k1, k2, k3, -⟩ := (hK.2 t _ (ab_ty_at ht)).2
  have hcomp : comp = D.1 ci := Option.some.inj (k3.symm.trans hcls.1)
  subst hcomp
  obtain ⟨kC, hkC, -⟩ := hcls.2
  refine W.aast hx hb hc (fun q h => by cases h) (fun h => by cases h) k1 k2 rfl hkC ⟨h0, by show _ < (arrV _ _ _).slots.size; rw [arrV_size]; exact hlt⟩ g1 (fun q h => by rw [g3] at h; cases h) (by rw [g2]; exact hkC) (by rw [g2]; exact va_assign hcls) rfl rfl hd fun H1 e z oq => ?_
  have hset : ab_P b sa D dA tb_cl (h.set a (.inl (t, n, .inr (.inr (.inr (.inr (va_up f i.toNatClampNeg (some v)))))))) H1 := by
    refine a1.set ha z oq ?_
    show H1[b + a]? = some (vp_cell (dA t) (n, .inr (.inr (.inr (.inr (fun j => (va_up f i.toNatClampNeg (some v) j).map (fun q => b + q)))))))
    rw [e]
    rw [vp_cell_q, vp_cell_q, arrV_store]
    congr 2
    funext q
    by_cases hq : q = i.toNatClampNeg
    · subst hq
      simp [updV, va_up, va_rf]
    · simp [updV, va_up, hq]
  have hz9 : ab_sl tb_nf (h.set a (.inl (t, n, .inr (.inr (.inr (.inr (va_up f i.toNatClampNeg (some v)))))))) = ab_sl tb_nf h := ab_sl_set _ _ _ _ _ ha rfl
  have k1 := k H1 _ ls hset (a2.put (k := i.toNatClampNeg) z oq (Nat.le_add_right b a)) a3 a4 (by rw [List.length_set]; exact a5) (by rw [hz9]; exact a6)
  rw [List.length_set, hz9] at k1
  exact k1
theorem so_aastN (hx : p.tables.exec = Jvm.exec) (hb : c.code = cc) (hK : va_K D tb_cl (ab_ty dA) s) {a t n : Nat} {C : String} {f : Nat → Option Nat} {i : Int32} (hd : decode cc pc = .ok (.aastore, 1)) (ha : h[a]? = some (.inl (t, n, .inr (.inr (.inr (.inr f)))))) (ht : tb_at[t]? = some (.object C)) (hin : ab_ix i n = false) (k : ab_J p l e R s m args below meth c b sa D dA nL n0 z0 Q (pc + 1) (L) (st) (h.set a (.inl (t, n, .inr (.inr (.inr (.inr (va_up f i.toNatClampNeg none)))))))) : ab_J p l e R s m args below meth c b sa D dA nL n0 z0 Q (pc) (L) (.null :: .int i :: .ref a :: st) (h) := by
  intro H locs ls a1 a2 a3 a4 a5 a6
  have hc : H[b + a]? = some (vp_cell (dA t) (n, .inr (.inr (.inr (.inr (fun j => (f j).map (fun q => b + q))))))) := a1.2 a _ ha
  refine va_WaastN (C := C) hx hb hc ((hK.2 t _ (ab_ty_at ht)).1 n (fun j => va_rf ((f j).map (fun q => b + q)))) (fun h => by cases h) (by show ¬ (i < 0 ∨ (arrV _ _ _).slots.size ≤ _); rw [arrV_size]; exact ab_ix_in hin) rfl rfl hd fun H1 e z oq => ?_
  have hset : ab_P b sa D dA tb_cl (h.set a (.inl (t, n, .inr (.inr (.inr (.inr (va_up f i.toNatClampNeg none))))))) H1 := by
    refine a1.set ha z oq ?_
    show H1[b + a]? = some (vp_cell (dA t) (n, .inr (.inr (.inr (.inr (fun j => (va_up f i.toNatClampNeg none j).map (fun q => b + q)))))))
    rw [e]
    rw [vp_cell_q, vp_cell_q, arrV_store]
    congr 2
    funext q
    by_cases hq : q = i.toNatClampNeg
    · subst hq
      simp [updV, va_up, va_rf]
    · simp [updV, va_up, hq]
  have hz9 : ab_sl tb_nf (h.set a (.inl (t, n, .inr (.inr (.inr (.inr (va_up f i.toNatClampNeg none))))))) = ab_sl tb_nf h := ab_sl_set _ _ _ _ _ ha rfl
  have k1 := k H1 _ ls hset (a2.put (k := i.toNatClampNeg) z oq (Nat.le_add_right b a)) a3 a4 (by rw [List.length_set]; exact a5) (by rw [hz9]; exact a6)
  rw [List.length_set, hz9] at k1
  exact k1
theorem so_get (hx : p.tables.exec = Jvm.exec) (hb : c.code = cc) (hK : va_K D tb_cl (ab_ty dA) s) (hts : ∀ w ∈ tb_ws, w.before args s = true) {own : String} {idx : Nat} {C : String} {T : u_T} {N : Nat} (hown : s.vm.findClass own = some m.cls) {a ci f9 : Nat} {fs : List Value} {v : Value} (hd : decode cc pc = .ok (.getfield idx, 3)) (ha : h[a]? = some (.inr (ci, fs))) (hc : tb_cl[ci]? = some (C, T, N)) (hk : f9 < N) (hin : ∀ w ∈ u_ws C T N, w ∈ tb_ws) (hdecl : (T f9).1 = C) (hlink : (Jvm.Cond.fieldLink own idx C (T f9).2.1 (T f9).2.2.1).before args s = true ∨ ∃ host, va_Nw (.fieldLinkNest own idx C (T f9).2.1 (T f9).2.2.1 host) s) (hv : fs[f9]? = some v) (k : ab_J p l e R s m args below meth c b sa D dA nL n0 z0 Q (pc + 3) (L) (v :: st) (h)) : ab_J p l e R s m args below meth c b sa D dA nL n0 z0 Q (pc) (L) (.ref a :: st) (h) := by
  intro H locs ls a1 a2 a3 a4 a5 a6
  have hv' : (fs.map (ab_v b sa))[f9]? = some (ab_v b sa v) := by rw [List.getElem?_map, hv]; rfl
  have hsm : ∀ x, s.fieldFound? (T f9).1 (T f9).2.1 (T f9).2.2.1 = some x → s.fieldFound? C (T f9).2.1 (T f9).2.2.1 = some x := fun x q => by rw [hdecl] at q; exact q
  rcases hlink with hl | ⟨host, hl⟩
  · exact va_get (ws := [(b + a, .inr (ci, fs.map (ab_v b sa)))]) hx hb hts hin hown hK (ab_P.one a1 ha) 0 rfl hc f9 hk hl hsm hv' hd (k H locs ls a1 a2 a3 a4 a5 a6)
  · exact va_getN (ws := [(b + a, .inr (ci, fs.map (ab_v b sa)))]) hx hb hts hin hown hK (ab_P.one a1 ha) 0 rfl hc f9 hk (va_Nw.use rfl hl) hsm hv' hd (k H locs ls a1 a2 a3 a4 a5 a6)
theorem ab_f_ok {ty : FieldType} {v : Value} (hf : ab_f ty v = true) : narrow ty (ab_v b sa v) = ab_v b sa v ∧ fits ty (ab_v b sa v) = true := by
  unfold ab_f at hf
  split at hf
  · exact ⟨rfl, rfl⟩
  · exact ⟨rfl, rfl⟩
  · next x =>
    simp only [Bool.or_eq_true, beq_iff_eq] at hf
    rcases hf with rfl | rfl
    · show narrow .boolean (.int 0) = .int 0 ∧ fits .boolean (.int 0) = true
      decide
    · show narrow .boolean (.int 1) = .int 1 ∧ fits .boolean (.int 1) = true
      decide
  · next x =>
    simp only [Bool.and_eq_true, decide_eq_true_eq] at hf
    obtain ⟨j, hj, rfl⟩ := nI_of2 (M := 65535) (n := 65535) (by decide) (Int32.not_lt.mpr hf.1) hf.2
    have h1 := pk_charN (q := j) (by omega)
    exact ⟨h1.1, h1.2⟩
  · next x =>
    simp only [Bool.and_eq_true, decide_eq_true_eq] at hf
    have h2 : x.toInt8.toInt32 = x := by
      have l1 : (-128 : Int) ≤ x.toInt := by have := Int32.le_iff_toInt_le.mp hf.1; simpa using this
      have l2 : x.toInt ≤ 127 := by have := Int32.le_iff_toInt_le.mp hf.2; simpa using this
      apply Int32.toInt_inj.mp
      rw [Int8.toInt_toInt32, Int32.toInt_toInt8]
      simp only [Int.bmod]
      omega
    refine ⟨?_, ?_⟩
    · show Value.int x.toInt8.toInt32 = .int x
      rw [h2]
    · show (decide (-128 ≤ x) && decide (x ≤ 127)) = true
      simp [hf.1, hf.2]
  · exact ⟨rfl, rfl⟩
  · exact ⟨rfl, rfl⟩
  · exact ⟨rfl, rfl⟩
  · exact ⟨rfl, rfl⟩
  · exact ⟨rfl, rfl⟩
  · cases hf
theorem so_put (hx : p.tables.exec = Jvm.exec) (hb : c.code = cc) (hK : va_K D tb_cl (ab_ty dA) s) (hts : ∀ w ∈ tb_ws, w.before args s = true) {own : String} {idx : Nat} {C : String} {T : u_T} {N : Nat} (hown : s.vm.findClass own = some m.cls) {a ci f9 : Nat} {fs : List Value} {v : Value} (hd : decode cc pc = .ok (.putfield idx, 3)) (ha : h[a]? = some (.inr (ci, fs))) (hc : tb_cl[ci]? = some (C, T, N)) (hk : f9 < N) (hin : ∀ w ∈ u_ws C T N, w ∈ tb_ws) (hty : ∀ k, k < N → parseFieldDescriptor (T k).2.2.1 = some (tb_ft ci k)) (hnm : ∀ a, a < N → ∀ b, b < N → a ≠ b → (T a).2.1 ≠ (T b).2.1) (hdecl : (T f9).1 = C)
    (hlink : ((T f9).2.2.2 = false ∧ ((Jvm.Cond.fieldLink own idx C (T f9).2.1 (T f9).2.2.1).before args s = true ∨ ∃ host, va_Nw (.fieldLinkNest own idx C (T f9).2.1 (T f9).2.2.1 host) s)) ∨ ((T f9).2.2.2 = true ∧ meth.name = "<init>" ∧ C = own ∧ (Jvm.Cond.fieldLink own idx C (T f9).2.1 (T f9).2.2.1).before args s = true)) (hl : f9 < fs.length) (hf : ab_f (tb_ft ci f9) v = true) (k : ab_J p l e R s m args below meth c b sa D dA nL n0 z0 Q (pc + 3) (L) (st) (h.set a (.inr (ci, fs.set f9 v)))) : ab_J p l e R s m args below meth c b sa D dA nL n0 z0 Q (pc) (L) (v :: .ref a :: st) (h) := by
  intro H locs ls a1 a2 a3 a4 a5 a6
  obtain ⟨hn, hfit⟩ := ab_f_ok (b := b) (sa := sa) hf
  have hap := va_apart (own := own) hts hin (tb_ft ci) hty hnm hK hc
  obtain ⟨r, h1, cell, q1, q2, q3, q4⟩ := a1.2 a _ ha
  have hr : r = (C, T, N) := Option.some.inj (h1.symm.trans hc)
  subst hr
  obtain ⟨hS, hfc, kC, hkC, hkind⟩ := hK.1 ci _ hc
  obtain ⟨cf, kf, fi, f, hi, hsl⟩ := hS f9 hk
  have hst := (u_facts hfc hkC (u_lays hts hin hk) hi).1
  have hi' : s.fieldFound? C (T f9).2.1 (T f9).2.2.1 = some (cf, kf, fi, f) := by
    have hi2 := hi
    rw [hdecl] at hi2
    exact hi2
  have fin : ∀ H1 : Heap, H1[b + a]? = some (cell.setSlot f.slot (ab_v b sa v)) → H1.size = H.size → (∀ q, q ≠ b + a → H1[q]? = H[q]?) → W p l e R s m args below meth c H1 (locs ++ [⟨b + a, f.slot⟩]) (h.length - n0) (ab_sl tb_nf h - z0) Q (F0 m (pc + 3) ls (st.map (ab_v b sa))) := by
    intro H1 e1 z oq
    rw [hsl] at e1
    have hset : ab_P b sa D dA tb_cl (h.set a (.inr (ci, fs.set f9 v))) H1 := by
      refine a1.set ha z oq ⟨_, hc, t_OB.to (V := updV (vp_V (fs.map (ab_v b sa))) f9 (ab_v b sa v)) ⟨_, e1, q2, q3, t_set q4 hap hk _⟩ (fun j _ => ?_)⟩
      rw [vp_updV_set (by rw [List.length_map]; exact hl), List.map_set]
    have hz9 : ab_sl tb_nf (h.set a (.inr (ci, fs.set f9 v))) = ab_sl tb_nf h := ab_sl_set _ _ _ _ _ ha rfl
    have k1 := k H1 _ ls hset (a2.put (k := f.slot) z oq (Nat.le_add_right b a)) a3 a4 (by rw [List.length_set]; exact a5) (by rw [hz9]; exact a6)
    rw [List.length_set, hz9] at k1
    exact k1
  have hlay := hts _ (hin _ (u_in_lay hk))
  unfold u_lay at hlay
  rcases hlink with ⟨hfin, hlink⟩ | ⟨hfin, hinit, hC, hlink⟩
  · rw [if_neg (by rw [hfin]; decide)] at hlay
    have h6 := u_store hfc hkC hkind hlay hi (hty f9 hk) hn hfit
    rcases hlink with hlk | ⟨host, hlk⟩
    · exact W.putK hx hb (f := f) ⟨hown, hlk, ⟨_, _, _, hi'⟩, hst⟩ (by rw [q2]; exact h6) q1 q3 (by rw [hsl]; exact k2_hasslot (q4 f9 hk)) rfl rfl hd fin
    · exact va_WputK hx hb (f := f) hown (va_Nw.use rfl hlk) hi' hst (by rw [q2]; exact h6) q1 q3 (by rw [hsl]; exact k2_hasslot (q4 f9 hk)) rfl rfl hd fin
  · rw [if_pos hfin] at hlay
    have hcf : m.cls = cf := by
      obtain ⟨_, _, c', _, _, _, -, -, hf', -, -, -, hown2, -⟩ := Cond.laysFinal_spec hlay
      have e1 : c' = cf := by have := hi.symm.trans hf'; simp at this; exact this.1.symm
      rw [hdecl, hC] at hown2
      rw [← e1]; exact Option.some.inj (hown.symm.trans hown2)
    have h6 := u_fits hfc hkC hkind (Or.inr hlay) hi (hty f9 hk) hn hfit
    exact W.putFinK hx hb hown hlink hi' hst hcf hinit (by rw [q2]; exact h6) q1 q3 (by rw [hsl]; exact k2_hasslot (q4 f9 hk)) rfl rfl hd fin
theorem so_new (hx : p.tables.exec = Jvm.exec) (hb : c.code = cc) (hK : va_K D tb_cl (ab_ty dA) s) (hts : ∀ w ∈ tb_ws, w.before args s = true) {own : String} {idx : Nat} {C : String} {T : u_T} {N : Nat} (hown : s.vm.findClass own = some m.cls) {ci : Nat} (hd : decode cc pc = .ok (.new idx, 3)) (hc : tb_cl[ci]? = some (C, T, N)) (hN : N = tb_nf ci) (hin : ∀ w ∈ u_ws C T N, w ∈ tb_ws) (hty : ∀ k, k < N → parseFieldDescriptor (T k).2.2.1 = some (tb_ft ci k)) (hcl : (Jvm.Cond.classLink own idx C).before args s = true) (hinst : (Jvm.Cond.instantiable C N).before args s = true) (hini : (Jvm.Cond.initialized C).before args s = true)
    (hr : h.length - n0 + 1 ≤ R.cells ∧ ab_sl tb_nf h - z0 + tb_nf ci ≤ R.slots) (k : ab_J p l e R s m args below meth c b sa D dA nL n0 z0 Q (pc + 3) (L) (.ref h.length :: st) (h ++ [.inr (ci, (List.range (tb_nf ci)).map (fun k => defaultValue (tb_ft ci k)))])) : ab_J p l e R s m args below meth c b sa D dA nL n0 z0 Q (pc) (L) (st) (h) := by
  intro H locs ls a1 a2 a3 a4 a5 a6
  subst hN
  have hKn := hK.1 ci _ hc
  refine W.newcK hx hb hown hcl hinst hini rfl hd hr.1 hr.2 hKn.2.1 a1.1 fun H1 kC hkC e1 z1 o1 => ?_
  have hP1 : ab_P b sa D dA tb_cl (h ++ [.inr (ci, (List.range (tb_nf ci)).map (fun k => defaultValue (tb_ft ci k)))]) H1 := by
    refine a1.push (by rw [z1, a1.1]) (fun q hq => o1 q (by rw [← a1.1]; exact hq)) ?_
    refine ⟨_, hc, (u_born (tb_ft ci) hts hin hKn hkC e1 hty).to (fun j hj => ?_)⟩
    simp [vp_V, hj, ab_v_def]
  have k1 := k H1 locs ls hP1 ⟨Nat.le_trans a2.1 (by rw [z1, a1.1]; omega), fun q g1 g2 => (o1 q (by rw [← a1.1]; exact Nat.lt_of_lt_of_le g1 a2.1)).trans (a2.2.1 q g1 g2), a2.2.2⟩ a3 a4 (by rw [List.length_append]; omega) (by rw [ab_sl_app]; omega)
  rw [ab_sl_app, List.length_append, show h.length + List.length [(Sum.inr (ci, (List.range (tb_nf ci)).map (fun k => defaultValue (tb_ft ci k))) : va_E)] - n0 = h.length - n0 + 1 by simp; omega, show ab_sl tb_nf h + ab_z tb_nf (.inr (ci, (List.range (tb_nf ci)).map (fun k => defaultValue (tb_ft ci k)))) - z0 = ab_sl tb_nf h - z0 + tb_nf ci by simp only [ab_z]; omega] at k1
  exact k1
theorem so_newa (hx : p.tables.exec = Jvm.exec) (hb : c.code = cc) (hK : va_K D tb_cl (ab_ty dA) s) {aty : ArrayType} {ty : FieldType} {t9 : Nat} {n : Int32} {x0 : ab_A} (hd : decode cc pc = .ok (.newarray aty, 2)) (hty : newarray.typeOf aty = ty) (hprim : ∀ q, ty ≠ .object q) (hbt : componentBytes ty ≤ 8) (hat : tb_at[t9]? = some ty) (harr : (Jvm.Cond.arrayClass (newarray.typeOf aty)).before args s = true) (hx0 : ab_a b x0 = x0) (hx1 : ∀ (cA : ClassId) (N : Nat), vp_cell cA (N, x0) = arrV cA N (fun _ => defaultValue ty)) (hn : ¬ n < 0) (hm : n.toNatClampNeg ≤ 1000000)
    (hr : h.length - n0 + 1 ≤ R.cells ∧ ab_sl tb_nf h - z0 + n.toNatClampNeg ≤ R.slots) (k : ab_J p l e R s m args below meth c b sa D dA nL n0 z0 Q (pc + 2) (L) (.ref h.length :: st) (h ++ [.inl (t9, n.toNatClampNeg, x0)])) : ab_J p l e R s m args below meth c b sa D dA nL n0 z0 Q (pc) (L) (.int n :: st) (h) := by
  intro H locs ls a1 a2 a3 a4 a5 a6
  subst hty
  refine va_newaK hx hb harr rfl hd rfl hn rfl (by have := Nat.mul_le_mul hm hbt; omega) hr.1 hr.2 a1.1 fun H1 cA e1 z1 o1 hAr hNm => ?_
  have hcA : cA = dA t9 := by
    have h2 := (hK.2 t9 _ (ab_ty_at hat)).2
    revert h2 hprim hNm
    generalize newarray.typeOf aty = ty2
    intro hp hN h2
    cases ty2 with
    | object q => exact absurd rfl (hp q)
    | _ => exact Option.some.inj (hN.symm.trans h2)
  subst hcA
  have hP1 : ab_P b sa D dA tb_cl (h ++ [.inl (t9, n.toNatClampNeg, x0)]) H1 := by
    refine a1.push (by rw [z1, a1.1]) (fun q hq => o1 q (by rw [← a1.1]; exact hq)) ?_
    show H1[b + h.length]? = some (vp_cell (dA t9) (n.toNatClampNeg, ab_a b x0))
    rw [hx0, hx1]
    exact e1
  have k1 := k H1 locs ls hP1 ⟨Nat.le_trans a2.1 (by rw [z1, a1.1]; omega), fun q g1 g2 => (o1 q (by rw [← a1.1]; exact Nat.lt_of_lt_of_le g1 a2.1)).trans (a2.2.1 q g1 g2), a2.2.2⟩ a3 a4 (by rw [List.length_append]; omega) (by rw [ab_sl_app]; omega)
  rw [ab_sl_app, List.length_append, show h.length + List.length [(Sum.inl (t9, n.toNatClampNeg, x0) : va_E)] - n0 = h.length - n0 + 1 by simp; omega, show ab_sl tb_nf h + ab_z tb_nf (.inl (t9, n.toNatClampNeg, x0)) - z0 = ab_sl tb_nf h - z0 + n.toNatClampNeg by simp only [ab_z]; omega] at k1
  exact k1
theorem so_newq (hx : p.tables.exec = Jvm.exec) (hb : c.code = cc) (hK : va_K D tb_cl (ab_ty dA) s) {own : String} {idx t9 : Nat} {C : String} {n : Int32} (hown : s.vm.findClass own = some m.cls) (hd : decode cc pc = .ok (.anewarray idx, 3)) (hat : tb_at[t9]? = some (.object C)) (hcl : (Jvm.Cond.classLink own idx C).before args s = true) (hao : va_AO C s) (hn : ¬ n < 0) (hm : n.toNatClampNeg ≤ 1000000)
    (hr : h.length - n0 + 1 ≤ R.cells ∧ ab_sl tb_nf h - z0 + n.toNatClampNeg ≤ R.slots) (k : ab_J p l e R s m args below meth c b sa D dA nL n0 z0 Q (pc + 3) (L) (.ref h.length :: st) (h ++ [.inl (t9, n.toNatClampNeg, .inr (.inr (.inr (.inr (fun _ => none)))))])) : ab_J p l e R s m args below meth c b sa D dA nL n0 z0 Q (pc) (L) (.int n :: st) (h) := by
  intro H locs ls a1 a2 a3 a4 a5 a6
  refine W.anew hx hb hown hcl (va_AO.use hao) rfl hd rfl hn (by omega) hr.1 hr.2 fun cA kA comp f1 f2 f3 f4 => ?_
  obtain ⟨_, _, -, -, -, h2⟩ := (hK.2 t9 _ (ab_ty_at hat)).2
  have hcA : cA = dA t9 := Option.some.inj (f1.symm.trans h2)
  subst hcA
  generalize hH1 : H.push ({ cls := dA t9, slots := Array.replicate n.toNatClampNeg .null, vm := .none } : Cell) = H1
  have z1 : H1.size = H.size + 1 := by rw [← hH1, Array.size_push]
  have e1 : H1[H.size]? = some (arrV (dA t9) n.toNatClampNeg (fun _ => .null)) := by rw [← hH1, Array.getElem?_push_size, ← arrV_new]
  have o1 : ∀ q : Nat, q < H.size → H1[q]? = H[q]? := fun q hq => by rw [← hH1, Array.getElem?_push, if_neg (Nat.ne_of_lt hq)]
  have hP1 : ab_P b sa D dA tb_cl (h ++ [.inl (t9, n.toNatClampNeg, .inr (.inr (.inr (.inr (fun _ => none)))))]) H1 := by
    refine a1.push z1 o1 ?_
    show H1[b + h.length]? = some (vp_cell (dA t9) (n.toNatClampNeg, .inr (.inr (.inr (.inr (fun _ => none))))))
    rw [vp_cell_q, ← a1.1]
    exact e1
  have k1 := k H1 locs ls hP1 ⟨Nat.le_trans a2.1 (by rw [z1]; omega), fun q g1 g2 => (o1 q (Nat.lt_of_lt_of_le g1 a2.1)).trans (a2.2.1 q g1 g2), a2.2.2⟩ a3 a4 (by rw [List.length_append]; omega) (by rw [ab_sl_app]; omega)
  rw [ab_sl_app, List.length_append, show h.length + List.length [(Sum.inl (t9, n.toNatClampNeg, .inr (.inr (.inr (.inr (fun _ => none))))) : va_E)] - n0 = h.length - n0 + 1 by simp; omega, show ab_sl tb_nf h + ab_z tb_nf (.inl (t9, n.toNatClampNeg, .inr (.inr (.inr (.inr (fun _ => none)))))) - z0 = ab_sl tb_nf h - z0 + n.toNatClampNeg by simp only [ab_z]; omega] at k1
  rw [List.map_cons] at k1
  rw [a1.1]
  exact k1
end AB4
end
section
/-! THE CHECKS of the tables, by the kernel. -/
theorem ck_nc : tb_nc < tb_nm := by decide +kernel
theorem ck_cl : ∀ ci, ci < tb_cl.length → ab_ck ci = true := by decide +kernel
theorem ck_fn : ∀ z ∈ tb_fn, z.2.2.1 / 64 < tb_cl.length := by decide +kernel
theorem ck_sf : ∀ z ∈ tb_fn, z.2.2.1 / 64 ≠ tb_str := by decide +kernel
theorem ck_wb : tb_ws.all goodWord = true := by decide +kernel
theorem ck_ws : ∀ w ∈ tb_ws, ((w.onTables && w.keeps) = true ∨ ∃ ty, w = .arrayClass ty) := fun w hw => good_of_word (List.all_eq_true.mp ck_wb w hw)
end
section
theorem ck_m0 : ab_cm 0 = true := by decide +kernel
theorem ck_m1 : ab_cm 1 = true := by decide +kernel
theorem ck_m2 : ab_cm 2 = true := by decide +kernel
theorem ck_m3 : ab_cm 3 = true := by decide +kernel
theorem ck_m4 : ab_cm 4 = true := by decide +kernel
theorem ck_m5 : ab_cm 5 = true := by decide +kernel
theorem ck_m6 : ab_cm 6 = true := by decide +kernel
theorem ck_m7 : ab_cm 7 = true := by decide +kernel
theorem ck_m8 : ab_cm 8 = true := by decide +kernel
theorem ck_m9 : ab_cm 9 = true := by decide +kernel
theorem ck_m10 : ab_cm 10 = true := by decide +kernel
theorem ck_m11 : ab_cm 11 = true := by decide +kernel
theorem ck_m12 : ab_cm 12 = true := by decide +kernel
theorem ck_m13 : ab_cm 13 = true := by decide +kernel
theorem ck_m14 : ab_cm 14 = true := by decide +kernel
theorem ck_m15 : ab_cm 15 = true := by decide +kernel
theorem ck_m16 : ab_cm 16 = true := by decide +kernel
theorem ck_m17 : ab_cm 17 = true := by decide +kernel
theorem ck_m18 : ab_cm 18 = true := by decide +kernel
theorem ck_m19 : ab_cm 19 = true := by decide +kernel
theorem ck_m20 : ab_cm 20 = true := by decide +kernel
theorem ck_m21 : ab_cm 21 = true := by decide +kernel
theorem ck_m22 : ab_cm 22 = true := by decide +kernel
theorem ck_m23 : ab_cm 23 = true := by decide +kernel
theorem ck_m24 : ab_cm 24 = true := by decide +kernel
theorem ck_m25 : ab_cm 25 = true := by decide +kernel
theorem ck_m26 : ab_cm 26 = true := by decide +kernel
theorem ck_m27 : ab_cm 27 = true := by decide +kernel
theorem ck_m28 : ab_cm 28 = true := by decide +kernel
theorem ck_m29 : ab_cm 29 = true := by decide +kernel
theorem ck_m30 : ab_cm 30 = true := by decide +kernel
theorem ck_m31 : ab_cm 31 = true := by decide +kernel
theorem ck_m32 : ab_cm 32 = true := by decide +kernel
theorem ck_m33 : ab_cm 33 = true := by decide +kernel
theorem ck_m34 : ab_cm 34 = true := by decide +kernel
theorem ck_m35 : ab_cm 35 = true := by decide +kernel
theorem ck_m36 : ab_cm 36 = true := by decide +kernel
theorem ck_m37 : ab_cm 37 = true := by decide +kernel
theorem ck_m38 : ab_cm 38 = true := by decide +kernel
theorem ck_m39 : ab_cm 39 = true := by decide +kernel
theorem ck_m40 : ab_cm 40 = true := by decide +kernel
theorem ck_m41 : ab_cm 41 = true := by decide +kernel
theorem ck_m42 : ab_cm 42 = true := by decide +kernel
theorem ck_m43 : ab_cm 43 = true := by decide +kernel
theorem ck_m44 : ab_cm 44 = true := by decide +kernel
theorem ck_m45 : ab_cm 45 = true := by decide +kernel
end
section
theorem ck_m46 : ab_cm 46 = true := by decide +kernel
theorem ck_m47 : ab_cm 47 = true := by decide +kernel
theorem ck_m48 : ab_cm 48 = true := by decide +kernel
theorem ck_m49 : ab_cm 49 = true := by decide +kernel
theorem ck_m50 : ab_cm 50 = true := by decide +kernel
theorem ck_m51 : ab_cm 51 = true := by decide +kernel
theorem ck_m52 : ab_cm 52 = true := by decide +kernel
theorem ck_m53 : ab_cm 53 = true := by decide +kernel
theorem ck_m54 : ab_cm 54 = true := by decide +kernel
theorem ck_m55 : ab_cm 55 = true := by decide +kernel
theorem ck_m56 : ab_cm 56 = true := by decide +kernel
theorem ck_m57 : ab_cm 57 = true := by decide +kernel
theorem ck_m58 : ab_cm 58 = true := by decide +kernel
theorem ck_m59 : ab_cm 59 = true := by decide +kernel
theorem ck_m60 : ab_cm 60 = true := by decide +kernel
theorem ck_m61 : ab_cm 61 = true := by decide +kernel
theorem ck_m62 : ab_cm 62 = true := by decide +kernel
theorem ck_m63 : ab_cm 63 = true := by decide +kernel
theorem ck_m64 : ab_cm 64 = true := by decide +kernel
theorem ck_m65 : ab_cm 65 = true := by decide +kernel
theorem ck_m66 : ab_cm 66 = true := by decide +kernel
theorem ck_m67 : ab_cm 67 = true := by decide +kernel
theorem ck_m68 : ab_cm 68 = true := by decide +kernel
theorem ck_m69 : ab_cm 69 = true := by decide +kernel
theorem ck_m70 : ab_cm 70 = true := by decide +kernel
theorem ck_m71 : ab_cm 71 = true := by decide +kernel
theorem ck_m72 : ab_cm 72 = true := by decide +kernel
theorem ck_m73 : ab_cm 73 = true := by decide +kernel
theorem ck_m74 : ab_cm 74 = true := by decide +kernel
theorem ck_m75 : ab_cm 75 = true := by decide +kernel
theorem ck_m76 : ab_cm 76 = true := by decide +kernel
theorem ck_m77 : ab_cm 77 = true := by decide +kernel
theorem ck_m78 : ab_cm 78 = true := by decide +kernel
theorem ck_m79 : ab_cm 79 = true := by decide +kernel
theorem ck_m80 : ab_cm 80 = true := by decide +kernel
theorem ck_m81 : ab_cm 81 = true := by decide +kernel
theorem ck_m82 : ab_cm 82 = true := by decide +kernel
theorem ck_m83 : ab_cm 83 = true := by decide +kernel
theorem ck_m84 : ab_cm 84 = true := by decide +kernel
theorem ck_m85 : ab_cm 85 = true := by decide +kernel
theorem ck_m86 : ab_cm 86 = true := by decide +kernel
theorem ck_m87 : ab_cm 87 = true := by decide +kernel
theorem ck_m88 : ab_cm 88 = true := by decide +kernel
theorem ck_m89 : ab_cm 89 = true := by decide +kernel
theorem ck_m90 : ab_cm 90 = true := by decide +kernel
theorem ck_m91 : ab_cm 91 = true := by decide +kernel
end
section
theorem ck_m92 : ab_cm 92 = true := by decide +kernel
theorem ck_m93 : ab_cm 93 = true := by decide +kernel
theorem ck_m94 : ab_cm 94 = true := by decide +kernel
theorem ck_m95 : ab_cm 95 = true := by decide +kernel
theorem ck_m96 : ab_cm 96 = true := by decide +kernel
theorem ck_m97 : ab_cm 97 = true := by decide +kernel
theorem ck_m98 : ab_cm 98 = true := by decide +kernel
theorem ck_m99 : ab_cm 99 = true := by decide +kernel
theorem ck_m100 : ab_cm 100 = true := by decide +kernel
theorem ck_m101 : ab_cm 101 = true := by decide +kernel
theorem ck_m102 : ab_cm 102 = true := by decide +kernel
theorem ck_m103 : ab_cm 103 = true := by decide +kernel
theorem ck_m104 : ab_cm 104 = true := by decide +kernel
theorem ck_m105 : ab_cm 105 = true := by decide +kernel
theorem ck_m106 : ab_cm 106 = true := by decide +kernel
theorem ck_m107 : ab_cm 107 = true := by decide +kernel
theorem ck_m108 : ab_cm 108 = true := by decide +kernel
theorem ck_m109 : ab_cm 109 = true := by decide +kernel
theorem ck_m110 : ab_cm 110 = true := by decide +kernel
theorem ck_m111 : ab_cm 111 = true := by decide +kernel
theorem ck_m112 : ab_cm 112 = true := by decide +kernel
theorem ck_m113 : ab_cm 113 = true := by decide +kernel
theorem ck_m114 : ab_cm 114 = true := by decide +kernel
theorem ck_m115 : ab_cm 115 = true := by decide +kernel
theorem ck_m116 : ab_cm 116 = true := by decide +kernel
theorem ck_m117 : ab_cm 117 = true := by decide +kernel
theorem ck_m118 : ab_cm 118 = true := by decide +kernel
theorem ck_m119 : ab_cm 119 = true := by decide +kernel
theorem ck_m120 : ab_cm 120 = true := by decide +kernel
theorem ck_m121 : ab_cm 121 = true := by decide +kernel
theorem ck_m122 : ab_cm 122 = true := by decide +kernel
theorem ck_m123 : ab_cm 123 = true := by decide +kernel
theorem ck_m124 : ab_cm 124 = true := by decide +kernel
theorem ck_m125 : ab_cm 125 = true := by decide +kernel
theorem ck_m126 : ab_cm 126 = true := by decide +kernel
theorem ck_m127 : ab_cm 127 = true := by decide +kernel
theorem ck_m128 : ab_cm 128 = true := by decide +kernel
theorem ck_m129 : ab_cm 129 = true := by decide +kernel
theorem ck_m130 : ab_cm 130 = true := by decide +kernel
theorem ck_m131 : ab_cm 131 = true := by decide +kernel
theorem ck_m132 : ab_cm 132 = true := by decide +kernel
theorem ck_m133 : ab_cm 133 = true := by decide +kernel
theorem ck_m134 : ab_cm 134 = true := by decide +kernel
theorem ck_m135 : ab_cm 135 = true := by decide +kernel
theorem ck_m136 : ab_cm 136 = true := by decide +kernel
theorem ck_m137 : ab_cm 137 = true := by decide +kernel
end
section
theorem ck_m138 : ab_cm 138 = true := by decide +kernel
theorem ck_m139 : ab_cm 139 = true := by decide +kernel
theorem ck_m140 : ab_cm 140 = true := by decide +kernel
theorem ck_m141 : ab_cm 141 = true := by decide +kernel
theorem ck_m142 : ab_cm 142 = true := by decide +kernel
theorem ck_m143 : ab_cm 143 = true := by decide +kernel
theorem ck_m144 : ab_cm 144 = true := by decide +kernel
theorem ck_m145 : ab_cm 145 = true := by decide +kernel
theorem ck_m146 : ab_cm 146 = true := by decide +kernel
theorem ck_m147 : ab_cm 147 = true := by decide +kernel
theorem ck_m148 : ab_cm 148 = true := by decide +kernel
theorem ck_m149 : ab_cm 149 = true := by decide +kernel
theorem ck_m150 : ab_cm 150 = true := by decide +kernel
theorem ck_m151 : ab_cm 151 = true := by decide +kernel
theorem ck_m152 : ab_cm 152 = true := by decide +kernel
theorem ck_m153 : ab_cm 153 = true := by decide +kernel
theorem ck_m154 : ab_cm 154 = true := by decide +kernel
theorem ck_m155 : ab_cm 155 = true := by decide +kernel
theorem ck_m156 : ab_cm 156 = true := by decide +kernel
theorem ck_m157 : ab_cm 157 = true := by decide +kernel
theorem ck_m158 : ab_cm 158 = true := by decide +kernel
theorem ck_m159 : ab_cm 159 = true := by decide +kernel
theorem ck_m160 : ab_cm 160 = true := by decide +kernel
theorem ck_m161 : ab_cm 161 = true := by decide +kernel
theorem ck_m162 : ab_cm 162 = true := by decide +kernel
theorem ck_m163 : ab_cm 163 = true := by decide +kernel
theorem ck_m164 : ab_cm 164 = true := by decide +kernel
theorem ck_m165 : ab_cm 165 = true := by decide +kernel
theorem ck_m166 : ab_cm 166 = true := by decide +kernel
theorem ck_m167 : ab_cm 167 = true := by decide +kernel
theorem ck_m168 : ab_cm 168 = true := by decide +kernel
theorem ck_m169 : ab_cm 169 = true := by decide +kernel
theorem ck_m170 : ab_cm 170 = true := by decide +kernel
theorem ck_m171 : ab_cm 171 = true := by decide +kernel
theorem ck_m172 : ab_cm 172 = true := by decide +kernel
theorem ck_m173 : ab_cm 173 = true := by decide +kernel
theorem ck_m174 : ab_cm 174 = true := by decide +kernel
theorem ck_m175 : ab_cm 175 = true := by decide +kernel
theorem ck_m176 : ab_cm 176 = true := by decide +kernel
theorem ck_m177 : ab_cm 177 = true := by decide +kernel
theorem ck_m178 : ab_cm 178 = true := by decide +kernel
theorem ck_m179 : ab_cm 179 = true := by decide +kernel
theorem ck_m180 : ab_cm 180 = true := by decide +kernel
theorem ck_m181 : ab_cm 181 = true := by decide +kernel
theorem ck_m182 : ab_cm 182 = true := by decide +kernel
end
section
theorem ck_m (M : Nat) (h : M < tb_nm) : ab_cm M = true := match M, h with
  | 0, _ => ck_m0
  | 1, _ => ck_m1
  | 2, _ => ck_m2
  | 3, _ => ck_m3
  | 4, _ => ck_m4
  | 5, _ => ck_m5
  | 6, _ => ck_m6
  | 7, _ => ck_m7
  | 8, _ => ck_m8
  | 9, _ => ck_m9
  | 10, _ => ck_m10
  | 11, _ => ck_m11
  | 12, _ => ck_m12
  | 13, _ => ck_m13
  | 14, _ => ck_m14
  | 15, _ => ck_m15
  | 16, _ => ck_m16
  | 17, _ => ck_m17
  | 18, _ => ck_m18
  | 19, _ => ck_m19
  | 20, _ => ck_m20
  | 21, _ => ck_m21
  | 22, _ => ck_m22
  | 23, _ => ck_m23
  | 24, _ => ck_m24
  | 25, _ => ck_m25
  | 26, _ => ck_m26
  | 27, _ => ck_m27
  | 28, _ => ck_m28
  | 29, _ => ck_m29
  | 30, _ => ck_m30
  | 31, _ => ck_m31
  | 32, _ => ck_m32
  | 33, _ => ck_m33
  | 34, _ => ck_m34
  | 35, _ => ck_m35
  | 36, _ => ck_m36
  | 37, _ => ck_m37
  | 38, _ => ck_m38
  | 39, _ => ck_m39
  | 40, _ => ck_m40
  | 41, _ => ck_m41
  | 42, _ => ck_m42
  | 43, _ => ck_m43
  | 44, _ => ck_m44
  | 45, _ => ck_m45
  | 46, _ => ck_m46
  | 47, _ => ck_m47
  | 48, _ => ck_m48
  | 49, _ => ck_m49
  | 50, _ => ck_m50
  | 51, _ => ck_m51
  | 52, _ => ck_m52
  | 53, _ => ck_m53
  | 54, _ => ck_m54
  | 55, _ => ck_m55
  | 56, _ => ck_m56
  | 57, _ => ck_m57
  | 58, _ => ck_m58
  | 59, _ => ck_m59
  | 60, _ => ck_m60
  | 61, _ => ck_m61
  | 62, _ => ck_m62
  | 63, _ => ck_m63
  | 64, _ => ck_m64
  | 65, _ => ck_m65
  | 66, _ => ck_m66
  | 67, _ => ck_m67
  | 68, _ => ck_m68
  | 69, _ => ck_m69
  | 70, _ => ck_m70
  | 71, _ => ck_m71
  | 72, _ => ck_m72
  | 73, _ => ck_m73
  | 74, _ => ck_m74
  | 75, _ => ck_m75
  | 76, _ => ck_m76
  | 77, _ => ck_m77
  | 78, _ => ck_m78
  | 79, _ => ck_m79
  | 80, _ => ck_m80
  | 81, _ => ck_m81
  | 82, _ => ck_m82
  | 83, _ => ck_m83
  | 84, _ => ck_m84
  | 85, _ => ck_m85
  | 86, _ => ck_m86
  | 87, _ => ck_m87
  | 88, _ => ck_m88
  | 89, _ => ck_m89
  | 90, _ => ck_m90
  | 91, _ => ck_m91
  | 92, _ => ck_m92
  | 93, _ => ck_m93
  | 94, _ => ck_m94
  | 95, _ => ck_m95
  | 96, _ => ck_m96
  | 97, _ => ck_m97
  | 98, _ => ck_m98
  | 99, _ => ck_m99
  | 100, _ => ck_m100
  | 101, _ => ck_m101
  | 102, _ => ck_m102
  | 103, _ => ck_m103
  | 104, _ => ck_m104
  | 105, _ => ck_m105
  | 106, _ => ck_m106
  | 107, _ => ck_m107
  | 108, _ => ck_m108
  | 109, _ => ck_m109
  | 110, _ => ck_m110
  | 111, _ => ck_m111
  | 112, _ => ck_m112
  | 113, _ => ck_m113
  | 114, _ => ck_m114
  | 115, _ => ck_m115
  | 116, _ => ck_m116
  | 117, _ => ck_m117
  | 118, _ => ck_m118
  | 119, _ => ck_m119
  | 120, _ => ck_m120
  | 121, _ => ck_m121
  | 122, _ => ck_m122
  | 123, _ => ck_m123
  | 124, _ => ck_m124
  | 125, _ => ck_m125
  | 126, _ => ck_m126
  | 127, _ => ck_m127
  | 128, _ => ck_m128
  | 129, _ => ck_m129
  | 130, _ => ck_m130
  | 131, _ => ck_m131
  | 132, _ => ck_m132
  | 133, _ => ck_m133
  | 134, _ => ck_m134
  | 135, _ => ck_m135
  | 136, _ => ck_m136
  | 137, _ => ck_m137
  | 138, _ => ck_m138
  | 139, _ => ck_m139
  | 140, _ => ck_m140
  | 141, _ => ck_m141
  | 142, _ => ck_m142
  | 143, _ => ck_m143
  | 144, _ => ck_m144
  | 145, _ => ck_m145
  | 146, _ => ck_m146
  | 147, _ => ck_m147
  | 148, _ => ck_m148
  | 149, _ => ck_m149
  | 150, _ => ck_m150
  | 151, _ => ck_m151
  | 152, _ => ck_m152
  | 153, _ => ck_m153
  | 154, _ => ck_m154
  | 155, _ => ck_m155
  | 156, _ => ck_m156
  | 157, _ => ck_m157
  | 158, _ => ck_m158
  | 159, _ => ck_m159
  | 160, _ => ck_m160
  | 161, _ => ck_m161
  | 162, _ => ck_m162
  | 163, _ => ck_m163
  | 164, _ => ck_m164
  | 165, _ => ck_m165
  | 166, _ => ck_m166
  | 167, _ => ck_m167
  | 168, _ => ck_m168
  | 169, _ => ck_m169
  | 170, _ => ck_m170
  | 171, _ => ck_m171
  | 172, _ => ck_m172
  | 173, _ => ck_m173
  | 174, _ => ck_m174
  | 175, _ => ck_m175
  | 176, _ => ck_m176
  | 177, _ => ck_m177
  | 178, _ => ck_m178
  | 179, _ => ck_m179
  | 180, _ => ck_m180
  | 181, _ => ck_m181
  | 182, _ => ck_m182
  | n + 183, h => absurd h (by unfold tb_nm; omega)
end
section
theorem ab_ro_at {t : Nat} (h : ab_ro t = true) : ∃ C, tb_at[t]? = some (.object C) := by
  unfold ab_ro at h
  split at h
  next C hC => exact ⟨C, hC⟩
  next => cases h
/-! THE PURE MACHINE, 5: a run of it is a run of the machine. -/
theorem ck_fld {ci : Nat} (h : ci < tb_cl.length) : ∃ (C : String) (T : u_T) (N : Nat), tb_cl[ci]? = some (C, T, N) ∧ C = tb_cn ci ∧ N = tb_nf ci ∧ (∀ k, k < N → (T k).1 = C) ∧ (∀ k, k < N → parseFieldDescriptor (T k).2.2.1 = some (tb_ft ci k)) ∧ (∀ k, k < N → (T k).2.2.2 = tb_fi ci k) ∧ (∀ a, a < N → ∀ b, b < N → a ≠ b → (T a).2.1 ≠ (T b).2.1) ∧ (∀ w ∈ u_ws C T N, w ∈ tb_ws) ∧ Jvm.Cond.instantiable C N ∈ tb_ws ∧ Jvm.Cond.initialized C ∈ tb_ws := by
  have h1 := ck_cl ci h
  unfold ab_ck at h1
  obtain ⟨⟨C, T, N⟩, hq⟩ : ∃ q, tb_cl[ci]? = some q := ⟨_, List.getElem?_eq_getElem h⟩
  rw [hq] at h1
  simp only [Bool.and_eq_true, decide_eq_true_eq, List.all_eq_true, List.mem_range, Bool.or_eq_true] at h1
  obtain ⟨⟨⟨e1, e2⟩, e3⟩, e4⟩ := h1
  have hm : (C, T, N) ∈ tb_cl := List.mem_of_getElem? hq
  refine ⟨C, T, N, hq, e1, e2, fun k hk => (e3 k hk).1.1, fun k hk => (e3 k hk).1.2, fun k hk => (e3 k hk).2, fun a ha b hb hab => ?_, fun w hw => tb_in1 (List.mem_flatMap.mpr ⟨_, hm, hw⟩), tb_in2 (List.mem_flatMap.mpr ⟨_, hm, List.mem_cons_self⟩), tb_in2 (List.mem_flatMap.mpr ⟨_, hm, List.mem_cons_of_mem _ List.mem_cons_self⟩)⟩
  rcases e4 a ha b hb with z | z
  · exact absurd z hab
  · exact z
theorem ck_mem {M : Nat} (h : M < tb_nm) {q : Nat × Instr × Nat} (hq : q ∈ tb_il M) : ab_ok M q = true := by
  have h1 := ck_m M h
  unfold ab_cm at h1
  simp only [Bool.and_eq_true, List.all_eq_true] at h1
  exact h1.2 q hq
theorem ab_k_mem : ∀ (l : List (Nat × Instr × Nat)) (pc : Nat) (i : Instr) (r : Nat), ab_k l pc = some (i, r) → (pc, i, r) ∈ l
  | [], pc, i, r, h => by cases h
  | (a, j, k) :: l, pc, i, r, h => by
    unfold ab_k at h
    split at h
    next hb =>
      have h2 : (j, k) = (i, r) := Option.some.inj h
      cases h2
      have h3 : a = pc := Nat.eq_of_beq_eq_true hb
      subst h3
      exact List.mem_cons_self
    next => exact List.mem_cons_of_mem _ (ab_k_mem l pc i r h)
/-- what a method's frame stands on -/
def ab_C (X : Nat × (Nat → Int32)) (b : Nat) (sa : Nat → Nat) (p : Program) (R : Room) (s : State) (m : MethodId) (args : Array Value) (meth : Method) (c : Code) (D : va_G) (dA : Nat → ClassId) (M : Nat) : Prop :=
  M < tb_nm ∧ p.tables.exec = Jvm.exec ∧ c.code = tb_code M ∧ c.maxLocals = tb_max M ∧ s.vm.findClass (tb_cn (tb_oc M)) = some m.cls ∧ (∀ w ∈ tb_ws, w.before args s = true) ∧ va_K D tb_cl (ab_ty dA) s ∧ (∀ w ∈ tb_nw, va_Nw w s) ∧ (∀ C ∈ tb_ao, va_AO C s) ∧ meth.sig.returnType = tb_ret M ∧ meth.locks = false ∧ ((tb_y M).name = "<init>" → meth.name = "<init>") ∧ 1 ≤ R.frames ∧ 20 ≤ R.locals ∧ va_X (sa 1000) X.1 X.2 s s.heap ∧ sa 1000 < s.heap.size ∧ ¬ b ≤ sa 1000 ∧ ab_S b sa s s.heap
section AB5
variable {p : Program} {l : Launch} {e : Env} {R : Room} {s : State} {m : MethodId} {args : Array Value} {below : List Frame} {meth : Method} {c : Code} {b : Nat} {sa : Nat → Nat} {D : va_G} {dA : Nat → ClassId} {nL n0 z0 : Nat} {Q : State → Prop} {cc : ByteArray} {pc : Nat} {L : ab_Lo} {st : List Value} {h : List va_E}
theorem ab_flink {M idx r : Nat} {C : String} {T : u_T} {N : Nat} (hts : ∀ w ∈ tb_ws, w.before args s = true) (hnw : ∀ w ∈ tb_nw, va_Nw w s) (hc : tb_cl[r / 64]? = some (C, T, N)) (h : (ab_lk M idx r || ab_ln M idx r) = true) : (Jvm.Cond.fieldLink (tb_cn (tb_oc M)) idx C (T (r % 64)).2.1 (T (r % 64)).2.2.1).before args s = true ∨ ∃ host, va_Nw (.fieldLinkNest (tb_cn (tb_oc M)) idx C (T (r % 64)).2.1 (T (r % 64)).2.2.1 host) s := by
  rcases Bool.or_eq_true _ _ ▸ h with h | h
  · refine Or.inl (hts _ (tb_in3 (List.mem_map.mpr ⟨_, of_decide_eq_true h, ?_⟩)))
    simp only [tb_fc, hc]
  · obtain ⟨z, hz, hq⟩ := List.any_eq_true.mp h
    obtain ⟨e1, e2, e3⟩ := of_decide_eq_true hq
    refine Or.inr ⟨tb_cn z.2.2.2, hnw _ (List.mem_append_left _ (List.mem_map.mpr ⟨z, hz, ?_⟩))⟩
    simp only [tb_fd, e1, e2, e3, hc]
/-- the links of String's own fields -/
theorem ab_slink {M idx r f9 : Nat} (hts : ∀ w ∈ tb_ws, w.before args s = true) (h : (ab_lk M idx r || ab_ln M idx r) = true) (hr : r = tb_str * 64 + f9) (h9 : f9 < 2 := by decide) : (Jvm.Cond.fieldLink (tb_cn (tb_oc M)) idx "java/lang/String" (tb_sf f9).1 (tb_sf f9).2).before args s = true := by
  have hn : ab_ln M idx r = false := by
    cases hq : ab_ln M idx r with
    | false => rfl
    | true =>
      obtain ⟨z, hz, hq⟩ := List.any_eq_true.mp hq
      obtain ⟨e1, e2, e3⟩ := of_decide_eq_true hq
      have h1 := ck_sf z hz
      rw [e3, hr] at h1
      exact absurd (show (tb_str * 64 + f9) / 64 = tb_str by unfold tb_str; omega) h1
  rw [hn, Bool.or_false] at h
  have h2 := hts _ (tb_in3 (List.mem_map.mpr ⟨_, of_decide_eq_true h, rfl⟩))
  rw [hr] at h2
  have h3 : f9 = 0 ∨ f9 = 1 := by omega
  rcases h3 with rfl | rfl
  · simp only [tb_fc, show tb_cl[(tb_str * 64 + 0) / 64]? = some ("java/lang/String", tb_T17, 4) from rfl] at h2
    exact h2
  · simp only [tb_fc, show tb_cl[(tb_str * 64 + 1) / 64]? = some ("java/lang/String", tb_T17, 4) from rfl] at h2
    exact h2
set_option maxHeartbeats 16000000 in
theorem ab_x_ok {X : Nat × (Nat → Int32)} {M r : Nat} {i : Instr} {pc' : Nat} {L' : ab_Lo} {st' : List Value} {h1 : List va_E} (hC : ab_C X b sa p R s m args meth c D dA M) (hq : (pc, i, r) ∈ tb_il M) (hs : ab_x X r pc i L st h = some (.inl (pc', L', st', h1))) (hr : h1.length - n0 ≤ R.cells ∧ ab_sl tb_nf h1 - z0 ≤ R.slots) (hn : n0 ≤ h.length ∧ z0 ≤ ab_sl tb_nf h) (hnL : nL = tb_max M) (k : ab_J p l e R s m args below meth c b sa D dA nL n0 z0 Q (pc') (L') (st') (h1)) : ab_J p l e R s m args below meth c b sa D dA nL n0 z0 Q (pc) (L) (st) (h) := by
  obtain ⟨hM, hx, hb, hml, hown, hts, hK, hnw, hao, hret, hlk, hnm, hfr, hlo, hX, hX1, hX2, hS9⟩ := hC
  have hok := ck_mem hM hq
  unfold ab_ok at hok
  rw [Bool.and_eq_true] at hok
  obtain ⟨hd0, hok⟩ := hok
  have hd := of_decide_eq_true hd0
  clear hd0
  dsimp only at hd hok
  cases i with
  | iadd =>
    simp only [ab_x, ab_n] at hs
    split at hs
    · cases hs; exact so_iadd hx hb hd k
    · cases hs
  | isub =>
    simp only [ab_x, ab_n] at hs
    split at hs
    · cases hs; exact so_isub hx hb hd k
    · cases hs
  | imul =>
    simp only [ab_x, ab_n] at hs
    split at hs
    · cases hs; exact so_imul hx hb hd k
    · cases hs
  | iand =>
    simp only [ab_x, ab_n] at hs
    split at hs
    · cases hs; exact so_iand hx hb hd k
    · cases hs
  | ior =>
    simp only [ab_x, ab_n] at hs
    split at hs
    · cases hs; exact so_ior hx hb hd k
    · cases hs
  | ixor =>
    simp only [ab_x, ab_n] at hs
    split at hs
    · cases hs; exact so_ixor hx hb hd k
    · cases hs
  | ishl =>
    simp only [ab_x, ab_n] at hs
    split at hs
    · cases hs; exact so_ishl hx hb hd k
    · cases hs
  | ishr =>
    simp only [ab_x, ab_n] at hs
    split at hs
    · cases hs; exact so_ishr hx hb hd k
    · cases hs
  | idiv =>
    simp only [ab_x, ab_n] at hs
    split at hs
    · split at hs
      · next hg => cases hs; exact so_idiv hx hb hd hg k
      · cases hs
    · cases hs
  | irem =>
    simp only [ab_x, ab_n] at hs
    split at hs
    · split at hs
      · next hg => cases hs; exact so_irem hx hb hd hg k
      · cases hs
    · cases hs
  | iushr =>
    simp only [ab_x, ab_n] at hs
    split at hs
    · cases hs; exact so_iushr hx hb hd k
    · cases hs
  | ineg =>
    simp only [ab_x, ab_n] at hs
    split at hs
    · cases hs; exact so_ineg hx hb hd k
    · cases hs
  | ladd =>
    simp only [ab_x, ab_n] at hs
    split at hs
    · cases hs; exact so_ladd hx hb hd k
    · cases hs
  | lsub =>
    simp only [ab_x, ab_n] at hs
    split at hs
    · cases hs; exact so_lsub hx hb hd k
    · cases hs
  | lmul =>
    simp only [ab_x, ab_n] at hs
    split at hs
    · cases hs; exact so_lmul hx hb hd k
    · cases hs
  | land =>
    simp only [ab_x, ab_n] at hs
    split at hs
    · cases hs; exact so_land hx hb hd k
    · cases hs
  | lor =>
    simp only [ab_x, ab_n] at hs
    split at hs
    · cases hs; exact so_lor hx hb hd k
    · cases hs
  | lxor =>
    simp only [ab_x, ab_n] at hs
    split at hs
    · cases hs; exact so_lxor hx hb hd k
    · cases hs
  | ldiv =>
    simp only [ab_x, ab_n] at hs
    split at hs
    · split at hs
      · next hg => cases hs; exact so_ldiv hx hb hd hg k
      · cases hs
    · cases hs
  | lrem =>
    simp only [ab_x, ab_n] at hs
    split at hs
    · split at hs
      · next hg => cases hs; exact so_lrem hx hb hd hg k
      · cases hs
    · cases hs
  | lneg =>
    simp only [ab_x, ab_n] at hs
    split at hs
    · cases hs; exact so_lneg hx hb hd k
    · cases hs
  | lshl =>
    simp only [ab_x, ab_n] at hs
    split at hs
    · cases hs; exact so_lshl hx hb hd k
    · cases hs
  | lshr =>
    simp only [ab_x, ab_n] at hs
    split at hs
    · cases hs; exact so_lshr hx hb hd k
    · cases hs
  | lushr =>
    simp only [ab_x, ab_n] at hs
    split at hs
    · cases hs; exact so_lushr hx hb hd k
    · cases hs
  | i2l =>
    simp only [ab_x, ab_n] at hs
    split at hs
    · cases hs; exact so_i2l hx hb hd k
    · cases hs
  | l2i =>
    simp only [ab_x, ab_n] at hs
    split at hs
    · cases hs; exact so_l2i hx hb hd k
    · cases hs
  | i2b =>
    simp only [ab_x, ab_n] at hs
    split at hs
    · cases hs; exact so_i2b hx hb hd k
    · cases hs
  | i2s =>
    simp only [ab_x, ab_n] at hs
    split at hs
    · cases hs; exact so_i2s hx hb hd k
    · cases hs
  | i2c =>
    simp only [ab_x, ab_n] at hs
    split at hs
    · cases hs; exact so_i2c hx hb hd k
    · cases hs
  | lcmp =>
    simp only [ab_x, ab_n] at hs
    split at hs
    · cases hs; exact so_lcmp hx hb hd k
    · cases hs
  | iconst n =>
    simp only [ab_x, ab_n] at hs
    cases hs; exact so_iconst hx hb hd k
  | bipush n =>
    simp only [ab_x, ab_n] at hs
    cases hs; exact so_bipush hx hb hd k
  | sipush n =>
    simp only [ab_x, ab_n] at hs
    cases hs; exact so_sipush hx hb hd k
  | lconst n =>
    simp only [ab_x, ab_n] at hs
    cases hs; exact so_lconst hx hb hd k
  | aconst_null =>
    simp only [ab_x, ab_n] at hs
    cases hs; exact so_null hx hb hd k
  | getstatic idx =>
    simp only [ab_x, ab_n] at hs
    split at hs
    · next z hz =>
      cases hs
      have hw := hts _ (tb_in12 (List.mem_map.mpr ⟨_, of_decide_eq_true hok, rfl⟩))
      simp only [tb_zc, hz] at hw
      exact so_gets hx hb hS9 hown hd (hS9.2.1 _ (List.mem_of_getElem? hz)) hw k
    · cases hs
  | ldc idx =>
    simp only [ab_x, ab_n] at hs
    split at hs
    · next hr1 =>
      cases hs
      dsimp only at hok
      rw [if_pos hr1] at hok
      have hR := hS9.2.2 (tb_oc M, idx, r - 10000) (of_decide_eq_true hok)
      dsimp only at hR
      exact so_ldcS (k9 := r - 10000) hx hb hown hd hR k
    · next hr1 =>
      dsimp only at hok
      rw [if_neg hr1] at hok
      split at hs
      · next x hxk =>
        cases hs
        have hw := hts _ (tb_in5 (List.mem_map.mpr ⟨_, of_decide_eq_true hok, rfl⟩))
        dsimp only at hw
        rw [List.getD_eq_getElem?_getD, hxk] at hw
        exact fun H locs ls a1 a2 a3 a4 a5 a6 => lv_ldc hx hb hown hw hd (k H locs ls a1 a2 a3 a4 a5 a6)
      · cases hs
  | ldc_w idx =>
    simp only [ab_x, ab_n] at hs
    split at hs
    · next x hxk =>
      cases hs
      have hw := hts _ (tb_in5 (List.mem_map.mpr ⟨_, of_decide_eq_true hok, rfl⟩))
      dsimp only at hw
      rw [List.getD_eq_getElem?_getD, hxk] at hw
      exact fun H locs ls a1 a2 a3 a4 a5 a6 => lv_ldcw hx hb hown hw hd (k H locs ls a1 a2 a3 a4 a5 a6)
    · cases hs
  | ldc2_w idx =>
    simp only [ab_x, ab_n] at hs
    split at hs
    · next x hxk =>
      cases hs
      have hw := hts _ (tb_in6 (List.mem_map.mpr ⟨_, of_decide_eq_true hok, rfl⟩))
      dsimp only at hw
      rw [List.getD_eq_getElem?_getD, hxk] at hw
      exact fun H locs ls a1 a2 a3 a4 a5 a6 => lv_ldc2 hx hb hown hw hd (k H locs ls a1 a2 a3 a4 a5 a6)
    · cases hs
  | iload i =>
    simp only [ab_x, ab_n] at hs
    split at hs
    · next hi => cases hs; exact so_iload hx hb hd hi k
    · cases hs
  | iload_n i =>
    simp only [ab_x, ab_n] at hs
    split at hs
    · next hi => cases hs; exact so_iload_n hx hb hd hi k
    · cases hs
  | lload i =>
    simp only [ab_x, ab_n] at hs
    split at hs
    · next hi => cases hs; exact so_lload hx hb hd hi k
    · cases hs
  | lload_n i =>
    simp only [ab_x, ab_n] at hs
    split at hs
    · next hi => cases hs; exact so_lload_n hx hb hd hi k
    · cases hs
  | aload i =>
    simp only [ab_x, ab_n] at hs
    split at hs
    · next hi => cases hs; exact so_aload hx hb hd hi k
    · next hi => cases hs; exact so_aloadN hx hb hd hi k
    · next hi => cases hs; exact so_aloadS hx hb hd hi k
    · cases hs
  | aload_n i =>
    simp only [ab_x, ab_n] at hs
    split at hs
    · next hi => cases hs; exact so_aload_n hx hb hd hi k
    · next hi => cases hs; exact so_aload_nN hx hb hd hi k
    · next hi => cases hs; exact so_aload_nS hx hb hd hi k
    · cases hs
  | istore i =>
    simp only [ab_x, ab_n] at hs
    split at hs
    · split at hs
      · next hi => cases hs; exact so_istore hx hb hd hi k
      · cases hs
    · cases hs
  | lstore i =>
    simp only [ab_x, ab_n] at hs
    split at hs
    · split at hs
      · next hi => cases hs; exact so_lstore hx hb hd hi k
      · cases hs
    · cases hs
  | astore i =>
    simp only [ab_x, ab_n] at hs
    split at hs
    · split at hs
      · next hi => cases hs; exact so_astore hx hb hd hi k
      · cases hs
    · split at hs
      · next hi => cases hs; exact so_astoreN hx hb hd hi k
      · cases hs
    · split at hs
      · next hi => cases hs; exact so_astoreS hx hb hd hi k
      · cases hs
    · cases hs
  | istore_n i =>
    simp only [ab_x, ab_n] at hs
    split at hs
    · split at hs
      · next hi => cases hs; exact so_istore_n hx hb hd hi k
      · cases hs
    · cases hs
  | lstore_n i =>
    simp only [ab_x, ab_n] at hs
    split at hs
    · split at hs
      · next hi => cases hs; exact so_lstore_n hx hb hd hi k
      · cases hs
    · cases hs
  | astore_n i =>
    simp only [ab_x, ab_n] at hs
    split at hs
    · split at hs
      · next hi => cases hs; exact so_astore_n hx hb hd hi k
      · cases hs
    · split at hs
      · next hi => cases hs; exact so_astore_nN hx hb hd hi k
      · cases hs
    · split at hs
      · next hi => cases hs; exact so_astore_nS hx hb hd hi k
      · cases hs
    · cases hs
  | iinc i n =>
    simp only [ab_x, ab_n] at hs
    split at hs
    · next hi => cases hs; exact so_iinc hx hb hd hi k
    · cases hs
  | dup =>
    simp only [ab_x, ab_n] at hs
    split at hs
    · split at hs
      · next hg => cases hs; exact so_dup hx hb hd hg k
      · cases hs
    · cases hs
  | pop =>
    simp only [ab_x, ab_n] at hs
    split at hs
    · split at hs
      · next hg => cases hs; exact so_pop hx hb hd hg k
      · cases hs
    · cases hs
  | dup_x1 =>
    simp only [ab_x, ab_n] at hs
    split at hs
    · split at hs
      · next hg => cases hs; exact so_dup_x1 hx hb hd hg.1 hg.2 k
      · cases hs
    · cases hs
  | dup_x2 =>
    simp only [ab_x, ab_n] at hs
    split at hs
    · split at hs
      · next hg => cases hs; exact so_dup_x2 hx hb hd hg.1 hg.2.1 hg.2.2 k
      · cases hs
    · cases hs
  | dup2 =>
    simp only [ab_x, ab_n] at hs
    split at hs
    · split at hs
      · next hg => cases hs; exact so_dup2_11 hx hb hd hg.1 hg.2 k
      · split at hs
        · next hg => cases hs; exact so_dup2_2 hx hb hd hg k
        · cases hs
    · cases hs
  | tableswitch dflt lo hi offs =>
    simp only [ab_x, ab_n] at hs
    split at hs
    · split at hs
      · next hg =>
        split at hs
        · next h0 => cases hs; exact so_tabO hx hb hd hg h0 k
        · cases hs
      · next hg =>
        split at hs
        · next off ho =>
          split at hs
          · next h0 => cases hs; exact so_tabI hx hb hd hg ho h0 k
          · cases hs
        · cases hs
    · cases hs
  | lookupswitch dflt ps =>
    simp only [ab_x, ab_n] at hs
    split at hs
    · split at hs
      · next hg => cases hs; exact so_look hx hb hd hg.1 hg.2 k
      · cases hs
    · cases hs
  | goto off =>
    simp only [ab_x, ab_n] at hs
    cases hs; exact so_goto hx hb hd (of_decide_eq_true hok) k
  | ifCond cd off =>
    simp only [ab_x, ab_n] at hs
    split at hs
    · split at hs
      · next hg => cases hs; exact so_if hx hb hd (of_decide_eq_true hok) (fun _ => k) (fun q => absurd hg q)
      · next hg => cases hs; exact so_if hx hb hd (of_decide_eq_true hok) (fun q => absurd q hg) (fun _ => k)
    · cases hs
  | if_icmp cd off =>
    simp only [ab_x, ab_n] at hs
    split at hs
    · split at hs
      · next hg => cases hs; exact so_icmp hx hb hd (of_decide_eq_true hok) (fun _ => k) (fun q => absurd hg q)
      · next hg => cases hs; exact so_icmp hx hb hd (of_decide_eq_true hok) (fun q => absurd q hg) (fun _ => k)
    · cases hs
  | ifnull off =>
    simp only [ab_x, ab_n] at hs
    split at hs
    · cases hs; exact so_ifnullN hx hb hd (of_decide_eq_true hok) k
    · cases hs; exact so_ifnull hx hb hd k
    · cases hs
  | ifnonnull off =>
    simp only [ab_x, ab_n] at hs
    split at hs
    · cases hs; exact so_ifnonnullN hx hb hd k
    · cases hs; exact so_ifnonnull hx hb hd (of_decide_eq_true hok) k
    · cases hs
  | if_acmp cd off =>
    simp only [ab_x, ab_n] at hs
    split at hs
    · split at hs
      · next y x hv hw =>
        split at hs
        · next hg => cases hs; exact so_acmp hx hb hd (of_decide_eq_true hok) hv hw (fun _ => k) (fun q => absurd hg q)
        · next hg => cases hs; exact so_acmp hx hb hd (of_decide_eq_true hok) hv hw (fun q => absurd q hg) (fun _ => k)
      · cases hs
    · cases hs
  | getfield idx =>
    simp only [ab_x, ab_n] at hs
    simp only [Bool.and_eq_true, decide_eq_true_eq] at hok
    obtain ⟨C, T, N, hc, e1, e2, e3, e4, e5, e6, e7, -, -⟩ := ck_fld hok.1.2
    split at hs
    · split at hs
      · next ci fs ha =>
        split at hs
        · next hci =>
          subst hci
          split at hs
          · next v hv => cases hs; exact so_get hx hb hK hts hown hd ha hc (by rw [e2]; exact hok.2) e7 (e3 _ (by rw [e2]; exact hok.2)) (ab_flink hts hnw hc hok.1.1) hv k
          · cases hs
        · cases hs
      · cases hs
    · next q st9 =>
      split at hs
      · next hg =>
        obtain ⟨hg1, hg2⟩ := hg
        cases hs
        have hl9 := ab_slink (f9 := 0) hts hok.1.1 hg2
        exact so_strV hx hb hS9 hown hd hg1 hl9 k
      · split at hs
        · next hg =>
          obtain ⟨hg1, hg2⟩ := hg
          cases hs
          have hl9 := ab_slink (f9 := 1) hts hok.1.1 hg2
          exact so_strC hx hb hS9 hown hd hg1 hl9 k
        · cases hs
    · cases hs
  | putfield idx =>
    simp only [ab_x, ab_n] at hs
    rw [Bool.and_eq_true] at hok
    obtain ⟨hok, hok2⟩ := hok
    simp only [Bool.and_eq_true, decide_eq_true_eq] at hok
    obtain ⟨C, T, N, hc, e1, e2, e3, e4, e5, e6, e7, -, -⟩ := ck_fld hok.1.2
    split at hs
    · split at hs
      · next ci fs ha =>
        split at hs
        · next hg =>
          obtain ⟨rfl, hl, hf⟩ := hg
          cases hs
          have hk9 : r % 64 < N := by rw [e2]; exact hok.2
          refine so_put hx hb hK hts hown hd ha hc hk9 e7 e4 e6 (e3 _ hk9) ?_ hl hf k
          by_cases hfi : (T (r % 64)).2.2.2 = true
          · refine Or.inr ⟨hfi, ?_⟩
            rw [← e5 _ hk9, if_pos hfi] at hok2
            simp only [Bool.and_eq_true, decide_eq_true_eq] at hok2
            refine ⟨hnm hok2.2, by rw [e1, hok2.1.2], ?_⟩
            refine hts _ (tb_in3 (List.mem_map.mpr ⟨_, of_decide_eq_true hok2.1.1, ?_⟩))
            simp only [tb_fc, hc]
          · exact Or.inl ⟨by simpa using hfi, ab_flink hts hnw hc hok.1.1⟩
        · cases hs
      · cases hs
    · cases hs
  | iaload =>
    simp only [ab_x, ab_n] at hs
    split at hs
    · split at hs
      · next ha =>
        split at hs
        · next hg => cases hs; exact so_iald hx hb hK hd ha hg.1 hg.2 k
        · cases hs
      · cases hs
    · split at hs
      · next hg => obtain ⟨rfl, hg⟩ := hg; cases hs; exact so_sld hx hb hX hX1 hX2 hd hg k
      · cases hs
    · cases hs
  | caload =>
    simp only [ab_x, ab_n] at hs
    split at hs
    · split at hs
      · next ha =>
        split at hs
        · next hg => cases hs; exact so_cald hx hb hK hd ha hg.1 hg.2 k
        · cases hs
      · cases hs
    · cases hs
  | laload =>
    simp only [ab_x, ab_n] at hs
    split at hs
    · split at hs
      · next ha =>
        split at hs
        · next hg => cases hs; exact so_lald hx hb hK hd ha hg.1 hg.2 k
        · cases hs
      · cases hs
    · cases hs
  | iastore =>
    simp only [ab_x, ab_n] at hs
    split at hs
    · split at hs
      · next ha =>
        split at hs
        · next hg => cases hs; exact so_iast hx hb hK hd ha hg.1 hg.2 k
        · cases hs
      · cases hs
    · cases hs
  | castore =>
    simp only [ab_x, ab_n] at hs
    split at hs
    · split at hs
      · next ha =>
        split at hs
        · next hg => cases hs; exact so_cast hx hb hK hd ha hg.1 hg.2 k
        · cases hs
      · cases hs
    · cases hs
  | lastore =>
    simp only [ab_x, ab_n] at hs
    split at hs
    · split at hs
      · next ha =>
        split at hs
        · next hg => cases hs; exact so_last hx hb hK hd ha hg.1 hg.2 k
        · cases hs
      · cases hs
    · cases hs
  | baload =>
    simp only [ab_x, ab_n] at hs
    split at hs
    · split at hs
      · next ha =>
        split at hs
        · next hg => cases hs; exact so_zald hx hb hK hd ha hg.1 hg.2 k
        · split at hs
          · next hg => cases hs; exact so_bald hx hb hK hd ha hg.1 hg.2 k
          · cases hs
      · cases hs
    · split at hs
      · next hg => cases hs; exact so_strB hx hb hS9 hd hg.1 hg.2 k
      · cases hs
    · cases hs
  | bastore =>
    simp only [ab_x, ab_n] at hs
    split at hs
    · split at hs
      · next ha =>
        split at hs
        · next hg => cases hs; exact so_zast hx hb hK hd ha hg.1 hg.2 k
        · split at hs
          · next hg => cases hs; exact so_bast hx hb hK hd ha hg.1 hg.2 k
          · cases hs
      · cases hs
    · cases hs
  | aaload =>
    simp only [ab_x, ab_n] at hs
    split at hs
    · split at hs
      · next ha =>
        split at hs
        · next hg =>
          cases hs
          obtain ⟨C, hC⟩ := ab_ro_at hg.1
          exact so_aald hx hb hK hd ha hC hg.2 k
        · cases hs
      · cases hs
    · cases hs
  | aastore =>
    simp only [ab_x, ab_n] at hs
    split at hs
    · split at hs
      · next ha hv =>
        split at hs
        · next hg =>
          cases hs
          obtain ⟨C, hC⟩ := ab_ro_at hg.2.1
          have hg1 := hg.1
          rw [hC] at hg1
          obtain ⟨q9, hq9, he9⟩ := Option.map_eq_some_iff.mp hg1.symm
          exact so_aast hx hb hK hd ha hv hq9 (by rw [hC, ← he9]) hg.2.2 k
        · cases hs
      · cases hs
    · split at hs
      · next ha =>
        split at hs
        · next hg =>
          cases hs
          obtain ⟨C, hC⟩ := ab_ro_at hg.1
          exact so_aastN hx hb hK hd ha hC hg.2 k
        · cases hs
      · cases hs
    · cases hs
  | arraylength =>
    simp only [ab_x, ab_n] at hs
    split at hs
    · split at hs
      · next ha =>
        split at hs
        · next hg => cases hs; exact so_alen hx hb hK hd ha hg k
        · cases hs
      · cases hs
    · split at hs
      · next hg => subst hg; cases hs; exact so_slen hx hb hX hX1 hX2 hd k
      · split at hs
        · next hg => cases hs; exact so_strL hx hb hS9 hd hg k
        · cases hs
    · cases hs
  | new idx =>
    simp only [ab_x, ab_n] at hs
    by_cases h88 : r = 8888
    · subst h88; cases hs
    rw [Bool.or_eq_true] at hok
    replace hok := hok.resolve_left (fun z => h88 (of_decide_eq_true z))
    simp only [Bool.and_eq_true, decide_eq_true_eq] at hok
    obtain ⟨C, T, N, hc, e1, e2, e3, e4, e5, e6, e7, e8, e9⟩ := ck_fld hok.2
    split at hs
    · cases hs
      refine so_new hx hb hK hts hown hd hc e2 e7 e4 (hts _ (tb_in7 (List.mem_map.mpr ⟨_, hok.1, by rw [e1]⟩))) (hts _ e8) (hts _ e9) ?_ k
      rw [List.length_append, ab_sl_app] at hr
      simp only [List.length_cons, List.length_nil, ab_z] at hr
      omega
    · cases hs
  | newarray aty =>
    simp only [ab_x, ab_n] at hs
    split at hs
    · next n st9 =>
      split at hs
      · cases hs
      · next hg =>
        have hg1 : ¬ n < 0 := fun q => hg (Or.inl q)
        have hg2 : n.toNatClampNeg ≤ 1000000 := by have := fun q => hg (Or.inr q); omega
        have hw := hts _ (tb_in11 (List.mem_map.mpr ⟨_, of_decide_eq_true hok, rfl⟩))
        split at hs
        · split at hs
          · next hat =>
            cases hs
            refine so_newa hx hb hK hd rfl (fun _ q => by cases q) (by decide) hat hw rfl (fun _ _ => rfl) hg1 hg2 ?_ k
            rw [List.length_append, ab_sl_app] at hr
            simp only [List.length_cons, List.length_nil, ab_z] at hr
            omega
          · cases hs
        · split at hs
          · next hat =>
            cases hs
            refine so_newa hx hb hK hd rfl (fun _ q => by cases q) (by decide) hat hw rfl (fun _ _ => rfl) hg1 hg2 ?_ k
            rw [List.length_append, ab_sl_app] at hr
            simp only [List.length_cons, List.length_nil, ab_z] at hr
            omega
          · cases hs
        · split at hs
          · next hat =>
            cases hs
            refine so_newa hx hb hK hd rfl (fun _ q => by cases q) (by decide) hat hw rfl (fun _ _ => rfl) hg1 hg2 ?_ k
            rw [List.length_append, ab_sl_app] at hr
            simp only [List.length_cons, List.length_nil, ab_z] at hr
            omega
          · cases hs
        · split at hs
          · next hat =>
            cases hs
            refine so_newa hx hb hK hd rfl (fun _ q => by cases q) (by decide) hat hw rfl (fun _ _ => rfl) hg1 hg2 ?_ k
            rw [List.length_append, ab_sl_app] at hr
            simp only [List.length_cons, List.length_nil, ab_z] at hr
            omega
          · cases hs
        · split at hs
          · next hat =>
            cases hs
            refine so_newa hx hb hK hd rfl (fun _ q => by cases q) (by decide) hat hw rfl (fun _ _ => rfl) hg1 hg2 ?_ k
            rw [List.length_append, ab_sl_app] at hr
            simp only [List.length_cons, List.length_nil, ab_z] at hr
            omega
          · cases hs
        · cases hs
    · cases hs
  | anewarray idx =>
    simp only [ab_x, ab_n] at hs
    simp only [Bool.and_eq_true, decide_eq_true_eq] at hok
    split at hs
    · next n st9 =>
      split at hs
      · cases hs
      · next hg =>
        have hg1 : ¬ n < 0 := fun q => hg (Or.inl q)
        have hg2 : n.toNatClampNeg ≤ 1000000 := by have := fun q => hg (Or.inr q); omega
        split at hs
        · next hro =>
          cases hs
          obtain ⟨C, hC⟩ := ab_ro_at hro
          have han : tb_an r = C := by simp only [tb_an, hC]
          refine so_newq hx hb hK hown hd hC (hts _ (tb_in8 (List.mem_map.mpr ⟨_, hok.1, by rw [← han]⟩))) (hao C (by rw [← han]; exact hok.2)) hg1 hg2 ?_ k
          rw [List.length_append, ab_sl_app] at hr
          simp only [List.length_cons, List.length_nil, ab_z] at hr
          omega
        · cases hs
    · cases hs
  | invokespecial idx =>
    simp only [ab_x] at hs
    split at hs
    · next hr9 =>
      split at hs
      · split at hs
        · next hsum =>
          unfold ab_n at hs
          cases hs
          dsimp only at hok
          rw [if_pos hr9] at hok
          refine fun H locs ls a1 a2 a3 a4 a5 a6 => W.objInit hx hb hown (hts _ (tb_in9 (List.mem_map.mpr ⟨_, of_decide_eq_true hok, rfl⟩))) (hts _ (tb_in10 List.mem_cons_self)) (hts _ (tb_in10 (List.mem_cons_of_mem _ List.mem_cons_self))) rfl (by rw [hml, ← hnL]; exact a3.1) rfl hd hfr ?_ (k H locs ls a1 a2 a3 a4 a5 a6)
          rw [ab_sum]
          show 2 * 0 + _ + 12 ≤ _
          omega
        · cases hs
      · cases hs
    · split at hs
      · cases hs
      · split at hs
        · cases hs
        · cases hs
  | invokevirtual idx =>
    simp only [ab_x] at hs
    repeat' split at hs
    all_goals cases hs
  | invokestatic idx =>
    simp only [ab_x] at hs
    split at hs
    · cases hs
    · cases hs
  | ireturn =>
    simp only [ab_x] at hs
    repeat' split at hs
    all_goals cases hs
  | lreturn =>
    simp only [ab_x] at hs
    repeat' split at hs
    all_goals cases hs
  | areturn =>
    simp only [ab_x] at hs
    repeat' split at hs
    all_goals cases hs
  | return_ =>
    simp only [ab_x] at hs
    repeat' split at hs
    all_goals cases hs
  | _ => cases hs
end AB5
end
section
/-! THE PURE MACHINE, 6: calls, answers, runs. -/
def ab_R (d mc ms : Nat) : Room := { frames := d + 1, cells := mc, slots := ms, locals := 60 * d + 24 }
def ab_ws (M : Nat) : List Jvm.Cond := Jvm.Cond.code (tb_y M) (tb_code M) (tb_max M) (tb_ret M) :: tb_ws
def ab_B (X : Nat × (Nat → Int32)) (b : Nat) (sa : Nat → Nat) (D : va_G) (dA : Nat → ClassId) (h : List va_E) (U : State) : Prop := ab_P b sa D dA tb_cl h U.heap ∧ va_K D tb_cl (ab_ty dA) U ∧ (∀ w ∈ tb_nw, va_Nw w U) ∧ (∀ C ∈ tb_ao, va_AO C U) ∧ va_X (sa 1000) X.1 X.2 U U.heap ∧ sa 1000 < U.heap.size ∧ ¬ b ≤ sa 1000 ∧ ab_S b sa U U.heap
def ab_Pc (X : Nat × (Nat → Int32)) (b : Nat) (sa : Nat → Nat) (D : va_G) (dA : Nat → ClassId) (as : List Value) (h : List va_E) : Array Value → State → Prop := va_Pc (as.map (ab_v b sa)) (ab_B X b sa D dA h)
def ab_Qc (b : Nat) (sa : Nat → Nat) (D : va_G) (dA : Nat → ClassId) (v : Option Value) (h : List va_E) : Array Value → State → Outcome → State → Prop := fun _ u o t => o = .returned (v.map (ab_v b sa)) ∧ ab_P b sa D dA tb_cl h t.heap ∧ va_F (fun q => b ≤ q) u t
theorem ab_nw_on {w : Jvm.Cond} (h : w ∈ tb_nw) : w.onTables = true := by
  rcases List.mem_append.mp h with h | h
  · obtain ⟨z, -, rfl⟩ := List.mem_map.mp h
    unfold tb_fd
    split <;> rfl
  · obtain ⟨z, -, rfl⟩ := List.mem_map.mp h
    rfl
theorem ab_nw_warm {w : Jvm.Cond} (h : w ∈ tb_nw) {s U : State} (hW : s.WarmedH U.vm) (hZ : va_Nw w s) : va_Nw w U := by
  rcases List.mem_append.mp h with h | h
  · obtain ⟨z, hz, rfl⟩ := List.mem_map.mp h
    have hz1 := ck_fn z hz
    obtain ⟨⟨C, T, N⟩, hq⟩ : ∃ q, tb_cl[z.2.2.1 / 64]? = some q := ⟨_, List.getElem?_eq_getElem hz1⟩
    simp only [tb_fd, hq] at hZ ⊢
    exact va_Nw.warmF hW hZ
  · obtain ⟨z, -, rfl⟩ := List.mem_map.mp h
    exact va_Nw.warmM hW hZ
theorem ab_blind (X : Nat × (Nat → Int32)) (b : Nat) (sa : Nat → Nat) (D : va_G) (dA : Nat → ClassId) (as : List Value) (h : List va_E) : FrameBlind (ab_Pc X b sa D dA as h) := by
  intro a U g mk q
  obtain ⟨q0, q1, q2, q3, q4, q5, q6, q7, q8⟩ := q
  exact ⟨q0, q1, va_K.moved (u := U) (U := U.calling g mk a) (Vm.Alike.refl U.vm) q2, fun w hw => va_Nw.same (ab_nw_on hw) (u := U) (U := U.calling g mk a) rfl (q3 w hw), fun C hC => va_AO.moved (u := U) (U := U.calling g mk a) (Vm.Alike.refl U.vm) (q4 C hC), va_X.moved (u := U) (U := U.calling g mk a) (Vm.Alike.refl U.vm) q5, q6, q7, vk_S.moved (u := U) (U := U.calling g mk a) (Vm.Alike.refl U.vm) q8.1, fun z hz => va_Z.moved (u := U) (U := U.calling g mk a) (Vm.Alike.refl U.vm) (q8.2.1 z hz), fun z hz => vk_R.same (u := U) (U := U.calling g mk a) rfl (q8.2.2 z hz)⟩
section AB6
variable {p : Program} {l : Launch} {e : Env} {R : Room} {s : State} {m : MethodId} {args : Array Value} {below : List Frame} {meth : Method} {c : Code} {b : Nat} {sa : Nat → Nat} {D : va_G} {dA : Nat → ClassId} {nL n0 z0 : Nat} {Q : State → Prop} {cc : ByteArray} {pc : Nat} {L : ab_Lo} {st : List Value} {h : List va_E}
theorem ab_pre {X : Nat × (Nat → Int32)} (hK : va_K D tb_cl (ab_ty dA) s) (hnw : ∀ w ∈ tb_nw, va_Nw w s) (hao : ∀ C ∈ tb_ao, va_AO C s) (hX : va_X (sa 1000) X.1 X.2 s s.heap) (hX1 : sa 1000 < s.heap.size) (hX2 : ¬ b ≤ sa 1000) (hS9 : ab_S b sa s s.heap) {H : Heap} {locs : List Loc} (hS : va_S (fun q => b ≤ q) s.heap H locs) (hP : ab_P b sa D dA tb_cl h H) (as : List Value) : ∀ U : State, U.heap = H → s.WarmedH U.vm → ab_Pc X b sa D dA as h (as.map (ab_v b sa)).toArray U :=
  fun U hU hW => ⟨rfl, by rw [hU]; exact hP, va_K.moved hW.alike hK, fun w hw => ab_nw_warm hw hW (hnw w hw), fun C hC => va_AO.moved hW.alike (hao C hC), by rw [hU]; exact va_X.moved hW.alike (hX.kept (hS.2.1 _ hX1 hX2)), by rw [hU]; exact Nat.lt_of_lt_of_le hX1 hS.1, hX2, by rw [hU]; exact vk_S.moved hW.alike (hS9.1.kept hS.2.1), fun z hz => by rw [hU]; exact va_Z.moved hW.alike ((hS9.2.1 z hz).kept hS.2.1), fun z hz => vk_R.warm hW (hS9.2.2 z hz)⟩
theorem ab_back {H : Heap} {locs : List Loc} {ls : Array Slot} {mc ms : Nat} {rest : List Value} {v : Option Value} {h1 : List va_E} {av : Array Value} {st0 : List Value} (hmc : mc = h1.length - h.length) (hms : ms = ab_sl tb_nf h1 - ab_sl tb_nf h) (hg : h.length ≤ h1.length ∧ ab_sl tb_nf h ≤ ab_sl tb_nf h1)
    (a2 : va_S (fun q => b ≤ q) s.heap H locs) (a3 : ab_L b sa nL ls L) (a4 : L.length = nL) (a5 : n0 ≤ h.length) (a6 : z0 ≤ ab_sl tb_nf h) (run : va_Run p l e R s m args below meth c H locs (h.length - n0) (ab_sl tb_nf h - z0) mc ms (F0 m pc ls st0) (rest.map (ab_v b sa)) (ab_Qc b sa D dA v h1 av) (fun q => b ≤ q)) (k : ab_J p l e R s m args below meth c b sa D dA nL n0 z0 Q (pc + 3) (L) (v.toList ++ rest) (h1)) :
    W p l e R s m args below meth c H locs (h.length - n0) (ab_sl tb_nf h - z0) Q (F0 m pc ls st0) := by
  intro T hT X
  obtain ⟨v0, u0, t, T', Ls, e0, X', hL, e1, e2, ⟨hv, hP', hz, hk⟩, st1⟩ := run T hT X
  have hv' : v0 = v.map (ab_v b sa) := Outcome.returned.inj hv
  subst hv'
  rw [e0] at hz hk
  have k1 := k T'.heap (locs ++ Ls) ls (by rw [e1]; exact hP') ⟨Nat.le_trans a2.1 (by rw [e1]; exact hz), fun q g1 g2 => by rw [e1, hk q (Nat.lt_of_lt_of_le g1 a2.1) g2]; exact a2.2.1 q g1 g2, fun q hq => by
      rcases List.mem_append.mp hq with h | h
      · exact a2.2.2 q h
      · exact hL q h⟩ a3 a4 (by omega) (by omega)
  rw [show h1.length - n0 = h.length - n0 + mc by omega, show ab_sl tb_nf h1 - z0 = ab_sl tb_nf h - z0 + ms by omega] at k1
  have hst : (v.toList ++ rest).map (ab_v b sa) = (v.map (ab_v b sa)).toList ++ rest.map (ab_v b sa) := by cases v <;> rfl
  rw [hst] at k1
  obtain ⟨t2, b1, b2⟩ := k1 T' rfl X'
  exact ⟨t2, st1 t2 b1, b2⟩
theorem ab_good (M : Nat) (h : M < tb_nc) : GoodIn tb_ws (ab_ws M) := by
  intro w hw
  rcases List.mem_cons.mp hw with rfl | hw
  · have hm : Jvm.Cond.code (tb_y M) (tb_code M) (tb_max M) (tb_ret M) ∈ tb_ws := tb_in0 (List.mem_flatMap.mpr ⟨M, List.mem_range.mpr h, List.mem_cons_self⟩)
    exact ⟨hm, ck_ws _ hm⟩
  · exact ⟨hw, ck_ws _ hw⟩
theorem ab_mlink {o idx r : Nat} (h : (decide ((o, idx, r) ∈ tb_ml) || tb_mn.any (fun z => decide (z.1 = o ∧ z.2.1 = idx ∧ z.2.2.1 = r))) = true) (hts : ∀ w ∈ tb_ws, w.before args s = true) (hnw : ∀ w ∈ tb_nw, va_Nw w s) : (Jvm.Cond.methodLink (tb_cn o) idx (tb_y r) ∈ tb_ws) ∨ ∃ host, va_Nw (.methodLinkNest (tb_cn o) idx (tb_y r) host) s := by
  rcases Bool.or_eq_true _ _ ▸ h with h | h
  · exact Or.inl (tb_in4 (List.mem_map.mpr ⟨_, of_decide_eq_true h, rfl⟩))
  · obtain ⟨z, hz, hq⟩ := List.any_eq_true.mp h
    obtain ⟨e1, e2, e3⟩ := of_decide_eq_true hq
    refine Or.inr ⟨tb_cn z.2.2.2, hnw _ (List.mem_append_right _ (List.mem_map.mpr ⟨z, hz, ?_⟩))⟩
    simp only [e1, e2, e3]
theorem ck_met {M : Nat} (h : M < tb_nm) : (tb_y M).cls = tb_cn (tb_oc M) ∧ ((tb_y M).cls ≠ "java/lang/invoke/MethodHandle" ∧ (tb_y M).cls ≠ "java/lang/invoke/VarHandle" ∧ (parseMethodDescriptor (tb_y M).desc).map (fun d => d.parameters.length) = some (tb_np M)) ∧ tb_max M ≤ 41 ∧ ((tb_y M).name = "<init>" → tb_ret M = none) ∧ (tb_st M = true ∨ tb_oc M < tb_cl.length) ∧ plainName (tb_y M).cls = true := by
  have h1 := ck_m M h
  unfold ab_cm at h1
  simp only [Bool.and_eq_true, decide_eq_true_eq, Bool.or_eq_true, Bool.not_eq_true', decide_eq_false_iff_not] at h1
  obtain ⟨⟨⟨⟨⟨⟨⟨e1, e2⟩, e3⟩, e4⟩, e5⟩, e7⟩, e8⟩, -⟩ := h1
  exact ⟨e2, ⟨e3.1, e3.2, e4⟩, e5, fun q => e7.elim (fun z => absurd q z) id, e8, e1⟩
theorem ck_ini {M : Nat} (h : M < tb_nc) : Jvm.Cond.initialized (tb_y M).cls ∈ tb_ws := tb_in0 (List.mem_flatMap.mpr ⟨M, List.mem_range.mpr h, List.mem_cons_of_mem _ List.mem_cons_self⟩)
theorem ck_sta {M : Nat} (h : M < tb_nc) (hs : tb_st M = true) : Jvm.Cond.static (tb_y M) ∈ tb_ws := by
  refine tb_in0 (List.mem_flatMap.mpr ⟨M, List.mem_range.mpr h, List.mem_cons_of_mem _ (List.mem_cons_of_mem _ ?_)⟩)
  rw [if_pos hs]
  exact List.mem_cons_self
theorem ck_ins {M : Nat} (h : M < tb_nc) (hs : ¬ tb_st M = true) : Jvm.Cond.instanceMethod (tb_y M) ∈ tb_ws := by
  refine tb_in0 (List.mem_flatMap.mpr ⟨M, List.mem_range.mpr h, List.mem_cons_of_mem _ (List.mem_cons_of_mem _ ?_)⟩)
  rw [if_neg hs]
  split <;> exact List.mem_cons_self
theorem ck_sel {M : Nat} (h : M < tb_nc) (hs : ¬ tb_st M = true) (hn : (tb_y M).name ≠ "<init>") : Jvm.Cond.selects (tb_y M).cls (tb_y M) (tb_y M) ∈ tb_ws := by
  refine tb_in0 (List.mem_flatMap.mpr ⟨M, List.mem_range.mpr h, List.mem_cons_of_mem _ (List.mem_cons_of_mem _ ?_)⟩)
  rw [if_neg hs, if_neg hn]
  exact List.mem_cons_of_mem _ List.mem_cons_self
theorem so_call {X : Nat × (Nat → Int32)} {M M' r d' mc ms : Nat} {i : Instr} {as rest : List Value} {v : Option Value} {h1 : List va_E} (hC : ab_C X b sa p R s m args meth c D dA M) (hq : (pc, i, r) ∈ tb_il M) (hs : ab_x X r pc i L st h = some (.inr (.inl (M', as, rest)))) (hcok : ab_cok M' as rest = true) (hnL : nL = tb_max M)
    (hM : M' < tb_nc → Met l (tb_y M') (ab_ws M') (ab_R d' mc ms) (ab_Pc X b sa D dA as h) (ab_Qc b sa D dA v h1) mc ms (fun q => b ≤ q)) (hmc : mc = h1.length - h.length) (hms : ms = ab_sl tb_nf h1 - ab_sl tb_nf h) (hg : h.length ≤ h1.length ∧ ab_sl tb_nf h ≤ ab_sl tb_nf h1) (hR : d' + 2 ≤ R.frames ∧ 60 * d' + 84 ≤ R.locals) (hr : h1.length - n0 ≤ R.cells ∧ ab_sl tb_nf h1 - z0 ≤ R.slots) (k : ab_J p l e R s m args below meth c b sa D dA nL n0 z0 Q (pc + 3) (L) (v.toList ++ rest) (h1)) : ab_J p l e R s m args below meth c b sa D dA nL n0 z0 Q (pc) (L) (st) (h) := by
  intro H locs ls a1 a2 a3 a4 a5 a6
  obtain ⟨hM0, hx, hb, hml, hown, hts, hK, hnw, hao, hret, hlk, hnm, hfr, hlo, hX, hX1, hX2, hS9⟩ := hC
  have hok := ck_mem hM0 hq
  unfold ab_ok at hok
  rw [Bool.and_eq_true] at hok
  obtain ⟨hd0, hok⟩ := hok
  have hd := of_decide_eq_true hd0
  clear hd0
  dsimp only at hd hok
  unfold ab_cok at hcok
  simp only [Bool.and_eq_true, decide_eq_true_eq] at hcok
  have hsz : ls.size = tb_max M := by rw [a3.1, hnL]
  have hf : h.length - n0 + mc ≤ R.cells ∧ ab_sl tb_nf h - z0 + ms ≤ R.slots := by omega
  have hW : 2 * (F0 m pc ls (st.map (ab_v b sa))).monitorRoom + ((rest.map (ab_v b sa)).map fun v => v.category).sum ≤ 8 := by
    rw [ab_sum]
    show 2 * 0 + _ ≤ 8
    omega
  have hRm : ∀ r, tb_max r ≤ 41 → (ab_R d' mc ms).frames + 1 ≤ R.frames ∧ 8 + (tb_max r + 11) + (ab_R d' mc ms).locals ≤ R.locals := fun r h41 => ⟨by show d' + 1 + 1 ≤ _; omega, by show 8 + (tb_max r + 11) + (60 * d' + 24) ≤ _; omega⟩
  have hlen : ∀ (n : Nat) (x : Value) (y : List Value), st.drop n = x :: y → n ≤ st.length := by
    intro n x y hdrop
    rcases Nat.lt_or_ge st.length n with z | z
    · rw [List.drop_eq_nil_of_le (Nat.le_of_lt z)] at hdrop; cases hdrop
    · exact z
  have hAs : ∀ n, n ≤ st.length → (((st.take n).reverse).map (ab_v b sa)).length = n := fun n hn => by
    rw [List.length_map, List.length_reverse, List.length_take]; omega
  have hstk : ∀ (n a : Nat) (y : List Value), st.drop n = .ref a :: y → st.map (ab_v b sa) = (((st.take n).reverse).map (ab_v b sa)).reverse ++ .ref (b + a) :: y.map (ab_v b sa) := fun n a y hdrop => by
    rw [← List.map_reverse, List.reverse_reverse]
    conv => lhs; rw [← List.take_append_drop n st, hdrop, List.map_append]
    rfl
  cases i with
  | invokevirtual idx =>
    simp only [ab_x] at hs
    split at hs
    · cases hs
    next hst0 =>
    have h88 : ¬ r = 8888 := fun z => hst0 (Or.inl z)
    have hst : ¬ tb_st r = true := fun z => hst0 (Or.inr z)
    rw [Bool.or_eq_true] at hok
    replace hok := hok.resolve_left (fun z => h88 (of_decide_eq_true z))
    split at hs
    next a st9 hdrop =>
      split at hs
      next ci fs ha =>
        split at hs
        next hci =>
          cases hs
          rw [Bool.and_eq_true] at hok
          obtain ⟨hok, hok2⟩ := hok
          simp only [Bool.and_eq_true, decide_eq_true_eq] at hok
          obtain ⟨f1, f2, f3, f4, f5, f6⟩ := ck_met (Nat.lt_trans hok.1 ck_nc)
          have hM' := hM hok.1
          obtain ⟨C, T, N, hc, c1, -⟩ := ck_fld (ci := ci) (by rw [hci]; exact f5.resolve_left hst)
          have hrecv : ∃ cellB : Cell, H[b + a]? = some cellB ∧ cellB.vm.isStatics = false ∧ s.vm.findClass (tb_y M').cls = some cellB.cls := by
            have h9 := va_recv (q0 := 0) hK (ab_P.one a1 ha) hc rfl
            rw [f1, ← hci, ← c1]
            exact h9
          refine ab_back (av := (Value.ref (b + a) :: ((st.take (tb_np M')).reverse).map (ab_v b sa)).toArray) hmc hms hg a2 a3 a4 a5 a6 ?_ k
          rcases ab_mlink hok2 hts hnw with hl | ⟨host, hl⟩
          · exact va_runV (As := ((st.take (tb_np M')).reverse).map (ab_v b sa)) ⟨hx, hb, hml, hown, hts⟩ hM' ⟨callB_of (tb_np M') hts (ab_good M' hok.1) rfl rfl rfl (hts _ (ck_ini hok.1)) (hts _ hl) f2 (hRm M' f3), hts _ (ck_ins hok.1 hst), hts _ (ck_sel hok.1 hst hok.2)⟩ ⟨ab_blind _ _ _ _ _ _ _, hrecv, ab_pre hK hnw hao hX hX1 hX2 hS9 a2 a1 _⟩ rfl (hAs _ (hlen _ _ _ hdrop)) hsz (hstk _ _ _ hdrop) hW hd hf
          · exact va_runVN (As := ((st.take (tb_np M')).reverse).map (ab_v b sa)) ⟨hx, hb, hml, hown, hts⟩ hM' ⟨va_cnB (tb_np M') hts (ab_good M' hok.1) rfl rfl rfl hl (hts _ (ck_ini hok.1)) f2 (hRm M' f3), hts _ (ck_ins hok.1 hst), hts _ (ck_sel hok.1 hst hok.2)⟩ ⟨ab_blind _ _ _ _ _ _ _, hrecv, ab_pre hK hnw hao hX hX1 hX2 hS9 a2 a1 _⟩ rfl (hAs _ (hlen _ _ _ hdrop)) hsz (hstk _ _ _ hdrop) hW hd hf
        next => cases hs
      next => cases hs
    next a st9 hdrop =>
      split at hs
      next hci =>
        cases hs
        rw [Bool.and_eq_true] at hok
        obtain ⟨hok, hok2⟩ := hok
        simp only [Bool.and_eq_true, decide_eq_true_eq] at hok
        obtain ⟨f1, f2, f3, f4, f5, f6⟩ := ck_met (Nat.lt_trans hok.1 ck_nc)
        have hM' := hM hok.1
        have hrecv : ∃ cellB : Cell, H[sa a]? = some cellB ∧ cellB.vm.isStatics = false ∧ s.vm.findClass (tb_y M').cls = some cellB.cls := by
          have h9 := vk_recv hS9.1 hci.1 a2
          rw [f1, hci.2]
          exact h9
        have hstq : st.map (ab_v b sa) = (((st.take (tb_np M')).reverse).map (ab_v b sa)).reverse ++ .ref (sa a) :: rest.map (ab_v b sa) := by
          rw [← List.map_reverse, List.reverse_reverse]
          conv => lhs; rw [← List.take_append_drop (tb_np M') st, hdrop, List.map_append]
          rfl
        refine ab_back (av := (Value.ref (sa a) :: ((st.take (tb_np M')).reverse).map (ab_v b sa)).toArray) hmc hms hg a2 a3 a4 a5 a6 ?_ k
        rcases ab_mlink hok2 hts hnw with hl | ⟨host, hl⟩
        · exact va_runV (As := ((st.take (tb_np M')).reverse).map (ab_v b sa)) ⟨hx, hb, hml, hown, hts⟩ hM' ⟨callB_of (tb_np M') hts (ab_good M' hok.1) rfl rfl rfl (hts _ (ck_ini hok.1)) (hts _ hl) f2 (hRm M' f3), hts _ (ck_ins hok.1 hst), hts _ (ck_sel hok.1 hst hok.2)⟩ ⟨ab_blind _ _ _ _ _ _ _, hrecv, ab_pre hK hnw hao hX hX1 hX2 hS9 a2 a1 _⟩ rfl (hAs _ (hlen _ _ _ hdrop)) hsz hstq hW hd hf
        · exact va_runVN (As := ((st.take (tb_np M')).reverse).map (ab_v b sa)) ⟨hx, hb, hml, hown, hts⟩ hM' ⟨va_cnB (tb_np M') hts (ab_good M' hok.1) rfl rfl rfl hl (hts _ (ck_ini hok.1)) f2 (hRm M' f3), hts _ (ck_ins hok.1 hst), hts _ (ck_sel hok.1 hst hok.2)⟩ ⟨ab_blind _ _ _ _ _ _ _, hrecv, ab_pre hK hnw hao hX hX1 hX2 hS9 a2 a1 _⟩ rfl (hAs _ (hlen _ _ _ hdrop)) hsz hstq hW hd hf
      next => cases hs
    next => cases hs
  | invokespecial idx =>
    simp only [ab_x] at hs
    split at hs
    · split at hs
      · split at hs
        · cases hs
        · cases hs
      · cases hs
    next hr9 =>
    split at hs
    · cases hs
    next hst0 =>
    have h88 : ¬ r = 8888 := fun z => hst0 (Or.inl z)
    have hst : ¬ tb_st r = true := fun z => hst0 (Or.inr z)
    dsimp only at hok
    rw [if_neg hr9, Bool.or_eq_true] at hok
    replace hok := hok.resolve_left (fun z => h88 (of_decide_eq_true z))
    split at hs
    next a st9 hdrop =>
      cases hs
      rw [Bool.and_eq_true] at hok
      obtain ⟨hok, hok2⟩ := hok
      simp only [Bool.and_eq_true, decide_eq_true_eq] at hok
      obtain ⟨f1, f2, f3, f4, f5, f6⟩ := ck_met (Nat.lt_trans hok.1 ck_nc)
      have hM' := hM hok.1
      have hret0 := f4 hok.2
      have hw0 : ab_ws M' = Jvm.Cond.code (tb_y M') (tb_code M') (tb_max M') none :: tb_ws := by unfold ab_ws; rw [hret0]
      refine ab_back (av := (Value.ref (b + a) :: ((st.take (tb_np M')).reverse).map (ab_v b sa)).toArray) hmc hms hg a2 a3 a4 a5 a6 ?_ k
      rcases ab_mlink hok2 hts hnw with hl | ⟨host, hl⟩
      · exact va_runI (As := ((st.take (tb_np M')).reverse).map (ab_v b sa)) ⟨hx, hb, hml, hown, hts⟩ hM' ⟨callB_of (tb_np M') hts (ab_good M' hok.1) hw0 rfl rfl (hts _ (ck_ini hok.1)) (hts _ hl) f2 (hRm M' f3), hok.2, hts _ (ck_ins hok.1 hst)⟩ ⟨ab_blind _ _ _ _ _ _ _, ab_pre hK hnw hao hX hX1 hX2 hS9 a2 a1 _⟩ rfl (hAs _ (hlen _ _ _ hdrop)) hsz (hstk _ _ _ hdrop) hW hd hf
      · exact va_runIN (As := ((st.take (tb_np M')).reverse).map (ab_v b sa)) ⟨hx, hb, hml, hown, hts⟩ hM' ⟨va_cnB (tb_np M') hts (ab_good M' hok.1) hw0 rfl rfl hl (hts _ (ck_ini hok.1)) f2 (hRm M' f3), hok.2, hts _ (ck_ins hok.1 hst)⟩ ⟨ab_blind _ _ _ _ _ _ _, ab_pre hK hnw hao hX hX1 hX2 hS9 a2 a1 _⟩ rfl (hAs _ (hlen _ _ _ hdrop)) hsz (hstk _ _ _ hdrop) hW hd hf
    next => cases hs
  | invokestatic idx =>
    simp only [ab_x] at hs
    split at hs
    next hg9 =>
      cases hs
      rw [Bool.or_eq_true] at hok
      replace hok := hok.resolve_left (fun z => hg9.1 (of_decide_eq_true z))
      rw [Bool.and_eq_true] at hok
      obtain ⟨hok, hok2⟩ := hok
      have hok1 := of_decide_eq_true hok
      obtain ⟨f1, f2, f3, f4, f5, f6⟩ := ck_met (Nat.lt_trans hok1 ck_nc)
      have hM' := hM hok1
      have hstS : st.map (ab_v b sa) = (((st.take (tb_np M')).reverse).map (ab_v b sa)).reverse ++ (st.drop (tb_np M')).map (ab_v b sa) := by
        rw [← List.map_reverse, List.reverse_reverse, ← List.map_append, List.take_append_drop]
      refine ab_back (av := (((st.take (tb_np M')).reverse).map (ab_v b sa)).toArray) hmc hms hg a2 a3 a4 a5 a6 ?_ k
      rcases ab_mlink hok2 hts hnw with hl | ⟨host, hl⟩
      · exact va_runS (As := ((st.take (tb_np M')).reverse).map (ab_v b sa)) ⟨hx, hb, hml, hown, hts⟩ hM' ⟨callB_of (tb_np M') hts (ab_good M' hok1) rfl rfl rfl (hts _ (ck_ini hok1)) (hts _ hl) f2 (hRm M' f3), hts _ (ck_sta hok1 hg9.2.1)⟩ ⟨ab_blind _ _ _ _ _ _ _, ab_pre hK hnw hao hX hX1 hX2 hS9 a2 a1 _⟩ rfl (hAs _ hg9.2.2) hsz hstS hW hd hf
      · exact va_runSN (As := ((st.take (tb_np M')).reverse).map (ab_v b sa)) ⟨hx, hb, hml, hown, hts⟩ hM' ⟨va_cnB (tb_np M') hts (ab_good M' hok1) rfl rfl rfl hl (hts _ (ck_ini hok1)) f2 (hRm M' f3), hts _ (ck_sta hok1 hg9.2.1), trivial⟩ ⟨ab_blind _ _ _ _ _ _ _, ab_pre hK hnw hao hX hX1 hX2 hS9 a2 a1 _⟩ rfl (hAs _ hg9.2.2) hsz hstS hW hd hf
    next => cases hs
  | _ =>
    simp only [ab_x, ab_n] at hs
    repeat' split at hs
    all_goals cases hs
theorem ab_set_le {nf : Nat → Nat} {i : Nat} {e e' : va_E} (hi : h[i]? = some e) (hz : ab_z nf e' = ab_z nf e) : h.length ≤ (h.set i e').length ∧ ab_sl nf h ≤ ab_sl nf (h.set i e') :=
  ⟨by rw [List.length_set]; exact Nat.le_refl _, by rw [ab_sl_set nf h i e e' hi hz]; exact Nat.le_refl _⟩
theorem ab_x_grow {X : Nat × (Nat → Int32)} {r : Nat} {i : Instr} {pc' : Nat} {L' : ab_Lo} {st' : List Value} {h1 : List va_E} (hs : ab_x X r pc i L st h = some (.inl (pc', L', st', h1))) : h.length ≤ h1.length ∧ ab_sl tb_nf h ≤ ab_sl tb_nf h1 := by
  cases i <;> simp only [ab_x, ab_n] at hs <;> (repeat' split at hs) <;> cases hs <;> first | exact ⟨Nat.le_refl _, Nat.le_refl _⟩ | (refine ⟨by rw [List.length_append]; omega, by rw [ab_sl_app]; omega⟩) | (refine ab_set_le (by assumption) ?_; rfl)
theorem ab_g_grow (X : Nat × (Nat → Int32)) : ∀ (n d M pc : Nat) (L : ab_Lo) (st : List Value) (h : List va_E) (v : Option Value) (h' : List va_E), ab_g X n d M pc L st h = some (v, h') → h.length ≤ h'.length ∧ ab_sl tb_nf h ≤ ab_sl tb_nf h' := by
  intro n
  induction n with
  | zero => intro d M pc L st h v h' hs; cases hs
  | succ n ih =>
    intro d M pc L st h v h' hs
    unfold ab_g at hs
    split at hs
    · cases hs
    · next pc' L' st' h1 hx =>
      unfold ab_s at hx
      split at hx
      · have g1 := ab_x_grow hx
        have g2 := ih _ _ _ _ _ _ _ _ hs
        omega
      · cases hx
    · split at hs
      · cases hs
      · split at hs
        · split at hs
          · cases hs
          · next v1 h1 hc =>
            have g1 := ih _ _ _ _ _ _ _ _ hc
            have g2 := ih _ _ _ _ _ _ _ _ hs
            omega
        · cases hs
    · split at hs
      · cases hs
        exact ⟨Nat.le_refl _, Nat.le_refl _⟩
      · cases hs
theorem so_ret {X : Nat × (Nat → Int32)} {M r mc ms : Nat} {i : Instr} {v : Option Value} (hC : ab_C X b sa p R s m args meth c D dA M) (hq : (pc, i, r) ∈ tb_il M) (hs : ab_x X r pc i L st h = some (.inr (.inr v))) (hrt : ab_rt M v = true) (hmc : mc = h.length - n0) (hms : ms = ab_sl tb_nf h - z0) (hQ : Q = MQ below (ab_Qc b sa D dA v h) args s mc ms (fun q => b ≤ q)) : ab_J p l e R s m args below meth c b sa D dA nL n0 z0 Q (pc) (L) (st) (h) := by
  intro H locs ls a1 a2 a3 a4 a5 a6
  obtain ⟨hM0, hx, hb, hml, hown, hts, hK, hnw, hao, hret, hlk, hnm, hfr, hlo, hX, hX1, hX2, hS9⟩ := hC
  have hok := ck_mem hM0 hq
  unfold ab_ok at hok
  rw [Bool.and_eq_true] at hok
  have hd := of_decide_eq_true hok.1
  dsimp only at hd
  subst hQ
  subst hmc
  subst hms
  have hQc : ∀ t : State, t.heap = H → s.WarmedH t.vm → ab_Qc b sa D dA v h args s (.returned (v.map (ab_v b sa))) t := fun t ht _ => ⟨rfl, by rw [ht]; exact a1, a2.F ht⟩
  unfold ab_rt at hrt
  cases i with
  | ireturn =>
    simp only [ab_x] at hs
    split at hs
    · next x =>
      cases hs
      cases hr2 : tb_ret M with
      | none => rw [hr2] at hrt; cases hrt
      | some ty =>
        rw [hr2] at hrt
        exact W.zret hx hb (by rw [hret, hr2]) (ab_f_ok (b := b) (sa := sa) hrt).1 hQc a2.2.2 hd hlk
    · cases hs
  | lreturn =>
    simp only [ab_x] at hs
    split at hs
    · next x =>
      cases hs
      cases hr2 : tb_ret M with
      | none => rw [hr2] at hrt; cases hrt
      | some ty =>
        rw [hr2] at hrt
        cases ty <;> first | (cases hrt; done) | exact W.lret hx hb (by rw [hret, hr2]) hQc a2.2.2 hd hlk
    · cases hs
  | areturn =>
    simp only [ab_x] at hs
    split at hs
    · next x =>
      cases hs
      cases hr2 : tb_ret M with
      | none => rw [hr2] at hrt; cases hrt
      | some ty =>
        rw [hr2] at hrt
        cases ty with
        | object C => exact W.aret hx hb (by rw [hret, hr2]) (Or.inl ⟨_, rfl⟩) (Or.inr ⟨_, rfl⟩) hQc a2.2.2 hd hlk
        | array q => exact W.aret hx hb (by rw [hret, hr2]) (Or.inr ⟨_, rfl⟩) (Or.inr ⟨_, rfl⟩) hQc a2.2.2 hd hlk
        | _ => cases hrt
    · cases hs
      cases hr2 : tb_ret M with
      | none => rw [hr2] at hrt; cases hrt
      | some ty =>
        rw [hr2] at hrt
        cases ty with
        | object C => exact W.aret hx hb (by rw [hret, hr2]) (Or.inl ⟨_, rfl⟩) (Or.inl rfl) hQc a2.2.2 hd hlk
        | array q => exact W.aret hx hb (by rw [hret, hr2]) (Or.inr ⟨_, rfl⟩) (Or.inl rfl) hQc a2.2.2 hd hlk
        | _ => cases hrt
    · next x =>
      cases hs
      cases hr2 : tb_ret M with
      | none => rw [hr2] at hrt; cases hrt
      | some ty =>
        rw [hr2] at hrt
        cases ty with
        | object C => exact W.aret hx hb (by rw [hret, hr2]) (Or.inl ⟨_, rfl⟩) (Or.inr ⟨_, rfl⟩) hQc a2.2.2 hd hlk
        | _ => cases hrt
    · cases hs
  | return_ =>
    simp only [ab_x] at hs
    split at hs
    · cases hs
      cases hr2 : tb_ret M with
      | none => exact W.vret hx hb (by rw [hret, hr2]) hQc a2.2.2 hd hlk
      | some ty => rw [hr2] at hrt; cases hrt
    · cases hs
  | _ =>
    simp only [ab_x, ab_n] at hs
    repeat' split at hs
    all_goals cases hs
end AB6
/-- a run of the pure machine, from any point of a method, is a run of the machine -/
def ab_T (X : Nat × (Nat → Int32)) (l : Launch) (n : Nat) : Prop := ∀ (d M pc : Nat) (L : ab_Lo) (st : List Value) (h : List va_E) (v : Option Value) (h' : List va_E), ab_g X n d M pc L st h = some (v, h') → ∀ (p : Program) (e : Env) (R : Room) (s : State) (m : MethodId) (args : Array Value) (below : List Frame) (meth : Method) (c : Code) (b : Nat) (sa : Nat → Nat) (D : va_G) (dA : Nat → ClassId) (n0 z0 : Nat) (Q : State → Prop), h'.length - n0 ≤ R.cells → ab_sl tb_nf h' - z0 ≤ R.slots → d + 1 ≤ R.frames → 60 * d + 24 ≤ R.locals → n0 ≤ h.length → z0 ≤ ab_sl tb_nf h → ab_C X b sa p R s m args meth c D dA M →
  (∀ (pc : Nat) (L : ab_Lo) (st : List Value) (i : Instr) (r : Nat), (pc, i, r) ∈ tb_il M → ab_x X r pc i L st h' = some (.inr (.inr v)) → ab_rt M v = true → ab_J p l e R s m args below meth c b sa D dA (tb_max M) n0 z0 Q pc L st h') →
  ab_J p l e R s m args below meth c b sa D dA (tb_max M) n0 z0 Q pc L st h
/-- .. and of a whole method -/
theorem ab_met {X : Nat × (Nat → Int32)} {l : Launch} {n : Nat} (hT : ab_T X l n) {d M : Nat} {as : List Value} {h : List va_E} {v : Option Value} {h' : List va_E} (hM : M < tb_nc) (hg : ab_g X n d M 0 (ab_en as ++ List.replicate (tb_max M - (ab_en as).length) none) [] h = some (v, h')) (hl : (ab_en as).length ≤ tb_max M) (b : Nat) (sa : Nat → Nat) (D : va_G) (dA : Nat → ClassId) :
    Met l (tb_y M) (ab_ws M) (ab_R d (h'.length - h.length) (ab_sl tb_nf h' - ab_sl tb_nf h)) (ab_Pc X b sa D dA as h) (ab_Qc b sa D dA v h') (h'.length - h.length) (ab_sl tb_nf h' - ab_sl tb_nf h) (fun q => b ≤ q) := by
  have hM9 : M < tb_nm := Nat.lt_trans hM ck_nc
  obtain ⟨f1, f2, f3, f4, f5, f6⟩ := ck_met hM9
  refine Met.ofW (cc := tb_code M) (maxL := tb_max M) (ret := tb_ret M) f6 rfl ?_
  intro p e s m args below meth c s1 B hml hv
  obtain ⟨rfl, hP, hK, hnw, hao, hX, hX1, hX2, hS9⟩ := hv
  have hts := atoms_spec (ws := ab_ws M) B.pre
  have hown : s.vm.findClass (tb_y M).cls = some m.cls := findClass_of_methodNamed B.named
  have hC : ab_C X b sa p (ab_R d (h'.length - h.length) (ab_sl tb_nf h' - ab_sl tb_nf h)) s m (as.map (ab_v b sa)).toArray meth c D dA M := ⟨hM9, B.exec, B.bytes, hml, by rw [← f1]; exact hown, fun w hw => hts w (List.mem_cons_of_mem _ hw), hK, hnw, hao, B.returns, B.notSynchronized, fun q => (name_of_methodNamed B.named B.method).1.trans q, by show 1 ≤ d + 1; omega, by show 20 ≤ 60 * d + 24; omega, hX, hX1, hX2, hS9⟩
  have hJ := hT d M 0 _ [] h v h' hg p e (ab_R d (h'.length - h.length) (ab_sl tb_nf h' - ab_sl tb_nf h)) s m (as.map (ab_v b sa)).toArray below meth c b sa D dA h.length (ab_sl tb_nf h) (MQ below (ab_Qc b sa D dA v h') (as.map (ab_v b sa)).toArray s (h'.length - h.length) (ab_sl tb_nf h' - ab_sl tb_nf h) (fun q => b ≤ q)) (Nat.le_refl _) (Nat.le_refl _) (Nat.le_refl _) (Nat.le_refl _) (Nat.le_refl _) (Nat.le_refl _) hC (fun pc L st i r hq hx hrt => so_ret hC hq hx hrt rfl rfl rfl)
  have h1 := hJ s.heap [] _ hP va_S.rf (ab_en_ok b sa as hl) (by rw [List.length_append, List.length_replicate]; omega) (Nat.le_refl _) (Nat.le_refl _)
  rw [Nat.sub_self, Nat.sub_self] at h1
  rw [lg_entry_eq]
  exact h1
theorem ab_all (X : Nat × (Nat → Int32)) (l : Launch) : ∀ n, ab_T X l n := by
  intro n
  induction n with
  | zero => intro d M pc L st h v h' hs; cases hs
  | succ n ih =>
    intro d M pc L st h v h' hs p e R s m args below meth c b sa D dA n0 z0 Q hmc hms hfr hlo hn hz hC hend
    unfold ab_g at hs
    split at hs
    · cases hs
    · next pc' L' st' h1 hx =>
      unfold ab_s at hx
      split at hx
      · next i r hk =>
        have g1 := ab_x_grow hx
        have g2 := ab_g_grow _ _ _ _ _ _ _ _ _ _ hs
        refine ab_x_ok hC (ab_k_mem _ _ _ _ hk) hx ⟨by omega, by omega⟩ ⟨hn, hz⟩ rfl ?_
        exact ih d M pc' L' st' h1 v h' hs p e R s m args below meth c b sa D dA n0 z0 Q hmc hms hfr hlo (by omega) (by omega) hC hend
      · cases hx
    · next M' as rest hx =>
      unfold ab_s at hx
      split at hx
      · next i r hk =>
        split at hs
        · cases hs
        · next d' =>
          split at hs
          · next hcok =>
            split at hs
            · cases hs
            · next v1 h1 hc =>
              have g1 := ab_g_grow _ _ _ _ _ _ _ _ _ _ hc
              have g2 := ab_g_grow _ _ _ _ _ _ _ _ _ _ hs
              have hcl : (ab_en as).length ≤ tb_max M' := by
                unfold ab_cok at hcok
                simp only [Bool.and_eq_true, decide_eq_true_eq] at hcok
                exact hcok.2
              refine so_call (d' := d') hC (ab_k_mem _ _ _ _ hk) hx hcok rfl (fun hM' => ab_met ih hM' hc hcl b sa D dA) rfl rfl g1 ⟨by omega, by omega⟩ ⟨by omega, by omega⟩ ?_
              exact ih (d' + 1) M (pc + 3) L _ h1 v h' hs p e R s m args below meth c b sa D dA n0 z0 Q hmc hms hfr hlo (by omega) (by omega) hC hend
          · cases hs
      · cases hx
    · next v1 hx =>
      unfold ab_s at hx
      split at hx
      · next i r hk =>
        split at hs
        · next hrt =>
          cases hs
          exact hend pc L st i r (ab_k_mem _ _ _ _ hk) hx hrt
        · cases hs
      · cases hx
end
section
/-! THE PURE MACHINE, 7: its own logic. rt_ X d M pc L st h Q: from there it comes to an end with Q. -/
theorem ab_g_s (X : Nat × (Nat → Int32)) (n d M pc : Nat) (L : ab_Lo) (st : List Value) (h : List va_E) : ab_g X (n + 1) d M pc L st h = match ab_s X M pc L st h with
    | none => none
    | some (.inl (pc', L', st', h')) => ab_g X n d M pc' L' st' h'
    | some (.inr (.inl (M', as, rest))) => match d with
      | 0 => none
      | d' + 1 => if ab_cok M' as rest = true then (match ab_g X n d' M' 0 (ab_en as ++ List.replicate (tb_max M' - (ab_en as).length) none) [] h with
        | none => none
        | some (v, h') => ab_g X n (d' + 1) M (pc + 3) L (v.toList ++ rest) h') else none
    | some (.inr (.inr v)) => if ab_rt M v = true then some (v, h) else none := rfl
theorem ab_more (X : Nat × (Nat → Int32)) : ∀ (n d M pc : Nat) (L : ab_Lo) (st : List Value) (h : List va_E) (r : Option Value × List va_E), ab_g X n d M pc L st h = some r → ab_g X (n + 1) d M pc L st h = some r := by
  intro n
  induction n with
  | zero => intro d M pc L st h r hs; cases hs
  | succ n ih =>
    intro d M pc L st h r hs
    rw [ab_g_s] at hs ⊢
    cases hx : ab_s X M pc L st h with
    | none => rw [hx] at hs; cases hs
    | some y =>
      rw [hx] at hs
      rcases y with ⟨pc', L', st', h'⟩ | ⟨M', as, rest⟩ | v
      · exact ih _ _ _ _ _ _ _ hs
      · cases d with
        | zero => cases hs
        | succ d' =>
          dsimp only at hs ⊢
          by_cases hc : ab_cok M' as rest = true
          · rw [if_pos hc] at hs ⊢
            cases hg : ab_g X n d' M' 0 (ab_en as ++ List.replicate (tb_max M' - (ab_en as).length) none) [] h with
            | none => rw [hg] at hs; cases hs
            | some z =>
              obtain ⟨v1, h1⟩ := z
              rw [hg] at hs
              rw [ih _ _ _ _ _ _ _ hg]
              exact ih _ _ _ _ _ _ _ hs
          · rw [if_neg hc] at hs; cases hs
      · exact hs
theorem ab_mono {X : Nat × (Nat → Int32)} {n k d M pc : Nat} {L : ab_Lo} {st : List Value} {h : List va_E} {r : Option Value × List va_E} (hk : n ≤ k) (hs : ab_g X n d M pc L st h = some r) : ab_g X k d M pc L st h = some r := by
  induction hk with
  | refl => exact hs
  | step _ ih => exact ab_more _ _ _ _ _ _ _ _ _ ih
def rt_ (X : Nat × (Nat → Int32)) (d M pc : Nat) (L : ab_Lo) (st : List Value) (h : List va_E) (Q : Option Value → List va_E → Prop) : Prop := ∃ (n : Nat) (v : Option Value) (h' : List va_E), ab_g X n d M pc L st h = some (v, h') ∧ Q v h'
section RT7
variable {X : Nat × (Nat → Int32)} {d M pc : Nat} {L : ab_Lo} {st : List Value} {h : List va_E} {Q : Option Value → List va_E → Prop}
theorem rt_n {pc' : Nat} {L' : ab_Lo} {st' : List Value} {h' : List va_E} (hs : ab_s X M pc L st h = some (.inl (pc', L', st', h'))) (k : rt_ X d M pc' L' st' h' Q) : rt_ X d M pc L st h Q := by
  obtain ⟨n, v, h9, e, q⟩ := k
  exact ⟨n + 1, v, h9, by rw [ab_g_s, hs]; exact e, q⟩
theorem rt_c {M' : Nat} {as rest : List Value} {P : Option Value → List va_E → Prop} (hs : ab_s X M pc L st h = some (.inr (.inl (M', as, rest)))) (hc : ab_cok M' as rest = true) (k1 : rt_ X d M' 0 (ab_en as ++ List.replicate (tb_max M' - (ab_en as).length) none) [] h P) (k2 : ∀ v h', P v h' → rt_ X (d + 1) M (pc + 3) L (v.toList ++ rest) h' Q) : rt_ X (d + 1) M pc L st h Q := by
  obtain ⟨n1, v1, h1, e1, q1⟩ := k1
  obtain ⟨n2, v, h', e2, q⟩ := k2 v1 h1 q1
  refine ⟨max n1 n2 + 1, v, h', ?_, q⟩
  rw [ab_g_s, hs]
  dsimp only
  rw [if_pos hc, ab_mono (Nat.le_max_left n1 n2) e1]
  exact ab_mono (Nat.le_max_right n1 n2) e2
theorem rt_r {v : Option Value} (hs : ab_s X M pc L st h = some (.inr (.inr v))) (hr : ab_rt M v = true) (q : Q v h) : rt_ X d M pc L st h Q :=
  ⟨1, v, h, by rw [ab_g_s, hs]; exact if_pos hr, q⟩
theorem rt_k {k : Nat} {pc' : Nat} {L' : ab_Lo} {st' : List Value} {h' : List va_E} (hs : ∀ n, ab_g X (n + k) d M pc L st h = ab_g X n d M pc' L' st' h') (q : rt_ X d M pc' L' st' h' Q) : rt_ X d M pc L st h Q := by
  obtain ⟨n, v, h9, e, q⟩ := q
  exact ⟨n + k, v, h9, (hs n).trans e, q⟩
theorem rt_w {P : Option Value → List va_E → Prop} (k : rt_ X d M pc L st h P) (hw : ∀ v h', P v h' → Q v h') : rt_ X d M pc L st h Q := by
  obtain ⟨n, v, h9, e, q⟩ := k
  exact ⟨n, v, h9, e, hw _ _ q⟩
end RT7
end
section
-- ===== PART A: goes FIRST, ahead of the names: the tables' words, and 'selects' of the private methods out of them =====
/-- a private method of a class that the tables say can be made, by its rows of tables_1 -/
def lw_okq (q : MethodName × Nat) : Prop := (q.1.cls ≠ "java/lang/invoke/MethodHandle" ∧ q.1.cls ≠ "java/lang/invoke/VarHandle") ∧ Cond.instantiable q.1.cls q.2 ∈ tables_1 ∧ Cond.privateMethod q.1 ∈ tables_1 ∧ Cond.instanceMethod q.1 ∈ tables_1
theorem lw_p0 : lw_okq (⟨"PackageKeeper$Reader", "nextWord", "()V"⟩, 4) := ⟨⟨by decide +kernel, by decide +kernel⟩, List.mem_of_getElem? (i := 51) (by decide +kernel), List.mem_of_getElem? (i := 265) (by decide +kernel), List.mem_of_getElem? (i := 266) (by decide +kernel)⟩
theorem lw_p1 : lw_okq (⟨"PackageKeeper$Reader", "isClauseWord", "()Z"⟩, 4) := ⟨⟨by decide +kernel, by decide +kernel⟩, List.mem_of_getElem? (i := 51) (by decide +kernel), List.mem_of_getElem? (i := 286) (by decide +kernel), List.mem_of_getElem? (i := 287) (by decide +kernel)⟩
theorem lw_p2 : lw_okq (⟨"PackageKeeper$Reader", "wordIs", "(Ljava/lang/String;)Z"⟩, 4) := ⟨⟨by decide +kernel, by decide +kernel⟩, List.mem_of_getElem? (i := 51) (by decide +kernel), List.mem_of_getElem? (i := 291) (by decide +kernel), List.mem_of_getElem? (i := 292) (by decide +kernel)⟩
theorem lw_p3 : lw_okq (⟨"PackageKeeper$Reader", "packed", "(II)J"⟩, 4) := ⟨⟨by decide +kernel, by decide +kernel⟩, List.mem_of_getElem? (i := 51) (by decide +kernel), List.mem_of_getElem? (i := 345) (by decide +kernel), List.mem_of_getElem? (i := 346) (by decide +kernel)⟩
theorem lw_p4 : lw_okq (⟨"PackageKeeper$Reader", "readVersionFrom", "(I)LPackageKeeper$Version;"⟩, 4) := ⟨⟨by decide +kernel, by decide +kernel⟩, List.mem_of_getElem? (i := 51) (by decide +kernel), List.mem_of_getElem? (i := 353) (by decide +kernel), List.mem_of_getElem? (i := 354) (by decide +kernel)⟩
theorem lw_p5 : lw_okq (⟨"PackageKeeper$Reader", "takeNumber", "()J"⟩, 4) := ⟨⟨by decide +kernel, by decide +kernel⟩, List.mem_of_getElem? (i := 51) (by decide +kernel), List.mem_of_getElem? (i := 357) (by decide +kernel), List.mem_of_getElem? (i := 358) (by decide +kernel)⟩
theorem lw_p6 : lw_okq (⟨"PackageKeeper$Reader", "numberAt", "(II)J"⟩, 4) := ⟨⟨by decide +kernel, by decide +kernel⟩, List.mem_of_getElem? (i := 51) (by decide +kernel), List.mem_of_getElem? (i := 365) (by decide +kernel), List.mem_of_getElem? (i := 366) (by decide +kernel)⟩
theorem lw_p7 : lw_okq (⟨"PackageKeeper$Reader", "takes", "(C)Z"⟩, 4) := ⟨⟨by decide +kernel, by decide +kernel⟩, List.mem_of_getElem? (i := 51) (by decide +kernel), List.mem_of_getElem? (i := 370) (by decide +kernel), List.mem_of_getElem? (i := 371) (by decide +kernel)⟩
theorem lw_p8 : lw_okq (⟨"PackageKeeper$Reader", "takeMark", "()J"⟩, 4) := ⟨⟨by decide +kernel, by decide +kernel⟩, List.mem_of_getElem? (i := 51) (by decide +kernel), List.mem_of_getElem? (i := 387) (by decide +kernel), List.mem_of_getElem? (i := 388) (by decide +kernel)⟩
theorem lw_p9 : lw_okq (⟨"PackageKeeper$Reader", "readTest", "()LPackageKeeper$Test;"⟩, 4) := ⟨⟨by decide +kernel, by decide +kernel⟩, List.mem_of_getElem? (i := 51) (by decide +kernel), List.mem_of_getElem? (i := 467) (by decide +kernel), List.mem_of_getElem? (i := 468) (by decide +kernel)⟩
theorem lw_p10 : lw_okq (⟨"PackageKeeper", "finishTape", "()Z"⟩, 6) := ⟨⟨by decide +kernel, by decide +kernel⟩, List.mem_of_getElem? (i := 29) (by decide +kernel), List.mem_of_getElem? (i := 526) (by decide +kernel), List.mem_of_getElem? (i := 527) (by decide +kernel)⟩
theorem lw_p11 : lw_okq (⟨"PackageKeeper$Solver", "learnGroups", "()V"⟩, 13) := ⟨⟨by decide +kernel, by decide +kernel⟩, List.mem_of_getElem? (i := 107) (by decide +kernel), List.mem_of_getElem? (i := 611) (by decide +kernel), List.mem_of_getElem? (i := 612) (by decide +kernel)⟩
theorem lw_p12 : lw_okq (⟨"PackageKeeper$Solver", "learnNeeds", "(I)V"⟩, 13) := ⟨⟨by decide +kernel, by decide +kernel⟩, List.mem_of_getElem? (i := 107) (by decide +kernel), List.mem_of_getElem? (i := 621) (by decide +kernel), List.mem_of_getElem? (i := 622) (by decide +kernel)⟩
theorem lw_p13 : lw_okq (⟨"PackageKeeper$Solver", "groupOf", "(J)I"⟩, 13) := ⟨⟨by decide +kernel, by decide +kernel⟩, List.mem_of_getElem? (i := 107) (by decide +kernel), List.mem_of_getElem? (i := 630) (by decide +kernel), List.mem_of_getElem? (i := 631) (by decide +kernel)⟩
theorem lw_p14 : lw_okq (⟨"PackageKeeper$Solver", "inRange", "(ILPackageKeeper$Range;)I"⟩, 13) := ⟨⟨by decide +kernel, by decide +kernel⟩, List.mem_of_getElem? (i := 107) (by decide +kernel), List.mem_of_getElem? (i := 638) (by decide +kernel), List.mem_of_getElem? (i := 639) (by decide +kernel)⟩
theorem lw_p15 : lw_okq (⟨"PackageKeeper$Solver", "addRivals", "(II)V"⟩, 13) := ⟨⟨by decide +kernel, by decide +kernel⟩, List.mem_of_getElem? (i := 107) (by decide +kernel), List.mem_of_getElem? (i := 652) (by decide +kernel), List.mem_of_getElem? (i := 653) (by decide +kernel)⟩
def lw_privs_1 : List (MethodName × Nat) := [(⟨"PackageKeeper$Reader", "nextWord", "()V"⟩, 4), (⟨"PackageKeeper$Reader", "isClauseWord", "()Z"⟩, 4), (⟨"PackageKeeper$Reader", "wordIs", "(Ljava/lang/String;)Z"⟩, 4), (⟨"PackageKeeper$Reader", "packed", "(II)J"⟩, 4), (⟨"PackageKeeper$Reader", "readVersionFrom", "(I)LPackageKeeper$Version;"⟩, 4), (⟨"PackageKeeper$Reader", "takeNumber", "()J"⟩, 4), (⟨"PackageKeeper$Reader", "numberAt", "(II)J"⟩, 4), (⟨"PackageKeeper$Reader", "takes", "(C)Z"⟩, 4), (⟨"PackageKeeper$Reader", "takeMark", "()J"⟩, 4), (⟨"PackageKeeper$Reader", "readTest", "()LPackageKeeper$Test;"⟩, 4), (⟨"PackageKeeper", "finishTape", "()Z"⟩, 6), (⟨"PackageKeeper$Solver", "learnGroups", "()V"⟩, 13), (⟨"PackageKeeper$Solver", "learnNeeds", "(I)V"⟩, 13), (⟨"PackageKeeper$Solver", "groupOf", "(J)I"⟩, 13), (⟨"PackageKeeper$Solver", "inRange", "(ILPackageKeeper$Range;)I"⟩, 13), (⟨"PackageKeeper$Solver", "addRivals", "(II)V"⟩, 13)]
theorem lw_r1 : ∀ q ∈ lw_privs_1, lw_okq q := List.forall_mem_cons.mpr ⟨lw_p0, List.forall_mem_cons.mpr ⟨lw_p1, List.forall_mem_cons.mpr ⟨lw_p2, List.forall_mem_cons.mpr ⟨lw_p3, List.forall_mem_cons.mpr ⟨lw_p4, List.forall_mem_cons.mpr ⟨lw_p5, List.forall_mem_cons.mpr ⟨lw_p6, List.forall_mem_cons.mpr ⟨lw_p7, List.forall_mem_cons.mpr ⟨lw_p8, List.forall_mem_cons.mpr ⟨lw_p9, List.forall_mem_cons.mpr ⟨lw_p10, List.forall_mem_cons.mpr ⟨lw_p11, List.forall_mem_cons.mpr ⟨lw_p12, List.forall_mem_cons.mpr ⟨lw_p13, List.forall_mem_cons.mpr ⟨lw_p14, List.forall_mem_cons.mpr ⟨lw_p15, fun _ h => absurd h List.not_mem_nil⟩⟩⟩⟩⟩⟩⟩⟩⟩⟩⟩⟩⟩⟩⟩⟩
theorem lw_p16 : lw_okq (⟨"PackageKeeper$Solver", "learnBreaks", "(I)V"⟩, 13) := ⟨⟨by decide +kernel, by decide +kernel⟩, List.mem_of_getElem? (i := 107) (by decide +kernel), List.mem_of_getElem? (i := 656) (by decide +kernel), List.mem_of_getElem? (i := 657) (by decide +kernel)⟩
theorem lw_p17 : lw_okq (⟨"PackageKeeper$Solver", "learnRoots", "()V"⟩, 13) := ⟨⟨by decide +kernel, by decide +kernel⟩, List.mem_of_getElem? (i := 107) (by decide +kernel), List.mem_of_getElem? (i := 660) (by decide +kernel), List.mem_of_getElem? (i := 661) (by decide +kernel)⟩
theorem lw_p18 : lw_okq (⟨"PackageKeeper$Solver", "choose", "(III)Z"⟩, 13) := ⟨⟨by decide +kernel, by decide +kernel⟩, List.mem_of_getElem? (i := 107) (by decide +kernel), List.mem_of_getElem? (i := 664) (by decide +kernel), List.mem_of_getElem? (i := 665) (by decide +kernel)⟩
theorem lw_p19 : lw_okq (⟨"PackageKeeper$Solver", "settled", "(I)I"⟩, 13) := ⟨⟨by decide +kernel, by decide +kernel⟩, List.mem_of_getElem? (i := 107) (by decide +kernel), List.mem_of_getElem? (i := 668) (by decide +kernel), List.mem_of_getElem? (i := 669) (by decide +kernel)⟩
theorem lw_p20 : lw_okq (⟨"PackageKeeper$Solver", "withNeedsMet", "(I)I"⟩, 13) := ⟨⟨by decide +kernel, by decide +kernel⟩, List.mem_of_getElem? (i := 107) (by decide +kernel), List.mem_of_getElem? (i := 672) (by decide +kernel), List.mem_of_getElem? (i := 673) (by decide +kernel)⟩
theorem lw_p21 : lw_okq (⟨"PackageKeeper$Solver", "canMeetNeeds", "(II)Z"⟩, 13) := ⟨⟨by decide +kernel, by decide +kernel⟩, List.mem_of_getElem? (i := 107) (by decide +kernel), List.mem_of_getElem? (i := 676) (by decide +kernel), List.mem_of_getElem? (i := 677) (by decide +kernel)⟩
theorem lw_p22 : lw_okq (⟨"PackageKeeper$Solver", "reached", "(I)I"⟩, 13) := ⟨⟨by decide +kernel, by decide +kernel⟩, List.mem_of_getElem? (i := 107) (by decide +kernel), List.mem_of_getElem? (i := 680) (by decide +kernel), List.mem_of_getElem? (i := 681) (by decide +kernel)⟩
theorem lw_p23 : lw_okq (⟨"PackageKeeper$Solver", "membersOf", "(I)I"⟩, 13) := ⟨⟨by decide +kernel, by decide +kernel⟩, List.mem_of_getElem? (i := 107) (by decide +kernel), List.mem_of_getElem? (i := 684) (by decide +kernel), List.mem_of_getElem? (i := 685) (by decide +kernel)⟩
theorem lw_p24 : lw_okq (⟨"PackageKeeper$Solver", "meetsRoots", "(I)Z"⟩, 13) := ⟨⟨by decide +kernel, by decide +kernel⟩, List.mem_of_getElem? (i := 107) (by decide +kernel), List.mem_of_getElem? (i := 688) (by decide +kernel), List.mem_of_getElem? (i := 689) (by decide +kernel)⟩
theorem lw_p25 : lw_okq (⟨"PackageKeeper", "isStillValid", "(LPackageKeeper$Generation;)Z"⟩, 6) := ⟨⟨by decide +kernel, by decide +kernel⟩, List.mem_of_getElem? (i := 29) (by decide +kernel), List.mem_of_getElem? (i := 696) (by decide +kernel), List.mem_of_getElem? (i := 697) (by decide +kernel)⟩
theorem lw_p26 : lw_okq (⟨"PackageKeeper", "bestGeneration", "()LPackageKeeper$Generation;"⟩, 6) := ⟨⟨by decide +kernel, by decide +kernel⟩, List.mem_of_getElem? (i := 29) (by decide +kernel), List.mem_of_getElem? (i := 712) (by decide +kernel), List.mem_of_getElem? (i := 713) (by decide +kernel)⟩
theorem lw_p27 : lw_okq (⟨"PackageKeeper$History", "setSteps", "(LPackageKeeper$Generation;LPackageKeeper$Generation;)V"⟩, 6) := ⟨⟨by decide +kernel, by decide +kernel⟩, List.mem_of_getElem? (i := 154) (by decide +kernel), List.mem_of_getElem? (i := 746) (by decide +kernel), List.mem_of_getElem? (i := 747) (by decide +kernel)⟩
theorem lw_p28 : lw_okq (⟨"PackageKeeper$History", "addStep", "(II)V"⟩, 6) := ⟨⟨by decide +kernel, by decide +kernel⟩, List.mem_of_getElem? (i := 154) (by decide +kernel), List.mem_of_getElem? (i := 756) (by decide +kernel), List.mem_of_getElem? (i := 757) (by decide +kernel)⟩
theorem lw_p29 : lw_okq (⟨"PackageKeeperModel", "put", "(I)V"⟩, 24) := ⟨⟨by decide +kernel, by decide +kernel⟩, List.mem_of_getElem? (i := 836) (by decide +kernel), List.mem_of_getElem? (i := 947) (by decide +kernel), List.mem_of_getElem? (i := 948) (by decide +kernel)⟩
theorem lw_p30 : lw_okq (⟨"PackageKeeperModel", "readRelease", "()LPackageKeeperModel$Release;"⟩, 24) := ⟨⟨by decide +kernel, by decide +kernel⟩, List.mem_of_getElem? (i := 836) (by decide +kernel), List.mem_of_getElem? (i := 959) (by decide +kernel), List.mem_of_getElem? (i := 960) (by decide +kernel)⟩
theorem lw_p31 : lw_okq (⟨"PackageKeeperModel", "readWords", "()V"⟩, 24) := ⟨⟨by decide +kernel, by decide +kernel⟩, List.mem_of_getElem? (i := 836) (by decide +kernel), List.mem_of_getElem? (i := 963) (by decide +kernel), List.mem_of_getElem? (i := 964) (by decide +kernel)⟩
def lw_privs_2 : List (MethodName × Nat) := [(⟨"PackageKeeper$Solver", "learnBreaks", "(I)V"⟩, 13), (⟨"PackageKeeper$Solver", "learnRoots", "()V"⟩, 13), (⟨"PackageKeeper$Solver", "choose", "(III)Z"⟩, 13), (⟨"PackageKeeper$Solver", "settled", "(I)I"⟩, 13), (⟨"PackageKeeper$Solver", "withNeedsMet", "(I)I"⟩, 13), (⟨"PackageKeeper$Solver", "canMeetNeeds", "(II)Z"⟩, 13), (⟨"PackageKeeper$Solver", "reached", "(I)I"⟩, 13), (⟨"PackageKeeper$Solver", "membersOf", "(I)I"⟩, 13), (⟨"PackageKeeper$Solver", "meetsRoots", "(I)Z"⟩, 13), (⟨"PackageKeeper", "isStillValid", "(LPackageKeeper$Generation;)Z"⟩, 6), (⟨"PackageKeeper", "bestGeneration", "()LPackageKeeper$Generation;"⟩, 6), (⟨"PackageKeeper$History", "setSteps", "(LPackageKeeper$Generation;LPackageKeeper$Generation;)V"⟩, 6), (⟨"PackageKeeper$History", "addStep", "(II)V"⟩, 6), (⟨"PackageKeeperModel", "put", "(I)V"⟩, 24), (⟨"PackageKeeperModel", "readRelease", "()LPackageKeeperModel$Release;"⟩, 24), (⟨"PackageKeeperModel", "readWords", "()V"⟩, 24)]
theorem lw_r2 : ∀ q ∈ lw_privs_2, lw_okq q := List.forall_mem_cons.mpr ⟨lw_p16, List.forall_mem_cons.mpr ⟨lw_p17, List.forall_mem_cons.mpr ⟨lw_p18, List.forall_mem_cons.mpr ⟨lw_p19, List.forall_mem_cons.mpr ⟨lw_p20, List.forall_mem_cons.mpr ⟨lw_p21, List.forall_mem_cons.mpr ⟨lw_p22, List.forall_mem_cons.mpr ⟨lw_p23, List.forall_mem_cons.mpr ⟨lw_p24, List.forall_mem_cons.mpr ⟨lw_p25, List.forall_mem_cons.mpr ⟨lw_p26, List.forall_mem_cons.mpr ⟨lw_p27, List.forall_mem_cons.mpr ⟨lw_p28, List.forall_mem_cons.mpr ⟨lw_p29, List.forall_mem_cons.mpr ⟨lw_p30, List.forall_mem_cons.mpr ⟨lw_p31, fun _ h => absurd h List.not_mem_nil⟩⟩⟩⟩⟩⟩⟩⟩⟩⟩⟩⟩⟩⟩⟩⟩
theorem lw_p32 : lw_okq (⟨"PackageKeeperModel", "here", "()Ljava/lang/String;"⟩, 24) := ⟨⟨by decide +kernel, by decide +kernel⟩, List.mem_of_getElem? (i := 836) (by decide +kernel), List.mem_of_getElem? (i := 1173) (by decide +kernel), List.mem_of_getElem? (i := 1174) (by decide +kernel)⟩
theorem lw_p33 : lw_okq (⟨"PackageKeeperModel", "range", "()LPackageKeeperModel$Range;"⟩, 24) := ⟨⟨by decide +kernel, by decide +kernel⟩, List.mem_of_getElem? (i := 836) (by decide +kernel), List.mem_of_getElem? (i := 1181) (by decide +kernel), List.mem_of_getElem? (i := 1182) (by decide +kernel)⟩
theorem lw_p34 : lw_okq (⟨"PackageKeeperModel", "ends", "()Z"⟩, 24) := ⟨⟨by decide +kernel, by decide +kernel⟩, List.mem_of_getElem? (i := 836) (by decide +kernel), List.mem_of_getElem? (i := 1208) (by decide +kernel), List.mem_of_getElem? (i := 1209) (by decide +kernel)⟩
theorem lw_p35 : lw_okq (⟨"PackageKeeperModel", "listNames", "()V"⟩, 24) := ⟨⟨by decide +kernel, by decide +kernel⟩, List.mem_of_getElem? (i := 836) (by decide +kernel), List.mem_of_getElem? (i := 1275) (by decide +kernel), List.mem_of_getElem? (i := 1276) (by decide +kernel)⟩
theorem lw_p36 : lw_okq (⟨"PackageKeeperModel", "rootOf", "(Ljava/lang/String;)I"⟩, 24) := ⟨⟨by decide +kernel, by decide +kernel⟩, List.mem_of_getElem? (i := 836) (by decide +kernel), List.mem_of_getElem? (i := 1290) (by decide +kernel), List.mem_of_getElem? (i := 1291) (by decide +kernel)⟩
theorem lw_p37 : lw_okq (⟨"PackageKeeperModel", "find", "()V"⟩, 24) := ⟨⟨by decide +kernel, by decide +kernel⟩, List.mem_of_getElem? (i := 836) (by decide +kernel), List.mem_of_getElem? (i := 1302) (by decide +kernel), List.mem_of_getElem? (i := 1303) (by decide +kernel)⟩
theorem lw_p38 : lw_okq (⟨"PackageKeeperModel", "search", "(I)Z"⟩, 24) := ⟨⟨by decide +kernel, by decide +kernel⟩, List.mem_of_getElem? (i := 836) (by decide +kernel), List.mem_of_getElem? (i := 1306) (by decide +kernel), List.mem_of_getElem? (i := 1307) (by decide +kernel)⟩
theorem lw_p39 : lw_okq (⟨"PackageKeeperModel", "valid", "([LPackageKeeperModel$Release;I)Z"⟩, 24) := ⟨⟨by decide +kernel, by decide +kernel⟩, List.mem_of_getElem? (i := 836) (by decide +kernel), List.mem_of_getElem? (i := 1310) (by decide +kernel), List.mem_of_getElem? (i := 1311) (by decide +kernel)⟩
theorem lw_p40 : lw_okq (⟨"PackageKeeperModel", "allReached", "([LPackageKeeperModel$Release;I)Z"⟩, 24) := ⟨⟨by decide +kernel, by decide +kernel⟩, List.mem_of_getElem? (i := 836) (by decide +kernel), List.mem_of_getElem? (i := 1326) (by decide +kernel), List.mem_of_getElem? (i := 1327) (by decide +kernel)⟩
theorem lw_p41 : lw_okq (⟨"PackageKeeperModel", "hopeful", "(I)Z"⟩, 24) := ⟨⟨by decide +kernel, by decide +kernel⟩, List.mem_of_getElem? (i := 836) (by decide +kernel), List.mem_of_getElem? (i := 1330) (by decide +kernel), List.mem_of_getElem? (i := 1331) (by decide +kernel)⟩
theorem lw_p42 : lw_okq (⟨"PackageKeeperModel", "newest", "(Ljava/lang/String;LPackageKeeperModel$Release;)LPackageKeeperModel$Release;"⟩, 24) := ⟨⟨by decide +kernel, by decide +kernel⟩, List.mem_of_getElem? (i := 836) (by decide +kernel), List.mem_of_getElem? (i := 1334) (by decide +kernel), List.mem_of_getElem? (i := 1335) (by decide +kernel)⟩
theorem lw_p43 : lw_okq (⟨"PackageKeeperModel", "current", "()LPackageKeeperModel$Generation;"⟩, 24) := ⟨⟨by decide +kernel, by decide +kernel⟩, List.mem_of_getElem? (i := 836) (by decide +kernel), List.mem_of_getElem? (i := 1342) (by decide +kernel), List.mem_of_getElem? (i := 1343) (by decide +kernel)⟩
theorem lw_p44 : lw_okq (⟨"PackageKeeperModel", "inIndex", "(LPackageKeeperModel$Release;)Z"⟩, 24) := ⟨⟨by decide +kernel, by decide +kernel⟩, List.mem_of_getElem? (i := 836) (by decide +kernel), List.mem_of_getElem? (i := 1346) (by decide +kernel), List.mem_of_getElem? (i := 1347) (by decide +kernel)⟩
theorem lw_p45 : lw_okq (⟨"PackageKeeperModel", "arranged", "([LPackageKeeperModel$Release;I)LPackageKeeperModel$Generation;"⟩, 24) := ⟨⟨by decide +kernel, by decide +kernel⟩, List.mem_of_getElem? (i := 836) (by decide +kernel), List.mem_of_getElem? (i := 1353) (by decide +kernel), List.mem_of_getElem? (i := 1354) (by decide +kernel)⟩
theorem lw_p46 : lw_okq (⟨"PackageKeeperModel", "walk", "(LPackageKeeperModel$Generation;LPackageKeeperModel$Generation;)V"⟩, 24) := ⟨⟨by decide +kernel, by decide +kernel⟩, List.mem_of_getElem? (i := 836) (by decide +kernel), List.mem_of_getElem? (i := 1360) (by decide +kernel), List.mem_of_getElem? (i := 1361) (by decide +kernel)⟩
def lw_privs_3 : List (MethodName × Nat) := [(⟨"PackageKeeperModel", "here", "()Ljava/lang/String;"⟩, 24), (⟨"PackageKeeperModel", "range", "()LPackageKeeperModel$Range;"⟩, 24), (⟨"PackageKeeperModel", "ends", "()Z"⟩, 24), (⟨"PackageKeeperModel", "listNames", "()V"⟩, 24), (⟨"PackageKeeperModel", "rootOf", "(Ljava/lang/String;)I"⟩, 24), (⟨"PackageKeeperModel", "find", "()V"⟩, 24), (⟨"PackageKeeperModel", "search", "(I)Z"⟩, 24), (⟨"PackageKeeperModel", "valid", "([LPackageKeeperModel$Release;I)Z"⟩, 24), (⟨"PackageKeeperModel", "allReached", "([LPackageKeeperModel$Release;I)Z"⟩, 24), (⟨"PackageKeeperModel", "hopeful", "(I)Z"⟩, 24), (⟨"PackageKeeperModel", "newest", "(Ljava/lang/String;LPackageKeeperModel$Release;)LPackageKeeperModel$Release;"⟩, 24), (⟨"PackageKeeperModel", "current", "()LPackageKeeperModel$Generation;"⟩, 24), (⟨"PackageKeeperModel", "inIndex", "(LPackageKeeperModel$Release;)Z"⟩, 24), (⟨"PackageKeeperModel", "arranged", "([LPackageKeeperModel$Release;I)LPackageKeeperModel$Generation;"⟩, 24), (⟨"PackageKeeperModel", "walk", "(LPackageKeeperModel$Generation;LPackageKeeperModel$Generation;)V"⟩, 24)]
theorem lw_r3 : ∀ q ∈ lw_privs_3, lw_okq q := List.forall_mem_cons.mpr ⟨lw_p32, List.forall_mem_cons.mpr ⟨lw_p33, List.forall_mem_cons.mpr ⟨lw_p34, List.forall_mem_cons.mpr ⟨lw_p35, List.forall_mem_cons.mpr ⟨lw_p36, List.forall_mem_cons.mpr ⟨lw_p37, List.forall_mem_cons.mpr ⟨lw_p38, List.forall_mem_cons.mpr ⟨lw_p39, List.forall_mem_cons.mpr ⟨lw_p40, List.forall_mem_cons.mpr ⟨lw_p41, List.forall_mem_cons.mpr ⟨lw_p42, List.forall_mem_cons.mpr ⟨lw_p43, List.forall_mem_cons.mpr ⟨lw_p44, List.forall_mem_cons.mpr ⟨lw_p45, List.forall_mem_cons.mpr ⟨lw_p46, fun _ h => absurd h List.not_mem_nil⟩⟩⟩⟩⟩⟩⟩⟩⟩⟩⟩⟩⟩⟩⟩
def lw_privs : List (MethodName × Nat) := lw_privs_1 ++ (lw_privs_2 ++ (lw_privs_3))
def lw_tbl : List Cond := k2_sels lw_privs ++ tables_1
theorem lw_privs_ok : ∀ q ∈ lw_privs, lw_okq q := by
  show ∀ q ∈ lw_privs_1 ++ (lw_privs_2 ++ (lw_privs_3)), lw_okq q
  exact List.forall_mem_append.mpr ⟨lw_r1, List.forall_mem_append.mpr ⟨lw_r2, lw_r3⟩⟩
end
section
/-! THE LAW'S START: the pure machine's words are the Statement's; a pure run of the law is the claim's walk. -/
def st_b (ps : List Nat) (l : List Jvm.Cond) : Bool := decide (l.length = ps.length) && (l.zip ps).all (fun q => decide (lw_tbl[q.2]? = some q.1))
theorem st_in {ps : List Nat} {l : List Jvm.Cond} (h : st_b ps l = true) : ∀ w ∈ l, w ∈ lw_tbl := by
  unfold st_b at h
  rw [Bool.and_eq_true] at h
  obtain ⟨h1, h2⟩ := h
  have h1 := of_decide_eq_true h1
  intro w hw
  obtain ⟨i, hi⟩ := List.getElem?_of_mem hw
  have hl := (List.getElem?_eq_some_iff.mp hi).1
  obtain ⟨j, hj⟩ : ∃ j, ps[i]? = some j := ⟨_, List.getElem?_eq_getElem (by omega)⟩
  have hz : (l.zip ps)[i]? = some (w, j) := by rw [List.getElem?_zip_eq_some]; exact ⟨hi, hj⟩
  exact List.mem_of_getElem? (of_decide_eq_true (List.all_eq_true.mp h2 _ (List.mem_of_getElem? hz)))
def tb_mt (M : Nat) : List Jvm.Cond := (tb_mw M).drop 1
theorem st_m0 : st_b [48, 78, 49, 86, 50, 100, 51, 119, 52, 137, 53, 156, 54, 203, 55, 211, 55, 216, 52, 219, 220, 48, 223, 55, 226, 55, 229, 48, 280, 281, 49, 284, 285, 49, 288, 289, 49, 292, 293, 48, 296, 297, 49, 300, 301, 48, 304, 305, 50, 308, 309, 50, 313, 0, 49, 317, 318, 51, 321, 322, 50, 325, 326, 50, 329, 330, 50, 334, 1, 50, 339, 2, 58, 342, 343, 58, 346, 347] ((List.range 30).flatMap (fun i => tb_mt (i + 0))) = true := by decide +kernel
theorem st_m1 : st_b [50, 393, 3, 50, 396, 397, 50, 401, 4, 50, 405, 5, 50, 408, 50, 413, 6, 50, 418, 7, 62, 423, 50, 435, 8, 50, 438, 62, 441, 442, 63, 447, 50, 488, 489, 50, 492, 493, 64, 498, 50, 515, 9, 65, 521, 62, 538, 539, 62, 544, 545, 64, 549, 550, 64, 554, 555, 52, 558, 559, 50, 562, 563, 63, 566, 567, 48, 574, 10, 51, 578, 579, 63, 582, 583, 67, 586, 62, 589, 590, 51, 593, 594] ((List.range 30).flatMap (fun i => tb_mt (i + 30))) = true := by decide +kernel
theorem st_m2 : st_b [51, 597, 598, 51, 601, 602, 53, 605, 606, 48, 609, 610, 51, 613, 614, 51, 617, 618, 51, 621, 622, 48, 625, 626, 52, 631, 632, 52, 637, 638, 48, 641, 642, 52, 646, 647, 48, 650, 651, 53, 654, 655, 53, 659, 11, 51, 664, 665, 53, 669, 12, 52, 673, 674, 53, 678, 13, 52, 681, 682, 53, 686, 14, 64, 690, 691, 65, 694, 695, 53, 700, 15, 53, 704, 16, 53, 708, 17, 53, 712, 18, 53, 716, 19, 53, 720, 20, 53, 724, 21] ((List.range 30).flatMap (fun i => tb_mt (i + 60))) = true := by decide +kernel
theorem st_m3 : st_b [53, 728, 22, 53, 732, 23, 53, 736, 24, 54, 739, 740, 48, 744, 25, 55, 747, 748, 55, 751, 752, 53, 755, 756, 48, 760, 26, 53, 763, 764, 53, 767, 768, 55, 776, 777, 63, 780, 781, 63, 784, 785, 54, 788, 789, 54, 794, 27, 55, 799, 800, 54, 804, 28, 48, 807, 808, 54, 811, 812, 54, 815, 816, 48, 820, 821, 74, 824, 48, 830, 831, 55, 834, 835, 48, 838, 839, 54, 842, 843, 54, 846, 847, 54, 850, 851, 48, 854, 855] ((List.range 30).flatMap (fun i => tb_mt (i + 90))) = true := by decide +kernel
theorem st_m4 : st_b [48, 860, 861, 48, 866, 867, 48, 871, 872, 54, 875, 876, 54, 879, 880, 56, 885, 57, 898, 56, 990, 991, 56, 995, 29, 56, 998, 999, 56, 1002, 1003, 56, 1007, 30, 56, 1011, 31, 68, 1074, 56, 1119, 56, 1135, 69, 1140, 56, 1157, 56, 1211, 56, 1214, 56, 1217, 56, 1221, 32, 56, 1225, 56, 1229, 33, 72, 1233, 56, 1256, 34, 56, 1261, 56, 1312, 56, 1316, 56, 1319] ((List.range 30).flatMap (fun i => tb_mt (i + 120))) = true := by decide +kernel
theorem st_m5 : st_b [56, 1323, 35, 56, 1326, 56, 1329, 1330, 56, 1333, 1334, 56, 1338, 36, 56, 1341, 1342, 56, 1345, 1346, 56, 1350, 37, 56, 1354, 38, 56, 1358, 39, 56, 1361, 56, 1364, 56, 1367, 56, 1370, 56, 1374, 40, 56, 1378, 41, 56, 1382, 42, 56, 1385, 1386, 56, 1390, 43, 56, 1394, 44, 56, 1397, 56, 1401, 45, 56, 1404, 56, 1408, 46, 57, 1411, 1412, 56, 1415, 1416, 56, 1419, 1420, 56, 1423, 1424, 56, 1427, 1428, 56, 1431, 1432] ((List.range 30).flatMap (fun i => tb_mt (i + 150))) = true := by decide +kernel
theorem st_m6 : st_b [56, 1435, 1436, 56, 1439, 1440] ((List.range 2).flatMap (fun i => tb_mt (i + 180))) = true := by decide +kernel
theorem st_c0 : lw_tbl[79]? = some (Jvm.Cond.code (tb_y 0) (tb_code 0) (tb_max 0) (tb_ret 0)) := by decide +kernel
theorem st_c1 : lw_tbl[87]? = some (Jvm.Cond.code (tb_y 1) (tb_code 1) (tb_max 1) (tb_ret 1)) := by decide +kernel
theorem st_c2 : lw_tbl[101]? = some (Jvm.Cond.code (tb_y 2) (tb_code 2) (tb_max 2) (tb_ret 2)) := by decide +kernel
theorem st_c3 : lw_tbl[120]? = some (Jvm.Cond.code (tb_y 3) (tb_code 3) (tb_max 3) (tb_ret 3)) := by decide +kernel
theorem st_c4 : lw_tbl[138]? = some (Jvm.Cond.code (tb_y 4) (tb_code 4) (tb_max 4) (tb_ret 4)) := by decide +kernel
theorem st_c5 : lw_tbl[157]? = some (Jvm.Cond.code (tb_y 5) (tb_code 5) (tb_max 5) (tb_ret 5)) := by decide +kernel
theorem st_c6 : lw_tbl[204]? = some (Jvm.Cond.code (tb_y 6) (tb_code 6) (tb_max 6) (tb_ret 6)) := by decide +kernel
theorem st_c7 : lw_tbl[212]? = some (Jvm.Cond.code (tb_y 7) (tb_code 7) (tb_max 7) (tb_ret 7)) := by decide +kernel
theorem st_c8 : lw_tbl[217]? = some (Jvm.Cond.code (tb_y 8) (tb_code 8) (tb_max 8) (tb_ret 8)) := by decide +kernel
theorem st_c9 : lw_tbl[221]? = some (Jvm.Cond.code (tb_y 9) (tb_code 9) (tb_max 9) (tb_ret 9)) := by decide +kernel
theorem st_c10 : lw_tbl[224]? = some (Jvm.Cond.code (tb_y 10) (tb_code 10) (tb_max 10) (tb_ret 10)) := by decide +kernel
theorem st_c11 : lw_tbl[227]? = some (Jvm.Cond.code (tb_y 11) (tb_code 11) (tb_max 11) (tb_ret 11)) := by decide +kernel
theorem st_c12 : lw_tbl[230]? = some (Jvm.Cond.code (tb_y 12) (tb_code 12) (tb_max 12) (tb_ret 12)) := by decide +kernel
theorem st_c13 : lw_tbl[282]? = some (Jvm.Cond.code (tb_y 13) (tb_code 13) (tb_max 13) (tb_ret 13)) := by decide +kernel
theorem st_c14 : lw_tbl[286]? = some (Jvm.Cond.code (tb_y 14) (tb_code 14) (tb_max 14) (tb_ret 14)) := by decide +kernel
theorem st_c15 : lw_tbl[290]? = some (Jvm.Cond.code (tb_y 15) (tb_code 15) (tb_max 15) (tb_ret 15)) := by decide +kernel
theorem st_c16 : lw_tbl[294]? = some (Jvm.Cond.code (tb_y 16) (tb_code 16) (tb_max 16) (tb_ret 16)) := by decide +kernel
theorem st_c17 : lw_tbl[298]? = some (Jvm.Cond.code (tb_y 17) (tb_code 17) (tb_max 17) (tb_ret 17)) := by decide +kernel
theorem st_c18 : lw_tbl[302]? = some (Jvm.Cond.code (tb_y 18) (tb_code 18) (tb_max 18) (tb_ret 18)) := by decide +kernel
theorem st_c19 : lw_tbl[306]? = some (Jvm.Cond.code (tb_y 19) (tb_code 19) (tb_max 19) (tb_ret 19)) := by decide +kernel
theorem st_c20 : lw_tbl[310]? = some (Jvm.Cond.code (tb_y 20) (tb_code 20) (tb_max 20) (tb_ret 20)) := by decide +kernel
theorem st_c21 : lw_tbl[314]? = some (Jvm.Cond.code (tb_y 21) (tb_code 21) (tb_max 21) (tb_ret 21)) := by decide +kernel
theorem st_c22 : lw_tbl[319]? = some (Jvm.Cond.code (tb_y 22) (tb_code 22) (tb_max 22) (tb_ret 22)) := by decide +kernel
theorem st_c23 : lw_tbl[323]? = some (Jvm.Cond.code (tb_y 23) (tb_code 23) (tb_max 23) (tb_ret 23)) := by decide +kernel
theorem st_c24 : lw_tbl[327]? = some (Jvm.Cond.code (tb_y 24) (tb_code 24) (tb_max 24) (tb_ret 24)) := by decide +kernel
theorem st_c25 : lw_tbl[331]? = some (Jvm.Cond.code (tb_y 25) (tb_code 25) (tb_max 25) (tb_ret 25)) := by decide +kernel
theorem st_c26 : lw_tbl[335]? = some (Jvm.Cond.code (tb_y 26) (tb_code 26) (tb_max 26) (tb_ret 26)) := by decide +kernel
theorem st_c27 : lw_tbl[340]? = some (Jvm.Cond.code (tb_y 27) (tb_code 27) (tb_max 27) (tb_ret 27)) := by decide +kernel
theorem st_c28 : lw_tbl[344]? = some (Jvm.Cond.code (tb_y 28) (tb_code 28) (tb_max 28) (tb_ret 28)) := by decide +kernel
theorem st_c29 : lw_tbl[348]? = some (Jvm.Cond.code (tb_y 29) (tb_code 29) (tb_max 29) (tb_ret 29)) := by decide +kernel
theorem st_c30 : lw_tbl[394]? = some (Jvm.Cond.code (tb_y 30) (tb_code 30) (tb_max 30) (tb_ret 30)) := by decide +kernel
theorem st_c31 : lw_tbl[398]? = some (Jvm.Cond.code (tb_y 31) (tb_code 31) (tb_max 31) (tb_ret 31)) := by decide +kernel
theorem st_c32 : lw_tbl[402]? = some (Jvm.Cond.code (tb_y 32) (tb_code 32) (tb_max 32) (tb_ret 32)) := by decide +kernel
theorem st_c33 : lw_tbl[406]? = some (Jvm.Cond.code (tb_y 33) (tb_code 33) (tb_max 33) (tb_ret 33)) := by decide +kernel
theorem st_c34 : lw_tbl[409]? = some (Jvm.Cond.code (tb_y 34) (tb_code 34) (tb_max 34) (tb_ret 34)) := by decide +kernel
theorem st_c35 : lw_tbl[414]? = some (Jvm.Cond.code (tb_y 35) (tb_code 35) (tb_max 35) (tb_ret 35)) := by decide +kernel
theorem st_c36 : lw_tbl[419]? = some (Jvm.Cond.code (tb_y 36) (tb_code 36) (tb_max 36) (tb_ret 36)) := by decide +kernel
theorem st_c37 : lw_tbl[424]? = some (Jvm.Cond.code (tb_y 37) (tb_code 37) (tb_max 37) (tb_ret 37)) := by decide +kernel
theorem st_c38 : lw_tbl[436]? = some (Jvm.Cond.code (tb_y 38) (tb_code 38) (tb_max 38) (tb_ret 38)) := by decide +kernel
theorem st_c39 : lw_tbl[439]? = some (Jvm.Cond.code (tb_y 39) (tb_code 39) (tb_max 39) (tb_ret 39)) := by decide +kernel
theorem st_c40 : lw_tbl[443]? = some (Jvm.Cond.code (tb_y 40) (tb_code 40) (tb_max 40) (tb_ret 40)) := by decide +kernel
theorem st_c41 : lw_tbl[448]? = some (Jvm.Cond.code (tb_y 41) (tb_code 41) (tb_max 41) (tb_ret 41)) := by decide +kernel
theorem st_c42 : lw_tbl[490]? = some (Jvm.Cond.code (tb_y 42) (tb_code 42) (tb_max 42) (tb_ret 42)) := by decide +kernel
theorem st_c43 : lw_tbl[494]? = some (Jvm.Cond.code (tb_y 43) (tb_code 43) (tb_max 43) (tb_ret 43)) := by decide +kernel
theorem st_c44 : lw_tbl[499]? = some (Jvm.Cond.code (tb_y 44) (tb_code 44) (tb_max 44) (tb_ret 44)) := by decide +kernel
theorem st_c45 : lw_tbl[516]? = some (Jvm.Cond.code (tb_y 45) (tb_code 45) (tb_max 45) (tb_ret 45)) := by decide +kernel
theorem st_c46 : lw_tbl[522]? = some (Jvm.Cond.code (tb_y 46) (tb_code 46) (tb_max 46) (tb_ret 46)) := by decide +kernel
theorem st_c47 : lw_tbl[540]? = some (Jvm.Cond.code (tb_y 47) (tb_code 47) (tb_max 47) (tb_ret 47)) := by decide +kernel
theorem st_c48 : lw_tbl[546]? = some (Jvm.Cond.code (tb_y 48) (tb_code 48) (tb_max 48) (tb_ret 48)) := by decide +kernel
theorem st_c49 : lw_tbl[551]? = some (Jvm.Cond.code (tb_y 49) (tb_code 49) (tb_max 49) (tb_ret 49)) := by decide +kernel
theorem st_c50 : lw_tbl[556]? = some (Jvm.Cond.code (tb_y 50) (tb_code 50) (tb_max 50) (tb_ret 50)) := by decide +kernel
theorem st_c51 : lw_tbl[560]? = some (Jvm.Cond.code (tb_y 51) (tb_code 51) (tb_max 51) (tb_ret 51)) := by decide +kernel
theorem st_c52 : lw_tbl[564]? = some (Jvm.Cond.code (tb_y 52) (tb_code 52) (tb_max 52) (tb_ret 52)) := by decide +kernel
theorem st_c53 : lw_tbl[568]? = some (Jvm.Cond.code (tb_y 53) (tb_code 53) (tb_max 53) (tb_ret 53)) := by decide +kernel
theorem st_c54 : lw_tbl[575]? = some (Jvm.Cond.code (tb_y 54) (tb_code 54) (tb_max 54) (tb_ret 54)) := by decide +kernel
theorem st_c55 : lw_tbl[580]? = some (Jvm.Cond.code (tb_y 55) (tb_code 55) (tb_max 55) (tb_ret 55)) := by decide +kernel
theorem st_c56 : lw_tbl[584]? = some (Jvm.Cond.code (tb_y 56) (tb_code 56) (tb_max 56) (tb_ret 56)) := by decide +kernel
theorem st_c57 : lw_tbl[587]? = some (Jvm.Cond.code (tb_y 57) (tb_code 57) (tb_max 57) (tb_ret 57)) := by decide +kernel
theorem st_c58 : lw_tbl[591]? = some (Jvm.Cond.code (tb_y 58) (tb_code 58) (tb_max 58) (tb_ret 58)) := by decide +kernel
theorem st_c59 : lw_tbl[595]? = some (Jvm.Cond.code (tb_y 59) (tb_code 59) (tb_max 59) (tb_ret 59)) := by decide +kernel
theorem st_c60 : lw_tbl[599]? = some (Jvm.Cond.code (tb_y 60) (tb_code 60) (tb_max 60) (tb_ret 60)) := by decide +kernel
theorem st_c61 : lw_tbl[603]? = some (Jvm.Cond.code (tb_y 61) (tb_code 61) (tb_max 61) (tb_ret 61)) := by decide +kernel
theorem st_c62 : lw_tbl[607]? = some (Jvm.Cond.code (tb_y 62) (tb_code 62) (tb_max 62) (tb_ret 62)) := by decide +kernel
theorem st_c63 : lw_tbl[611]? = some (Jvm.Cond.code (tb_y 63) (tb_code 63) (tb_max 63) (tb_ret 63)) := by decide +kernel
theorem st_c64 : lw_tbl[615]? = some (Jvm.Cond.code (tb_y 64) (tb_code 64) (tb_max 64) (tb_ret 64)) := by decide +kernel
theorem st_c65 : lw_tbl[619]? = some (Jvm.Cond.code (tb_y 65) (tb_code 65) (tb_max 65) (tb_ret 65)) := by decide +kernel
theorem st_c66 : lw_tbl[623]? = some (Jvm.Cond.code (tb_y 66) (tb_code 66) (tb_max 66) (tb_ret 66)) := by decide +kernel
theorem st_c67 : lw_tbl[627]? = some (Jvm.Cond.code (tb_y 67) (tb_code 67) (tb_max 67) (tb_ret 67)) := by decide +kernel
theorem st_c68 : lw_tbl[633]? = some (Jvm.Cond.code (tb_y 68) (tb_code 68) (tb_max 68) (tb_ret 68)) := by decide +kernel
theorem st_c69 : lw_tbl[639]? = some (Jvm.Cond.code (tb_y 69) (tb_code 69) (tb_max 69) (tb_ret 69)) := by decide +kernel
theorem st_c70 : lw_tbl[643]? = some (Jvm.Cond.code (tb_y 70) (tb_code 70) (tb_max 70) (tb_ret 70)) := by decide +kernel
theorem st_c71 : lw_tbl[648]? = some (Jvm.Cond.code (tb_y 71) (tb_code 71) (tb_max 71) (tb_ret 71)) := by decide +kernel
theorem st_c72 : lw_tbl[652]? = some (Jvm.Cond.code (tb_y 72) (tb_code 72) (tb_max 72) (tb_ret 72)) := by decide +kernel
theorem st_c73 : lw_tbl[656]? = some (Jvm.Cond.code (tb_y 73) (tb_code 73) (tb_max 73) (tb_ret 73)) := by decide +kernel
theorem st_c74 : lw_tbl[660]? = some (Jvm.Cond.code (tb_y 74) (tb_code 74) (tb_max 74) (tb_ret 74)) := by decide +kernel
theorem st_c75 : lw_tbl[666]? = some (Jvm.Cond.code (tb_y 75) (tb_code 75) (tb_max 75) (tb_ret 75)) := by decide +kernel
theorem st_c76 : lw_tbl[670]? = some (Jvm.Cond.code (tb_y 76) (tb_code 76) (tb_max 76) (tb_ret 76)) := by decide +kernel
theorem st_c77 : lw_tbl[675]? = some (Jvm.Cond.code (tb_y 77) (tb_code 77) (tb_max 77) (tb_ret 77)) := by decide +kernel
theorem st_c78 : lw_tbl[679]? = some (Jvm.Cond.code (tb_y 78) (tb_code 78) (tb_max 78) (tb_ret 78)) := by decide +kernel
theorem st_c79 : lw_tbl[683]? = some (Jvm.Cond.code (tb_y 79) (tb_code 79) (tb_max 79) (tb_ret 79)) := by decide +kernel
theorem st_c80 : lw_tbl[687]? = some (Jvm.Cond.code (tb_y 80) (tb_code 80) (tb_max 80) (tb_ret 80)) := by decide +kernel
theorem st_c81 : lw_tbl[692]? = some (Jvm.Cond.code (tb_y 81) (tb_code 81) (tb_max 81) (tb_ret 81)) := by decide +kernel
theorem st_c82 : lw_tbl[696]? = some (Jvm.Cond.code (tb_y 82) (tb_code 82) (tb_max 82) (tb_ret 82)) := by decide +kernel
theorem st_c83 : lw_tbl[701]? = some (Jvm.Cond.code (tb_y 83) (tb_code 83) (tb_max 83) (tb_ret 83)) := by decide +kernel
theorem st_c84 : lw_tbl[705]? = some (Jvm.Cond.code (tb_y 84) (tb_code 84) (tb_max 84) (tb_ret 84)) := by decide +kernel
theorem st_c85 : lw_tbl[709]? = some (Jvm.Cond.code (tb_y 85) (tb_code 85) (tb_max 85) (tb_ret 85)) := by decide +kernel
theorem st_c86 : lw_tbl[713]? = some (Jvm.Cond.code (tb_y 86) (tb_code 86) (tb_max 86) (tb_ret 86)) := by decide +kernel
theorem st_c87 : lw_tbl[717]? = some (Jvm.Cond.code (tb_y 87) (tb_code 87) (tb_max 87) (tb_ret 87)) := by decide +kernel
theorem st_c88 : lw_tbl[721]? = some (Jvm.Cond.code (tb_y 88) (tb_code 88) (tb_max 88) (tb_ret 88)) := by decide +kernel
theorem st_c89 : lw_tbl[725]? = some (Jvm.Cond.code (tb_y 89) (tb_code 89) (tb_max 89) (tb_ret 89)) := by decide +kernel
theorem st_c90 : lw_tbl[729]? = some (Jvm.Cond.code (tb_y 90) (tb_code 90) (tb_max 90) (tb_ret 90)) := by decide +kernel
theorem st_c91 : lw_tbl[733]? = some (Jvm.Cond.code (tb_y 91) (tb_code 91) (tb_max 91) (tb_ret 91)) := by decide +kernel
theorem st_c92 : lw_tbl[737]? = some (Jvm.Cond.code (tb_y 92) (tb_code 92) (tb_max 92) (tb_ret 92)) := by decide +kernel
theorem st_c93 : lw_tbl[741]? = some (Jvm.Cond.code (tb_y 93) (tb_code 93) (tb_max 93) (tb_ret 93)) := by decide +kernel
theorem st_c94 : lw_tbl[745]? = some (Jvm.Cond.code (tb_y 94) (tb_code 94) (tb_max 94) (tb_ret 94)) := by decide +kernel
theorem st_c95 : lw_tbl[749]? = some (Jvm.Cond.code (tb_y 95) (tb_code 95) (tb_max 95) (tb_ret 95)) := by decide +kernel
theorem st_c96 : lw_tbl[753]? = some (Jvm.Cond.code (tb_y 96) (tb_code 96) (tb_max 96) (tb_ret 96)) := by decide +kernel
theorem st_c97 : lw_tbl[757]? = some (Jvm.Cond.code (tb_y 97) (tb_code 97) (tb_max 97) (tb_ret 97)) := by decide +kernel
theorem st_c98 : lw_tbl[761]? = some (Jvm.Cond.code (tb_y 98) (tb_code 98) (tb_max 98) (tb_ret 98)) := by decide +kernel
theorem st_c99 : lw_tbl[765]? = some (Jvm.Cond.code (tb_y 99) (tb_code 99) (tb_max 99) (tb_ret 99)) := by decide +kernel
theorem st_c100 : lw_tbl[769]? = some (Jvm.Cond.code (tb_y 100) (tb_code 100) (tb_max 100) (tb_ret 100)) := by decide +kernel
theorem st_c101 : lw_tbl[778]? = some (Jvm.Cond.code (tb_y 101) (tb_code 101) (tb_max 101) (tb_ret 101)) := by decide +kernel
theorem st_c102 : lw_tbl[782]? = some (Jvm.Cond.code (tb_y 102) (tb_code 102) (tb_max 102) (tb_ret 102)) := by decide +kernel
theorem st_c103 : lw_tbl[786]? = some (Jvm.Cond.code (tb_y 103) (tb_code 103) (tb_max 103) (tb_ret 103)) := by decide +kernel
theorem st_c104 : lw_tbl[790]? = some (Jvm.Cond.code (tb_y 104) (tb_code 104) (tb_max 104) (tb_ret 104)) := by decide +kernel
theorem st_c105 : lw_tbl[795]? = some (Jvm.Cond.code (tb_y 105) (tb_code 105) (tb_max 105) (tb_ret 105)) := by decide +kernel
theorem st_c106 : lw_tbl[801]? = some (Jvm.Cond.code (tb_y 106) (tb_code 106) (tb_max 106) (tb_ret 106)) := by decide +kernel
theorem st_c107 : lw_tbl[805]? = some (Jvm.Cond.code (tb_y 107) (tb_code 107) (tb_max 107) (tb_ret 107)) := by decide +kernel
theorem st_c108 : lw_tbl[809]? = some (Jvm.Cond.code (tb_y 108) (tb_code 108) (tb_max 108) (tb_ret 108)) := by decide +kernel
theorem st_c109 : lw_tbl[813]? = some (Jvm.Cond.code (tb_y 109) (tb_code 109) (tb_max 109) (tb_ret 109)) := by decide +kernel
theorem st_c110 : lw_tbl[817]? = some (Jvm.Cond.code (tb_y 110) (tb_code 110) (tb_max 110) (tb_ret 110)) := by decide +kernel
theorem st_c111 : lw_tbl[822]? = some (Jvm.Cond.code (tb_y 111) (tb_code 111) (tb_max 111) (tb_ret 111)) := by decide +kernel
theorem st_c112 : lw_tbl[825]? = some (Jvm.Cond.code (tb_y 112) (tb_code 112) (tb_max 112) (tb_ret 112)) := by decide +kernel
theorem st_c113 : lw_tbl[832]? = some (Jvm.Cond.code (tb_y 113) (tb_code 113) (tb_max 113) (tb_ret 113)) := by decide +kernel
theorem st_c114 : lw_tbl[836]? = some (Jvm.Cond.code (tb_y 114) (tb_code 114) (tb_max 114) (tb_ret 114)) := by decide +kernel
theorem st_c115 : lw_tbl[840]? = some (Jvm.Cond.code (tb_y 115) (tb_code 115) (tb_max 115) (tb_ret 115)) := by decide +kernel
theorem st_c116 : lw_tbl[844]? = some (Jvm.Cond.code (tb_y 116) (tb_code 116) (tb_max 116) (tb_ret 116)) := by decide +kernel
theorem st_c117 : lw_tbl[848]? = some (Jvm.Cond.code (tb_y 117) (tb_code 117) (tb_max 117) (tb_ret 117)) := by decide +kernel
theorem st_c118 : lw_tbl[852]? = some (Jvm.Cond.code (tb_y 118) (tb_code 118) (tb_max 118) (tb_ret 118)) := by decide +kernel
theorem st_c119 : lw_tbl[856]? = some (Jvm.Cond.code (tb_y 119) (tb_code 119) (tb_max 119) (tb_ret 119)) := by decide +kernel
theorem st_c120 : lw_tbl[862]? = some (Jvm.Cond.code (tb_y 120) (tb_code 120) (tb_max 120) (tb_ret 120)) := by decide +kernel
theorem st_c121 : lw_tbl[868]? = some (Jvm.Cond.code (tb_y 121) (tb_code 121) (tb_max 121) (tb_ret 121)) := by decide +kernel
theorem st_c122 : lw_tbl[873]? = some (Jvm.Cond.code (tb_y 122) (tb_code 122) (tb_max 122) (tb_ret 122)) := by decide +kernel
theorem st_c123 : lw_tbl[877]? = some (Jvm.Cond.code (tb_y 123) (tb_code 123) (tb_max 123) (tb_ret 123)) := by decide +kernel
theorem st_c124 : lw_tbl[881]? = some (Jvm.Cond.code (tb_y 124) (tb_code 124) (tb_max 124) (tb_ret 124)) := by decide +kernel
theorem st_c125 : lw_tbl[886]? = some (Jvm.Cond.code (tb_y 125) (tb_code 125) (tb_max 125) (tb_ret 125)) := by decide +kernel
theorem st_c126 : lw_tbl[899]? = some (Jvm.Cond.code (tb_y 126) (tb_code 126) (tb_max 126) (tb_ret 126)) := by decide +kernel
theorem st_c127 : lw_tbl[992]? = some (Jvm.Cond.code (tb_y 127) (tb_code 127) (tb_max 127) (tb_ret 127)) := by decide +kernel
theorem st_c128 : lw_tbl[996]? = some (Jvm.Cond.code (tb_y 128) (tb_code 128) (tb_max 128) (tb_ret 128)) := by decide +kernel
theorem st_c129 : lw_tbl[1000]? = some (Jvm.Cond.code (tb_y 129) (tb_code 129) (tb_max 129) (tb_ret 129)) := by decide +kernel
theorem st_c130 : lw_tbl[1004]? = some (Jvm.Cond.code (tb_y 130) (tb_code 130) (tb_max 130) (tb_ret 130)) := by decide +kernel
theorem st_c131 : lw_tbl[1008]? = some (Jvm.Cond.code (tb_y 131) (tb_code 131) (tb_max 131) (tb_ret 131)) := by decide +kernel
theorem st_c132 : lw_tbl[1012]? = some (Jvm.Cond.code (tb_y 132) (tb_code 132) (tb_max 132) (tb_ret 132)) := by decide +kernel
theorem st_c133 : lw_tbl[1075]? = some (Jvm.Cond.code (tb_y 133) (tb_code 133) (tb_max 133) (tb_ret 133)) := by decide +kernel
theorem st_c134 : lw_tbl[1120]? = some (Jvm.Cond.code (tb_y 134) (tb_code 134) (tb_max 134) (tb_ret 134)) := by decide +kernel
theorem st_c135 : lw_tbl[1136]? = some (Jvm.Cond.code (tb_y 135) (tb_code 135) (tb_max 135) (tb_ret 135)) := by decide +kernel
theorem st_c136 : lw_tbl[1141]? = some (Jvm.Cond.code (tb_y 136) (tb_code 136) (tb_max 136) (tb_ret 136)) := by decide +kernel
theorem st_c137 : lw_tbl[1158]? = some (Jvm.Cond.code (tb_y 137) (tb_code 137) (tb_max 137) (tb_ret 137)) := by decide +kernel
theorem st_c138 : lw_tbl[1212]? = some (Jvm.Cond.code (tb_y 138) (tb_code 138) (tb_max 138) (tb_ret 138)) := by decide +kernel
theorem st_c139 : lw_tbl[1215]? = some (Jvm.Cond.code (tb_y 139) (tb_code 139) (tb_max 139) (tb_ret 139)) := by decide +kernel
theorem st_c140 : lw_tbl[1218]? = some (Jvm.Cond.code (tb_y 140) (tb_code 140) (tb_max 140) (tb_ret 140)) := by decide +kernel
theorem st_c141 : lw_tbl[1222]? = some (Jvm.Cond.code (tb_y 141) (tb_code 141) (tb_max 141) (tb_ret 141)) := by decide +kernel
theorem st_c142 : lw_tbl[1226]? = some (Jvm.Cond.code (tb_y 142) (tb_code 142) (tb_max 142) (tb_ret 142)) := by decide +kernel
theorem st_c143 : lw_tbl[1230]? = some (Jvm.Cond.code (tb_y 143) (tb_code 143) (tb_max 143) (tb_ret 143)) := by decide +kernel
theorem st_c144 : lw_tbl[1234]? = some (Jvm.Cond.code (tb_y 144) (tb_code 144) (tb_max 144) (tb_ret 144)) := by decide +kernel
theorem st_c145 : lw_tbl[1257]? = some (Jvm.Cond.code (tb_y 145) (tb_code 145) (tb_max 145) (tb_ret 145)) := by decide +kernel
theorem st_c146 : lw_tbl[1262]? = some (Jvm.Cond.code (tb_y 146) (tb_code 146) (tb_max 146) (tb_ret 146)) := by decide +kernel
theorem st_c147 : lw_tbl[1313]? = some (Jvm.Cond.code (tb_y 147) (tb_code 147) (tb_max 147) (tb_ret 147)) := by decide +kernel
theorem st_c148 : lw_tbl[1317]? = some (Jvm.Cond.code (tb_y 148) (tb_code 148) (tb_max 148) (tb_ret 148)) := by decide +kernel
theorem st_c149 : lw_tbl[1320]? = some (Jvm.Cond.code (tb_y 149) (tb_code 149) (tb_max 149) (tb_ret 149)) := by decide +kernel
theorem st_c150 : lw_tbl[1324]? = some (Jvm.Cond.code (tb_y 150) (tb_code 150) (tb_max 150) (tb_ret 150)) := by decide +kernel
theorem st_c151 : lw_tbl[1327]? = some (Jvm.Cond.code (tb_y 151) (tb_code 151) (tb_max 151) (tb_ret 151)) := by decide +kernel
theorem st_c152 : lw_tbl[1331]? = some (Jvm.Cond.code (tb_y 152) (tb_code 152) (tb_max 152) (tb_ret 152)) := by decide +kernel
theorem st_c153 : lw_tbl[1335]? = some (Jvm.Cond.code (tb_y 153) (tb_code 153) (tb_max 153) (tb_ret 153)) := by decide +kernel
theorem st_c154 : lw_tbl[1339]? = some (Jvm.Cond.code (tb_y 154) (tb_code 154) (tb_max 154) (tb_ret 154)) := by decide +kernel
theorem st_c155 : lw_tbl[1343]? = some (Jvm.Cond.code (tb_y 155) (tb_code 155) (tb_max 155) (tb_ret 155)) := by decide +kernel
theorem st_c156 : lw_tbl[1347]? = some (Jvm.Cond.code (tb_y 156) (tb_code 156) (tb_max 156) (tb_ret 156)) := by decide +kernel
theorem st_c157 : lw_tbl[1351]? = some (Jvm.Cond.code (tb_y 157) (tb_code 157) (tb_max 157) (tb_ret 157)) := by decide +kernel
theorem st_c158 : lw_tbl[1355]? = some (Jvm.Cond.code (tb_y 158) (tb_code 158) (tb_max 158) (tb_ret 158)) := by decide +kernel
theorem st_c159 : lw_tbl[1359]? = some (Jvm.Cond.code (tb_y 159) (tb_code 159) (tb_max 159) (tb_ret 159)) := by decide +kernel
theorem st_c160 : lw_tbl[1362]? = some (Jvm.Cond.code (tb_y 160) (tb_code 160) (tb_max 160) (tb_ret 160)) := by decide +kernel
theorem st_c161 : lw_tbl[1365]? = some (Jvm.Cond.code (tb_y 161) (tb_code 161) (tb_max 161) (tb_ret 161)) := by decide +kernel
theorem st_c162 : lw_tbl[1368]? = some (Jvm.Cond.code (tb_y 162) (tb_code 162) (tb_max 162) (tb_ret 162)) := by decide +kernel
theorem st_c163 : lw_tbl[1371]? = some (Jvm.Cond.code (tb_y 163) (tb_code 163) (tb_max 163) (tb_ret 163)) := by decide +kernel
theorem st_c164 : lw_tbl[1375]? = some (Jvm.Cond.code (tb_y 164) (tb_code 164) (tb_max 164) (tb_ret 164)) := by decide +kernel
theorem st_c165 : lw_tbl[1379]? = some (Jvm.Cond.code (tb_y 165) (tb_code 165) (tb_max 165) (tb_ret 165)) := by decide +kernel
theorem st_c166 : lw_tbl[1383]? = some (Jvm.Cond.code (tb_y 166) (tb_code 166) (tb_max 166) (tb_ret 166)) := by decide +kernel
theorem st_c167 : lw_tbl[1387]? = some (Jvm.Cond.code (tb_y 167) (tb_code 167) (tb_max 167) (tb_ret 167)) := by decide +kernel
theorem st_c168 : lw_tbl[1391]? = some (Jvm.Cond.code (tb_y 168) (tb_code 168) (tb_max 168) (tb_ret 168)) := by decide +kernel
theorem st_c169 : lw_tbl[1395]? = some (Jvm.Cond.code (tb_y 169) (tb_code 169) (tb_max 169) (tb_ret 169)) := by decide +kernel
theorem st_c170 : lw_tbl[1398]? = some (Jvm.Cond.code (tb_y 170) (tb_code 170) (tb_max 170) (tb_ret 170)) := by decide +kernel
theorem st_c171 : lw_tbl[1402]? = some (Jvm.Cond.code (tb_y 171) (tb_code 171) (tb_max 171) (tb_ret 171)) := by decide +kernel
theorem st_c172 : lw_tbl[1405]? = some (Jvm.Cond.code (tb_y 172) (tb_code 172) (tb_max 172) (tb_ret 172)) := by decide +kernel
theorem st_c173 : lw_tbl[1409]? = some (Jvm.Cond.code (tb_y 173) (tb_code 173) (tb_max 173) (tb_ret 173)) := by decide +kernel
theorem st_c174 : lw_tbl[1413]? = some (Jvm.Cond.code (tb_y 174) (tb_code 174) (tb_max 174) (tb_ret 174)) := by decide +kernel
theorem st_c175 : lw_tbl[1417]? = some (Jvm.Cond.code (tb_y 175) (tb_code 175) (tb_max 175) (tb_ret 175)) := by decide +kernel
theorem st_c176 : lw_tbl[1421]? = some (Jvm.Cond.code (tb_y 176) (tb_code 176) (tb_max 176) (tb_ret 176)) := by decide +kernel
theorem st_c177 : lw_tbl[1425]? = some (Jvm.Cond.code (tb_y 177) (tb_code 177) (tb_max 177) (tb_ret 177)) := by decide +kernel
theorem st_c178 : lw_tbl[1429]? = some (Jvm.Cond.code (tb_y 178) (tb_code 178) (tb_max 178) (tb_ret 178)) := by decide +kernel
theorem st_c179 : lw_tbl[1433]? = some (Jvm.Cond.code (tb_y 179) (tb_code 179) (tb_max 179) (tb_ret 179)) := by decide +kernel
theorem st_c180 : lw_tbl[1437]? = some (Jvm.Cond.code (tb_y 180) (tb_code 180) (tb_max 180) (tb_ret 180)) := by decide +kernel
theorem st_c181 : lw_tbl[1441]? = some (Jvm.Cond.code (tb_y 181) (tb_code 181) (tb_max 181) (tb_ret 181)) := by decide +kernel
theorem st_c (M : Nat) (h : M < tb_nc) : Jvm.Cond.code (tb_y M) (tb_code M) (tb_max M) (tb_ret M) ∈ lw_tbl := match M, h with
  | 0, _ => List.mem_of_getElem? st_c0
  | 1, _ => List.mem_of_getElem? st_c1
  | 2, _ => List.mem_of_getElem? st_c2
  | 3, _ => List.mem_of_getElem? st_c3
  | 4, _ => List.mem_of_getElem? st_c4
  | 5, _ => List.mem_of_getElem? st_c5
  | 6, _ => List.mem_of_getElem? st_c6
  | 7, _ => List.mem_of_getElem? st_c7
  | 8, _ => List.mem_of_getElem? st_c8
  | 9, _ => List.mem_of_getElem? st_c9
  | 10, _ => List.mem_of_getElem? st_c10
  | 11, _ => List.mem_of_getElem? st_c11
  | 12, _ => List.mem_of_getElem? st_c12
  | 13, _ => List.mem_of_getElem? st_c13
  | 14, _ => List.mem_of_getElem? st_c14
  | 15, _ => List.mem_of_getElem? st_c15
  | 16, _ => List.mem_of_getElem? st_c16
  | 17, _ => List.mem_of_getElem? st_c17
  | 18, _ => List.mem_of_getElem? st_c18
  | 19, _ => List.mem_of_getElem? st_c19
  | 20, _ => List.mem_of_getElem? st_c20
  | 21, _ => List.mem_of_getElem? st_c21
  | 22, _ => List.mem_of_getElem? st_c22
  | 23, _ => List.mem_of_getElem? st_c23
  | 24, _ => List.mem_of_getElem? st_c24
  | 25, _ => List.mem_of_getElem? st_c25
  | 26, _ => List.mem_of_getElem? st_c26
  | 27, _ => List.mem_of_getElem? st_c27
  | 28, _ => List.mem_of_getElem? st_c28
  | 29, _ => List.mem_of_getElem? st_c29
  | 30, _ => List.mem_of_getElem? st_c30
  | 31, _ => List.mem_of_getElem? st_c31
  | 32, _ => List.mem_of_getElem? st_c32
  | 33, _ => List.mem_of_getElem? st_c33
  | 34, _ => List.mem_of_getElem? st_c34
  | 35, _ => List.mem_of_getElem? st_c35
  | 36, _ => List.mem_of_getElem? st_c36
  | 37, _ => List.mem_of_getElem? st_c37
  | 38, _ => List.mem_of_getElem? st_c38
  | 39, _ => List.mem_of_getElem? st_c39
  | 40, _ => List.mem_of_getElem? st_c40
  | 41, _ => List.mem_of_getElem? st_c41
  | 42, _ => List.mem_of_getElem? st_c42
  | 43, _ => List.mem_of_getElem? st_c43
  | 44, _ => List.mem_of_getElem? st_c44
  | 45, _ => List.mem_of_getElem? st_c45
  | 46, _ => List.mem_of_getElem? st_c46
  | 47, _ => List.mem_of_getElem? st_c47
  | 48, _ => List.mem_of_getElem? st_c48
  | 49, _ => List.mem_of_getElem? st_c49
  | 50, _ => List.mem_of_getElem? st_c50
  | 51, _ => List.mem_of_getElem? st_c51
  | 52, _ => List.mem_of_getElem? st_c52
  | 53, _ => List.mem_of_getElem? st_c53
  | 54, _ => List.mem_of_getElem? st_c54
  | 55, _ => List.mem_of_getElem? st_c55
  | 56, _ => List.mem_of_getElem? st_c56
  | 57, _ => List.mem_of_getElem? st_c57
  | 58, _ => List.mem_of_getElem? st_c58
  | 59, _ => List.mem_of_getElem? st_c59
  | 60, _ => List.mem_of_getElem? st_c60
  | 61, _ => List.mem_of_getElem? st_c61
  | 62, _ => List.mem_of_getElem? st_c62
  | 63, _ => List.mem_of_getElem? st_c63
  | 64, _ => List.mem_of_getElem? st_c64
  | 65, _ => List.mem_of_getElem? st_c65
  | 66, _ => List.mem_of_getElem? st_c66
  | 67, _ => List.mem_of_getElem? st_c67
  | 68, _ => List.mem_of_getElem? st_c68
  | 69, _ => List.mem_of_getElem? st_c69
  | 70, _ => List.mem_of_getElem? st_c70
  | 71, _ => List.mem_of_getElem? st_c71
  | 72, _ => List.mem_of_getElem? st_c72
  | 73, _ => List.mem_of_getElem? st_c73
  | 74, _ => List.mem_of_getElem? st_c74
  | 75, _ => List.mem_of_getElem? st_c75
  | 76, _ => List.mem_of_getElem? st_c76
  | 77, _ => List.mem_of_getElem? st_c77
  | 78, _ => List.mem_of_getElem? st_c78
  | 79, _ => List.mem_of_getElem? st_c79
  | 80, _ => List.mem_of_getElem? st_c80
  | 81, _ => List.mem_of_getElem? st_c81
  | 82, _ => List.mem_of_getElem? st_c82
  | 83, _ => List.mem_of_getElem? st_c83
  | 84, _ => List.mem_of_getElem? st_c84
  | 85, _ => List.mem_of_getElem? st_c85
  | 86, _ => List.mem_of_getElem? st_c86
  | 87, _ => List.mem_of_getElem? st_c87
  | 88, _ => List.mem_of_getElem? st_c88
  | 89, _ => List.mem_of_getElem? st_c89
  | 90, _ => List.mem_of_getElem? st_c90
  | 91, _ => List.mem_of_getElem? st_c91
  | 92, _ => List.mem_of_getElem? st_c92
  | 93, _ => List.mem_of_getElem? st_c93
  | 94, _ => List.mem_of_getElem? st_c94
  | 95, _ => List.mem_of_getElem? st_c95
  | 96, _ => List.mem_of_getElem? st_c96
  | 97, _ => List.mem_of_getElem? st_c97
  | 98, _ => List.mem_of_getElem? st_c98
  | 99, _ => List.mem_of_getElem? st_c99
  | 100, _ => List.mem_of_getElem? st_c100
  | 101, _ => List.mem_of_getElem? st_c101
  | 102, _ => List.mem_of_getElem? st_c102
  | 103, _ => List.mem_of_getElem? st_c103
  | 104, _ => List.mem_of_getElem? st_c104
  | 105, _ => List.mem_of_getElem? st_c105
  | 106, _ => List.mem_of_getElem? st_c106
  | 107, _ => List.mem_of_getElem? st_c107
  | 108, _ => List.mem_of_getElem? st_c108
  | 109, _ => List.mem_of_getElem? st_c109
  | 110, _ => List.mem_of_getElem? st_c110
  | 111, _ => List.mem_of_getElem? st_c111
  | 112, _ => List.mem_of_getElem? st_c112
  | 113, _ => List.mem_of_getElem? st_c113
  | 114, _ => List.mem_of_getElem? st_c114
  | 115, _ => List.mem_of_getElem? st_c115
  | 116, _ => List.mem_of_getElem? st_c116
  | 117, _ => List.mem_of_getElem? st_c117
  | 118, _ => List.mem_of_getElem? st_c118
  | 119, _ => List.mem_of_getElem? st_c119
  | 120, _ => List.mem_of_getElem? st_c120
  | 121, _ => List.mem_of_getElem? st_c121
  | 122, _ => List.mem_of_getElem? st_c122
  | 123, _ => List.mem_of_getElem? st_c123
  | 124, _ => List.mem_of_getElem? st_c124
  | 125, _ => List.mem_of_getElem? st_c125
  | 126, _ => List.mem_of_getElem? st_c126
  | 127, _ => List.mem_of_getElem? st_c127
  | 128, _ => List.mem_of_getElem? st_c128
  | 129, _ => List.mem_of_getElem? st_c129
  | 130, _ => List.mem_of_getElem? st_c130
  | 131, _ => List.mem_of_getElem? st_c131
  | 132, _ => List.mem_of_getElem? st_c132
  | 133, _ => List.mem_of_getElem? st_c133
  | 134, _ => List.mem_of_getElem? st_c134
  | 135, _ => List.mem_of_getElem? st_c135
  | 136, _ => List.mem_of_getElem? st_c136
  | 137, _ => List.mem_of_getElem? st_c137
  | 138, _ => List.mem_of_getElem? st_c138
  | 139, _ => List.mem_of_getElem? st_c139
  | 140, _ => List.mem_of_getElem? st_c140
  | 141, _ => List.mem_of_getElem? st_c141
  | 142, _ => List.mem_of_getElem? st_c142
  | 143, _ => List.mem_of_getElem? st_c143
  | 144, _ => List.mem_of_getElem? st_c144
  | 145, _ => List.mem_of_getElem? st_c145
  | 146, _ => List.mem_of_getElem? st_c146
  | 147, _ => List.mem_of_getElem? st_c147
  | 148, _ => List.mem_of_getElem? st_c148
  | 149, _ => List.mem_of_getElem? st_c149
  | 150, _ => List.mem_of_getElem? st_c150
  | 151, _ => List.mem_of_getElem? st_c151
  | 152, _ => List.mem_of_getElem? st_c152
  | 153, _ => List.mem_of_getElem? st_c153
  | 154, _ => List.mem_of_getElem? st_c154
  | 155, _ => List.mem_of_getElem? st_c155
  | 156, _ => List.mem_of_getElem? st_c156
  | 157, _ => List.mem_of_getElem? st_c157
  | 158, _ => List.mem_of_getElem? st_c158
  | 159, _ => List.mem_of_getElem? st_c159
  | 160, _ => List.mem_of_getElem? st_c160
  | 161, _ => List.mem_of_getElem? st_c161
  | 162, _ => List.mem_of_getElem? st_c162
  | 163, _ => List.mem_of_getElem? st_c163
  | 164, _ => List.mem_of_getElem? st_c164
  | 165, _ => List.mem_of_getElem? st_c165
  | 166, _ => List.mem_of_getElem? st_c166
  | 167, _ => List.mem_of_getElem? st_c167
  | 168, _ => List.mem_of_getElem? st_c168
  | 169, _ => List.mem_of_getElem? st_c169
  | 170, _ => List.mem_of_getElem? st_c170
  | 171, _ => List.mem_of_getElem? st_c171
  | 172, _ => List.mem_of_getElem? st_c172
  | 173, _ => List.mem_of_getElem? st_c173
  | 174, _ => List.mem_of_getElem? st_c174
  | 175, _ => List.mem_of_getElem? st_c175
  | 176, _ => List.mem_of_getElem? st_c176
  | 177, _ => List.mem_of_getElem? st_c177
  | 178, _ => List.mem_of_getElem? st_c178
  | 179, _ => List.mem_of_getElem? st_c179
  | 180, _ => List.mem_of_getElem? st_c180
  | 181, _ => List.mem_of_getElem? st_c181
  | n + 182, h => absurd h (by unfold tb_nc; omega)
theorem st_mt (M : Nat) (h : M < tb_nc) : ∀ w ∈ tb_mt M, w ∈ lw_tbl := by
  intro w hw
  have key : ∀ (a n : Nat), a ≤ M → M < a + n → (∀ w ∈ (List.range n).flatMap (fun i => tb_mt (i + a)), w ∈ lw_tbl) → w ∈ lw_tbl := fun a n h1 h2 h3 => h3 w (List.mem_flatMap.mpr ⟨M - a, List.mem_range.mpr (by omega), by rw [Nat.sub_add_cancel h1]; exact hw⟩)
  unfold tb_nc at h
  by_cases h0 : M < 30
  · exact key 0 30 (by omega) (by omega) (st_in st_m0)
  by_cases h1 : M < 60
  · exact key 30 30 (by omega) (by omega) (st_in st_m1)
  by_cases h2 : M < 90
  · exact key 60 30 (by omega) (by omega) (st_in st_m2)
  by_cases h3 : M < 120
  · exact key 90 30 (by omega) (by omega) (st_in st_m3)
  by_cases h4 : M < 150
  · exact key 120 30 (by omega) (by omega) (st_in st_m4)
  by_cases h5 : M < 180
  · exact key 150 30 (by omega) (by omega) (st_in st_m5)
  by_cases h6 : M < 182
  · exact key 180 2 (by omega) (by omega) (st_in st_m6)
  omega
theorem st_s1 : st_b [266, 268, 270, 272, 274, 276, 91, 93, 107, 109, 111, 113, 127, 129, 131, 145, 147, 149, 172, 174, 176, 178, 180, 182, 184, 186, 188, 190, 192, 194, 196, 247, 249, 251, 253, 255, 257, 234, 236, 238, 429, 472, 474, 476, 478, 480, 482, 484, 506, 508, 510, 528, 530, 532, 534, 940, 942, 944, 946, 948, 950, 952, 954, 956, 958, 960, 962, 964, 966, 968, 970, 972, 974, 976, 978, 980, 982, 984, 986, 908, 910, 912, 1095, 1097, 1099, 1101, 1103, 1105, 1107, 1109, 1111, 1113, 1115, 1149, 1151, 1153, 1245, 1247, 1249, 1251, 1063, 1065, 1067, 1069] (tb_cl.flatMap (fun q => u_ws q.1 q.2.1 q.2.2)) = true := by decide +kernel
theorem st_s2 : st_b [76, 48, 84, 49, 98, 50, 117, 51, 135, 52, 154, 53, 201, 54, 208, 55, 421, 62, 445, 63, 496, 64, 519, 65, 883, 56, 896, 57, 1072, 68, 1138, 69, 1231, 72, 1013, 58] (tb_cl.flatMap (fun q => [Jvm.Cond.instantiable q.1 q.2.2, Jvm.Cond.initialized q.1])) = true := by decide +kernel
theorem st_s3 : st_b [260, 261, 262, 263, 264, 265, 89, 103, 124, 142, 143, 161, 162, 164, 165, 159, 160, 241, 244, 245, 242, 233, 231, 232, 144, 90, 105, 104, 126, 1061, 1062, 106, 428, 452, 457, 461, 463, 467, 470, 503, 504, 505, 524, 525, 526, 527, 471, 125, 169, 167, 171, 168, 170, 163, 166, 243, 246, 916, 918, 921, 924, 925, 927, 928, 930, 931, 933, 935, 936, 939, 902, 904, 917, 922, 1080, 1081, 934, 923, 1079, 938, 919, 920, 1094, 1093, 1086, 1091, 1083, 1085, 1088, 1090, 1082, 1084, 1087, 1089, 1092, 1145, 1148, 1147, 1144, 1146, 1244, 1239, 1241, 1243, 1238, 1240, 1242, 926, 937, 907, 903, 929, 905, 932, 906] (tb_fl.map tb_fc) = true := by decide +kernel
theorem st_s4 : st_b [99, 136, 155, 202, 210, 215, 225, 218, 228, 283, 287, 291, 299, 307, 320, 324, 572, 577, 592, 600, 604, 311, 315, 316, 328, 395, 446, 487, 337, 491, 557, 561, 565, 332, 391, 341, 345, 399, 403, 416, 422, 433, 440, 407, 411, 437, 451, 513, 548, 553, 520, 537, 547, 542, 543, 576, 581, 585, 588, 596, 612, 616, 620, 628, 629, 630, 636, 634, 635, 644, 645, 653, 738, 742, 758, 775, 787, 746, 657, 661, 667, 702, 706, 710, 662, 663, 671, 672, 676, 680, 684, 698, 689, 693, 697, 714, 734, 718, 726, 722, 730, 750, 754, 762, 766, 771, 772, 774, 779, 783, 791, 792, 796, 797, 798, 802, 810, 814, 818, 823, 833, 841, 845, 849, 857, 858, 863, 864, 869, 874, 878, 993, 1005, 1315, 1321, 1009, 1118, 1134, 1219, 1224, 1227, 1121, 1156, 1210, 1216, 1213, 1254, 1260, 1311, 1318, 1325, 1336, 1348, 1352, 1356, 1376, 1380, 1363, 1360, 1372, 1366, 1369, 1388, 1392, 1396, 1399, 1406, 1403, 1410, 77, 884, 279, 989, 295, 997, 303, 1001, 608, 1328, 624, 1332, 640, 1340, 649, 1384, 806, 1414, 819, 1344, 829, 1418, 837, 1422, 853, 1426, 859, 1430, 865, 1434, 870, 1438] (tb_ml.map (fun q => Jvm.Cond.methodLink (tb_cn q.1) q.2.1 (tb_y q.2.2))) = true := by decide +kernel
theorem st_s5 : st_b [826, 827, 828] (tb_kw.map (fun q => Jvm.Cond.constant (tb_cn q.1) q.2.1 (tb_ki.getD q.2.2 0))) = true := by decide +kernel
theorem st_s6 : st_b [410, 415, 426, 427] (tb_k2.map (fun q => Jvm.Cond.constantLong (tb_cn q.1) q.2.1 (tb_kl.getD q.2.2 0))) = true := by decide +kernel
theorem st_s7 : st_b [83, 97, 116, 134, 153, 200, 206, 444, 420, 450, 495, 518, 541, 773, 894, 890, 888, 1137, 892, 75, 882] (tb_nl.map (fun q => Jvm.Cond.classLink (tb_cn q.1) q.2.1 (tb_cn q.2.2))) = true := by decide +kernel
theorem st_s8 : st_b [122, 140, 206, 209, 214, 501, 770, 888, 890, 892, 894, 901, 1077, 1078, 1143, 1236] (tb_al.map (fun q => Jvm.Cond.classLink (tb_cn q.1) q.2.1 (tb_an q.2.2))) = true := by decide +kernel
theorem st_s9 : st_b [80, 88, 102, 121, 139, 158, 205, 213, 425, 449, 500, 523, 887, 900, 1076, 1142, 1235] (tb_oi.map (fun q => Jvm.Cond.methodLink (tb_cn q.1) q.2 objectInit)) = true := by decide +kernel
theorem st_s10 : st_b [81, 82] ([Jvm.Cond.instanceMethod objectInit, Jvm.Cond.code objectInit ⟨#[0xb1]⟩ 1 none]) = true := by decide +kernel
theorem st_s11 : st_b [96, 152, 199, 432, 915] (tb_pa.map Jvm.Cond.arrayClass) = true := by decide +kernel
theorem st_s12 : st_b [349] (tb_zl.map tb_zc) = true := by decide +kernel
theorem st_ws : ∀ w ∈ tb_ws, w ∈ lw_tbl := by
  intro w hw
  rcases List.mem_append.mp hw with hw | hw
  · obtain ⟨M, hM, hw⟩ := List.mem_flatMap.mp hw
    have hM := List.mem_range.mp hM
    rcases List.mem_cons.mp hw with rfl | hw
    · exact st_c M hM
    · exact st_mt M hM w hw
  rcases List.mem_append.mp hw with hw | hw
  · exact st_in st_s1 w hw
  rcases List.mem_append.mp hw with hw | hw
  · exact st_in st_s2 w hw
  rcases List.mem_append.mp hw with hw | hw
  · exact st_in st_s3 w hw
  rcases List.mem_append.mp hw with hw | hw
  · exact st_in st_s4 w hw
  rcases List.mem_append.mp hw with hw | hw
  · exact st_in st_s5 w hw
  rcases List.mem_append.mp hw with hw | hw
  · exact st_in st_s6 w hw
  rcases List.mem_append.mp hw with hw | hw
  · exact st_in st_s7 w hw
  rcases List.mem_append.mp hw with hw | hw
  · exact st_in st_s8 w hw
  rcases List.mem_append.mp hw with hw | hw
  · exact st_in st_s9 w hw
  rcases List.mem_append.mp hw with hw | hw
  · exact st_in st_s10 w hw
  rcases List.mem_append.mp hw with hw | hw
  · exact st_in st_s11 w hw
  exact st_in st_s12 w hw
theorem st_nw : st_b [464, 458, 453, 465, 468, 459, 454, 460, 466, 462, 469, 456, 455, 85, 118, 222, 497, 688, 897, 1073, 1139, 1232] tb_nw = true := by decide +kernel
theorem st_ao : st_b [123, 141, 207, 502, 889, 891, 893, 895, 1237] (tb_ao.map (fun C => Jvm.Cond.arrayOver (.object C))) = true := by decide +kernel
end
section
theorem st_aty : ∀ ty ∈ tb_at, ty ∈ tb_pa ∨ ∃ C, C ∈ tb_ao ∧ ty = .object C := by
  have h : tb_at = tb_pa ++ tb_ao.map (fun C => FieldType.object C) := by decide +kernel
  intro ty hty
  rw [h] at hty
  rcases List.mem_append.mp hty with h1 | h1
  · exact Or.inl h1
  · obtain ⟨C, hC, rfl⟩ := List.mem_map.mp h1
    exact Or.inr ⟨C, hC, rfl⟩
theorem st_prim : ∀ ty ∈ tb_pa, ty = .char ∨ ty = .long ∨ ty = .int ∨ ty = .byte ∨ ty = .boolean := by decide +kernel

theorem st_K {s : State} {args : Array Value} (hts : ∀ w ∈ tb_ws, w.before args s = true) (hao : ∀ C ∈ tb_ao, va_AO C s) : ∃ (D : va_G) (dA : Nat → ClassId), va_K D tb_cl (ab_ty dA) s := by
  have h0 : ∀ ci : Nat, ∃ q : ClassId × (Nat → Nat), ∀ r, tb_cl[ci]? = some r → u_Kn s r.1 r.2.1 r.2.2 q.1 q.2 := by
    intro ci
    by_cases hci : ci < tb_cl.length
    · obtain ⟨C, T, N, hc, e1, e2, e3, e4, e5, e6, e7, e8, e9⟩ := ck_fld hci
      obtain ⟨cC, iS, hk⟩ := u_known (C := C) (T := T) (N := N) (n := N) hts e7 (hts _ e8)
      refine ⟨(cC, iS), fun r hr => ?_⟩
      rw [hc] at hr
      cases hr
      exact hk
    · refine ⟨(0, fun _ => 0), fun r hr => ?_⟩
      rw [List.getElem?_eq_none (by omega)] at hr
      cases hr
  have h1 : ∀ t : Nat, ∃ cA : ClassId, ∀ ty, tb_at[t]? = some ty → ArrOfT s cA ty ∧ va_RA s cA ty := by
    intro t
    by_cases ht : t < tb_at.length
    · obtain ⟨ty, hty⟩ : ∃ ty, tb_at[t]? = some ty := ⟨_, List.getElem?_eq_getElem ht⟩
      rcases st_aty ty (List.mem_of_getElem? hty) with hp | ⟨C, hC, rfl⟩
      · obtain ⟨cA, kA, comp, hfind, hk, hkind⟩ := Cond.arrayClass_spec (hts _ (tb_in11 (List.mem_map.mpr ⟨ty, hp, rfl⟩)))
        refine ⟨cA, fun ty2 h2 => ?_⟩
        rw [hty] at h2
        cases h2
        refine ⟨fun n z => ⟨fun k h => (by cases h), kA, hk, comp, hkind⟩, ?_⟩
        rcases st_prim ty hp with rfl | rfl | rfl | rfl | rfl <;> exact hfind
      · obtain ⟨comp, c, k, h1, h2, h3, h4, h5⟩ := Cond.arrayOver_spec (va_AO.use (A := #[]) (hao C hC))
        refine ⟨c, fun ty2 hq => ?_⟩
        rw [hty] at hq
        cases hq
        exact ⟨fun n z => ⟨fun k h => (by cases h), k, h3, comp, h4⟩, k, comp, h3, h4, h1, h5⟩
    · refine ⟨0, fun ty hq => ?_⟩
      rw [List.getElem?_eq_none (by omega)] at hq
      cases hq
  obtain ⟨ad, had⟩ := Classical.axiomOfChoice h0
  obtain ⟨dA, hdA⟩ := Classical.axiomOfChoice h1
  refine ⟨(fun ci => (ad ci).1, fun ci => (ad ci).2), dA, fun ci r hr => had ci r hr, fun k r hr => ?_⟩
  unfold ab_ty at hr
  rw [List.getElem?_mapIdx] at hr
  obtain ⟨ty, hty, he⟩ := Option.map_eq_some_iff.mp hr
  subst he
  exact hdA k ty hty
def st_tm : List (String × Nat) := [("PackageKeeper$Reader", 81), ("PackageKeeper$Reader", 86), ("PackageKeeper$Reader", 90), ("PackageKeeper$Reader", 109), ("PackageKeeper$Reader", 52), ("PackageKeeperModel", 88), ("PackageKeeperModel", 134), ("PackageKeeperModel", 139), ("PackageKeeperModel", 141), ("PackageKeeperModel", 143), ("PackageKeeperModel", 147), ("PackageKeeperModel", 149), ("PackageKeeperModel", 145)]
def st_t (i : Nat) : Term := .string (st_tm.getD i ("", 0)).1 (st_tm.getD i ("", 0)).2
def st_fl : List Jvm.Cond := flatC (Jvm.Cond.and given_1 narrow_1)
theorem st_f1 : ∀ i, i < tb_sn → Jvm.Cond.exactly (st_t i) "java/lang/String" ∈ st_fl := by decide +kernel
theorem st_f2 : ∀ i, i < tb_sn → Jvm.Cond.eq (.field (st_t i) "java/lang/String" "coder" "B") (.int 0) ∈ st_fl := by decide +kernel
theorem st_f3 : ∀ i, i < tb_sn → Jvm.Cond.arrayOf (.field (st_t i) "java/lang/String" "value" "[B") .byte ∈ st_fl := by decide +kernel
theorem st_f4 : ∀ i, i < tb_sn → Jvm.Cond.eq (.length (.field (st_t i) "java/lang/String" "value" "[B")) (.int (Int32.ofNat (tb_sl.getD i 0))) ∈ st_fl := by decide +kernel
theorem st_f5 : ∀ i, i < tb_sn → ∀ j, j < tb_sl.getD i 0 → Jvm.Cond.eq (.elem (.field (st_t i) "java/lang/String" "value" "[B") (.int (Int32.ofNat j))) (.int ((tb_sb.getD i []).getD j 0)) ∈ st_fl := by decide +kernel
def st_q0 : List (Nat × Nat × Nat) := [(0, 1, 52), (0, 5, 169), (0, 9, 283), (1, 2, 62), (1, 6, 223), (1, 10, 306), (2, 4, 79), (2, 8, 264), (2, 12, 354), (3, 7, 245), (3, 11, 331), (4, 7, 246), (4, 11, 332), (5, 8, 273), (5, 12, 363), (6, 10, 319), (7, 9, 298), (8, 9, 299), (9, 10, 322), (10, 12, 370)]
theorem st_g0 : st_q0.all (fun q => decide (st_fl[q.2.2]? = some (Jvm.Cond.not (Jvm.Cond.eq (st_t q.1) (st_t q.2.1))))) = true := by decide +kernel
def st_q1 : List (Nat × Nat × Nat) := [(0, 2, 61), (0, 6, 222), (0, 10, 305), (1, 3, 69), (1, 7, 243), (1, 11, 329), (2, 5, 171), (2, 9, 285), (3, 4, 80), (3, 8, 265), (3, 12, 355), (4, 8, 266), (4, 12, 356), (5, 9, 294), (6, 7, 256), (6, 11, 342), (7, 10, 320), (8, 10, 321), (9, 11, 345), (11, 12, 371)]
theorem st_g1 : st_q1.all (fun q => decide (st_fl[q.2.2]? = some (Jvm.Cond.not (Jvm.Cond.eq (st_t q.1) (st_t q.2.1))))) = true := by decide +kernel
def st_q2 : List (Nat × Nat × Nat) := [(0, 3, 68), (0, 7, 242), (0, 11, 328), (1, 4, 78), (1, 8, 263), (1, 12, 353), (2, 6, 224), (2, 10, 307), (3, 5, 172), (3, 9, 286), (4, 5, 173), (4, 9, 287), (5, 6, 233), (5, 10, 316), (6, 8, 276), (6, 12, 366), (7, 11, 343), (8, 11, 344), (9, 12, 369)]
theorem st_g2 : st_q2.all (fun q => decide (st_fl[q.2.2]? = some (Jvm.Cond.not (Jvm.Cond.eq (st_t q.1) (st_t q.2.1))))) = true := by decide +kernel
def st_q3 : List (Nat × Nat × Nat) := [(0, 4, 77), (0, 8, 262), (0, 12, 352), (1, 5, 170), (1, 9, 284), (2, 3, 70), (2, 7, 244), (2, 11, 330), (3, 6, 225), (3, 10, 308), (4, 6, 226), (4, 10, 309), (5, 7, 253), (5, 11, 339), (6, 9, 297), (7, 8, 277), (7, 12, 367), (8, 12, 368), (10, 11, 346)]
theorem st_g3 : st_q3.all (fun q => decide (st_fl[q.2.2]? = some (Jvm.Cond.not (Jvm.Cond.eq (st_t q.1) (st_t q.2.1))))) = true := by decide +kernel
theorem st_h : ∀ i, i < tb_sn → ∀ j, j < tb_sn → i ≠ j → ((st_q0 ++ (st_q1 ++ (st_q2 ++ st_q3))).any (fun q => decide (q.1 = i ∧ q.2.1 = j) || decide (q.1 = j ∧ q.2.1 = i))) = true := by decide +kernel
theorem st_f6 : ∀ i, i < tb_sn → ∀ j, j < tb_sn → i ≠ j → (Jvm.Cond.not (Jvm.Cond.eq (st_t i) (st_t j)) ∈ st_fl ∨ Jvm.Cond.not (Jvm.Cond.eq (st_t j) (st_t i)) ∈ st_fl) := by
  intro i hi j hj hij
  obtain ⟨q, hq, hz⟩ := List.any_eq_true.mp (st_h i hi j hj hij)
  have hm : Jvm.Cond.not (Jvm.Cond.eq (st_t q.1) (st_t q.2.1)) ∈ st_fl := by
    rcases List.mem_append.mp hq with hq | hq
    · exact List.mem_of_getElem? (of_decide_eq_true (List.all_eq_true.mp st_g0 q hq))
    rcases List.mem_append.mp hq with hq | hq
    · exact List.mem_of_getElem? (of_decide_eq_true (List.all_eq_true.mp st_g1 q hq))
    rcases List.mem_append.mp hq with hq | hq
    · exact List.mem_of_getElem? (of_decide_eq_true (List.all_eq_true.mp st_g2 q hq))
    · exact List.mem_of_getElem? (of_decide_eq_true (List.all_eq_true.mp st_g3 q hq))
  rw [Bool.or_eq_true] at hz
  rcases hz with hz | hz
  · obtain ⟨e1, e2⟩ := of_decide_eq_true hz
    rw [e1, e2] at hm
    exact Or.inl hm
  · obtain ⟨e1, e2⟩ := of_decide_eq_true hz
    rw [e1, e2] at hm
    exact Or.inr hm
end
section
/-! THE CLAIM OUT OF ONE WALK OF THE LAW'S BODY. Your part is whole_start (and what it stands on); all else here is the same for every law, but numbers. -/
def R_law : String := "PackageKeeperLaw"
def lw_P (b : Addr) (xs : List Int32) (args : Array Value) (s : State) : Prop := args = #[.ref b] ∧ s.IntsAt b xs ∧ xs.length ≤ 6 ∧ (Jvm.Cond.and given_1 narrow_1).before args s = true
def lw_Q (_ : Array Value) (s : State) (o : Outcome) (t : State) : Prop := o = .returned (some (.int 1)) ∧ Framed s o t [] 600000 7302250
def lw_Z (below : List Frame) (a : Array Value) (s : State) : State → Prop := fun t => ∃ o, t.status = .running ∧ Ended t below o ∧ lw_Q a s o t
/-- the law's own end, with 1 on the stack, nothing written that was there before, its room as the claim has it -/
theorem lw_ret {p : Program} {l : Launch} {e : Env} {s : State} {m : MethodId} {below : List Frame} {meth : Method} {c : Code} {b : Nat} (hx : p.tables.exec = Jvm.exec) (hb : c.code = code) (hr : meth.sig.returnType = ret) (hlocks : meth.locks = false) {pc : Nat} {H : Heap} {ls : Array Slot} (hdg : decode code pc = .ok (.ireturn, 1)) : W p l e room_1 s m #[Value.ref b] below meth c H [] 600000 7302250 (lw_Z below #[Value.ref b] s) (F0 m pc ls [.int 1]) := by
  intro T hT X
  obtain ⟨fs, hret, hrun, hended, hW, hframe⟩ := X.leave (v := some (.int 1)) (hlocks := hlocks) (fun h => by rw [hr] at h; cases h)
  have hmeth' : T.vm.method? m = some meth := X.method'
  refine ⟨T.setFrames fs, ?_, .returned (some (.int 1)), hrun, hended, rfl, ⟨_, rfl⟩, hW, hframe⟩
  jvm_step X.here [X.here.top, hx, hb, hdg, hmeth', hr, ret, narrow_b1]
  (try refine ⟨rfl, ?_⟩); (try refine ⟨rfl, ?_⟩)
  first | (intro acts; rw [hret _ acts rfl rfl rfl]) | rw [hret _ _ rfl rfl rfl]
  exact Steps.refl _
/-- what holds at the law's entry: the machine, the code, the tables' words (any of lw_tbl by 'hts w (by decide +kernel)'), the script of L ints xs at the cell b, what the Statement gives of the start (any of its parts by flat_of_before) -/
def lw_At (p : Program) (s : State) (m : MethodId) (meth : Method) (c : Code) (b L : Nat) (xs : Nat → Int32) : Prop :=
  p.tables.exec = Jvm.exec ∧ c.code = code ∧ meth.sig.returnType = ret ∧ c.maxLocals = 4 ∧ s.vm.findClass R_law = some m.cls ∧ (∀ w ∈ lw_tbl, w.before #[Value.ref b] s = true) ∧ va_X b L xs s s.heap ∧ b < s.heap.size ∧ meth.locks = false ∧ (Jvm.Cond.and given_1 narrow_1).before #[Value.ref b] s = true
theorem st_S {s : State} {b : Nat} (hgv : (Jvm.Cond.and given_1 narrow_1).before #[Value.ref b] s = true) (hts0 : ∀ w ∈ lw_tbl, w.before #[Value.ref b] s = true) : ∃ sa : Nat → Nat, sa 1000 = b ∧ ab_S s.heap.size sa s s.heap := by
  have hs : ∀ w ∈ st_fl, w.before #[Value.ref b] s = true := flat_of_before _ hgv
  have hA : ∀ a : Nat, a < s.heap.size → ¬ (fun q => s.heap.size ≤ q) a := fun a h => Nat.not_le.mpr h
  obtain ⟨adK, adV, hS, hE⟩ := vk_Sof (N := tb_sn) (tm := st_t) (len := tb_sl) (byt := tb_sb) (A := fun q => s.heap.size ≤ q) (by decide +kernel) (fun i hi => hs _ (st_f1 i hi)) (fun i hi => hs _ (st_f2 i hi)) (fun i hi => hs _ (st_f3 i hi)) (fun i hi => hs _ (st_f4 i hi)) (fun i hi j hj => hs _ (st_f5 i hi j hj)) (fun i j hi hj hij => (st_f6 i hi j hj hij).imp (hs _) (hs _)) hA
  have e1 : ∀ i, i < tb_sn → (fun k => if k = 1000 then b else if k < 1000 then adK k else adV (k - 2000)) i = adK i := fun i hi => by
    unfold tb_sn at hi
    show (if i = 1000 then b else if i < 1000 then adK i else adV (i - 2000)) = adK i
    rw [if_neg (by omega), if_pos (by omega)]
  have e2 : ∀ i, (fun k => if k = 1000 then b else if k < 1000 then adK k else adV (k - 2000)) (2000 + i) = adV i := fun i => by
    show (if 2000 + i = 1000 then b else if 2000 + i < 1000 then adK (2000 + i) else adV (2000 + i - 2000)) = adV i
    rw [if_neg (by omega), if_neg (by omega), Nat.add_sub_cancel_left]
  refine ⟨fun k => if k = 1000 then b else if k < 1000 then adK k else adV (k - 2000), rfl, ⟨fun i hi => ?_, fun i j hi hj h => ?_⟩, fun z hz => ?_, fun z hz => ?_⟩
  · rw [e1 i hi, e2 i]
    exact hS.1 i hi
  · rw [e1 i hi, e1 j hj] at h
    exact hS.2 i j hi hj h
  · simp only [tb_zv, List.mem_cons, List.not_mem_nil, or_false] at hz
    subst hz
    exact va_Zof (hts0 _ (List.mem_of_getElem? (i := 350) (by decide +kernel))) (hts0 _ (List.mem_of_getElem? (i := 58) (by decide +kernel))) (va_eqi (hs _ (by decide +kernel))) hA
  · simp only [tb_sr, List.mem_cons, List.not_mem_nil, or_false] at hz
    rcases hz with rfl | rfl | rfl | rfl | rfl | rfl | rfl | rfl | rfl | rfl | rfl | rfl | rfl | rfl | rfl | rfl | rfl | rfl
    · rw [e1 0 (by decide)]
      exact vk_R.of (hts0 _ (List.mem_of_getElem? (i := 336) (by decide +kernel))) (hE 0 (by decide))
    · rw [e1 1 (by decide)]
      exact vk_R.of (hts0 _ (List.mem_of_getElem? (i := 389) (by decide +kernel))) (hE 1 (by decide))
    · rw [e1 2 (by decide)]
      exact vk_R.of (hts0 _ (List.mem_of_getElem? (i := 390) (by decide +kernel))) (hE 2 (by decide))
    · rw [e1 4 (by decide)]
      exact vk_R.of (hts0 _ (List.mem_of_getElem? (i := 552) (by decide +kernel))) (hE 4 (by decide))
    · rw [e1 3 (by decide)]
      exact vk_R.of (hts0 _ (List.mem_of_getElem? (i := 517) (by decide +kernel))) (hE 3 (by decide))
    · rw [e1 2 (by decide)]
      exact vk_R.of (hts0 _ (List.mem_of_getElem? (i := 1132) (by decide +kernel))) (va_eqR (hs (Jvm.Cond.eq (.string "PackageKeeper$Reader" 90) (.string "PackageKeeperModel" 98)) (by decide +kernel)) (hE 2 (by decide)))
    · rw [e1 0 (by decide)]
      exact vk_R.of (hts0 _ (List.mem_of_getElem? (i := 1122) (by decide +kernel))) (va_eqR (hs (Jvm.Cond.eq (.string "PackageKeeper$Reader" 81) (.string "PackageKeeperModel" 90)) (by decide +kernel)) (hE 0 (by decide)))
    · rw [e1 1 (by decide)]
      exact vk_R.of (hts0 _ (List.mem_of_getElem? (i := 1131) (by decide +kernel))) (va_eqR (hs (Jvm.Cond.eq (.string "PackageKeeper$Reader" 86) (.string "PackageKeeperModel" 96)) (by decide +kernel)) (hE 1 (by decide)))
    · rw [e1 5 (by decide)]
      exact vk_R.of (hts0 _ (List.mem_of_getElem? (i := 1223) (by decide +kernel))) (hE 5 (by decide))
    · rw [e1 4 (by decide)]
      exact vk_R.of (hts0 _ (List.mem_of_getElem? (i := 1258) (by decide +kernel))) (va_eqR (hs (Jvm.Cond.eq (.string "PackageKeeper$Reader" 52) (.string "PackageKeeperModel" 163)) (by decide +kernel)) (hE 4 (by decide)))
    · rw [e1 3 (by decide)]
      exact vk_R.of (hts0 _ (List.mem_of_getElem? (i := 1259) (by decide +kernel))) (va_eqR (hs (Jvm.Cond.eq (.string "PackageKeeper$Reader" 109) (.string "PackageKeeperModel" 165)) (by decide +kernel)) (hE 3 (by decide)))
    · rw [e1 6 (by decide)]
      exact vk_R.of (hts0 _ (List.mem_of_getElem? (i := 1263) (by decide +kernel))) (hE 6 (by decide))
    · rw [e1 7 (by decide)]
      exact vk_R.of (hts0 _ (List.mem_of_getElem? (i := 1306) (by decide +kernel))) (hE 7 (by decide))
    · rw [e1 8 (by decide)]
      exact vk_R.of (hts0 _ (List.mem_of_getElem? (i := 1307) (by decide +kernel))) (hE 8 (by decide))
    · rw [e1 9 (by decide)]
      exact vk_R.of (hts0 _ (List.mem_of_getElem? (i := 1308) (by decide +kernel))) (hE 9 (by decide))
    · rw [e1 10 (by decide)]
      exact vk_R.of (hts0 _ (List.mem_of_getElem? (i := 1309) (by decide +kernel))) (hE 10 (by decide))
    · rw [e1 11 (by decide)]
      exact vk_R.of (hts0 _ (List.mem_of_getElem? (i := 1310) (by decide +kernel))) (hE 11 (by decide))
    · rw [e1 12 (by decide)]
      exact vk_R.of (hts0 _ (List.mem_of_getElem? (i := 1314) (by decide +kernel))) (hE 12 (by decide))
/-- the law's method, its number among the tables' -/
abbrev st_M : Nat := 182
/-- a pure run of the law gives the walk of its body -/
theorem st_go {p : Program} {e : Env} {s : State} {m : MethodId} {below : List Frame} {meth : Method} {c : Code} (l : Launch) {b L : Nat} {xs : Nat → Int32} (C0 : lw_At p s m meth c b L xs) {n : Nat} {h' : List va_E} (hg : ab_g (L, xs) n 1000 st_M 0 [some (.retAddr 1000), none, none, none] [] [] = some (some (.int 1), h')) (hc : h'.length ≤ 600000) (hs : ab_sl tb_nf h' ≤ 7302250) :
    W p l e room_1 s m #[Value.ref b] below meth c s.heap [] 0 0 (lw_Z below #[Value.ref b] s) (entryFrame m ([Value.ref b] : List Value).toArray 4) := by
  obtain ⟨hx, hb, hr, hml, hown, hts0, hX, hbl, hlk, hgv⟩ := C0
  have hts : ∀ w ∈ tb_ws, w.before #[Value.ref b] s = true := fun w hw => hts0 w (st_ws w hw)
  have hnw : ∀ w ∈ tb_nw, va_Nw w s := fun w hw => va_Nw.of (ab_nw_on hw) (hts0 w (st_in st_nw w hw))
  have hao : ∀ C ∈ tb_ao, va_AO C s := fun C hC => va_AO.of (hts0 _ (st_in st_ao _ (List.mem_map.mpr ⟨C, hC, rfl⟩)))
  obtain ⟨D, dA, hK⟩ := st_K hts hao
  obtain ⟨sa, hsa, hS9⟩ := st_S hgv hts0
  have hC : ab_C (L, xs) s.heap.size sa p room_1 s m #[Value.ref b] meth c D dA st_M := ⟨by decide, hx, hb, hml, hown, hts, hK, hnw, hao, hr, hlk, fun q => absurd q (by decide +kernel), by decide, by decide, by rw [hsa]; exact hX, by rw [hsa]; exact hbl, by rw [hsa]; exact Nat.not_le.mpr hbl, hS9⟩
  have hJ := ab_all (L, xs) l n 1000 st_M 0 _ [] [] _ h' hg p e room_1 s m #[Value.ref b] below meth c s.heap.size sa D dA 0 0 (lw_Z below #[Value.ref b] s) hc hs (by decide) (by decide) (Nat.le_refl _) (Nat.le_refl _) hC (fun pc L2 st i r hq hxx _ => by
    have hok := ck_mem (by decide) hq
    unfold ab_ok at hok
    rw [Bool.and_eq_true] at hok
    have hd := of_decide_eq_true hok.1
    dsimp only at hd
    intro H locs ls a1 a2 a3 a4 a5 a6
    refine va_forget (fun q hq => a2.2.2 q hq) ?_
    refine W.widen (k := 600000) (n := 7302250) (by omega) (by omega) ?_
    cases i with
    | ireturn =>
      simp only [ab_x] at hxx
      split at hxx
      · cases hxx
        exact lw_ret hx hb hr hlk hd
      · cases hxx
    | _ =>
      simp only [ab_x, ab_n] at hxx
      repeat' split at hxx
      all_goals cases hxx)
  have h1 := hJ s.heap [] _ ⟨rfl, fun i e he => by cases he⟩ va_S.rf (ab_en_ok s.heap.size sa [.retAddr 1000] (nL := 4) (by decide)) rfl (Nat.le_refl _) (Nat.le_refl _)
  rw [lg_entry_eq]
  have e9 : ([.retAddr 1000] : List Value).map (ab_v s.heap.size sa) = [Value.ref b] := by rw [← hsa]; rfl
  rw [e9] at h1
  exact h1
end
section
/-! A FRESH KEEPER AND A FRESH REFERENCE: the heap behind the two constructors. -/
section RT8
variable {X : Nat × (Nat → Int32)} {d M pc : Nat} {L : ab_Lo} {st : List Value} {h : List va_E} {Q : Option Value → List va_E → Prop}
theorem rt_if {cd : Jvm.ClassFile.Cond} {off : Int} {r : Nat} {x : Int32} (hi : ab_k (tb_il M) pc = some (.ifCond cd off, r)) (kt : ab_cd cd x 0 = true → rt_ X d M r L st h Q) (kf : ab_cd cd x 0 = false → rt_ X d M (pc + 3) L st h Q) : rt_ X d M pc L (.int x :: st) h Q := by
  cases hc : ab_cd cd x 0 with
  | true => exact rt_n (by unfold ab_s; rw [hi]; simp only [ab_x, ab_n, hc, if_true]) (kt hc)
  | false => exact rt_n (by unfold ab_s; rw [hi]; simp only [ab_x, ab_n, hc]; rfl) (kf hc)
theorem rt_ic {cd : Jvm.ClassFile.Cond} {off : Int} {r : Nat} {x y : Int32} (hi : ab_k (tb_il M) pc = some (.if_icmp cd off, r)) (kt : ab_cd cd x y = true → rt_ X d M r L st h Q) (kf : ab_cd cd x y = false → rt_ X d M (pc + 3) L st h Q) : rt_ X d M pc L (.int y :: .int x :: st) h Q := by
  cases hc : ab_cd cd x y with
  | true => exact rt_n (by unfold ab_s; rw [hi]; simp only [ab_x, ab_n, hc, if_true]) (kt hc)
  | false => exact rt_n (by unfold ab_s; rw [hi]; simp only [ab_x, ab_n, hc]; rfl) (kf hc)
end RT8
def hp_a (t n : Nat) : va_E := .inl (t, n, .inl (fun _ => 0))
def hp_l (t n : Nat) : va_E := .inl (t, n, .inr (.inl (fun _ => 0)))
def hp_q (t n : Nat) : va_E := .inl (t, n, .inr (.inr (.inr (.inr (fun _ => none)))))
def hp_x : List va_E := [.inr (0, [.ref 1, .ref 3, .ref 4, .ref 6, .ref 9, .ref 14]), .inr (1, [.ref 2, .int 0]), hp_a 0 400, .inr (2, [.ref 1, .int 0, .int 0, .int 0]), .inr (3, [.ref 5, .int 0, .int 0]), hp_q 5 32, .inr (4, [.ref 7, .ref 8, .int 0]), hp_l 1 6, hp_q 6 6,
  .inr (5, [.ref 4, .ref 6, .ref 10, .ref 11, .int 0, .ref 12, .ref 13, .int 0, .int 0, .int 0, .int 0, .int 0, .int 0]), hp_a 2 8, hp_l 1 8, hp_a 2 32, hp_a 2 32, .inr (6, [.ref 15, .int 1, .int 0, .ref 16, .ref 17, .int 0]), .inl (7, 4, .inr (.inr (.inr (.inr (va_up (fun _ => none) 0 (some 18)))))), hp_a 2 16, hp_a 2 16, .inr (7, [.ref 20, .ref 21, .int 0]), hp_q 5 0, hp_q 5 0, hp_a 2 0, hp_a 2 0]
def hp_m : List va_E := [.inr (12, [.ref 24, .int 0, .ref 25, .int 0, .int 0, .ref 26, .int 0, .int 0, .ref 27, .ref 28, .int 0, .ref 29, .int 1, .int 0, .ref 30, .ref 31, .int 0, .ref 32, .int 0, .ref 33, .ref 34, .int 0, .int 0, .ref 35]), hp_a 0 400, hp_q 9 400, hp_q 10 32, hp_q 9 6, hp_q 11 6, .inl (12, 4, .inr (.inr (.inr (.inr (va_up (fun _ => none) 0 (some 36)))))), hp_q 10 16, hp_a 4 16, hp_q 9 8, hp_q 10 8, hp_q 10 8, hp_a 4 8, .inr (13, [.ref 37, .ref 38, .int 0]), hp_q 10 8, hp_a 2 8]
def hp_0 : List va_E := hp_x ++ hp_m
set_option maxRecDepth 100000 in
set_option maxHeartbeats 4000000 in
theorem ev_x (X : Nat × (Nat → Int32)) : ab_g X 200 999 0 0 [some (.ref 0)] [] [.inr (0, [.null, .null, .null, .null, .null, .null])] = some (none, hp_x) := rfl
set_option maxRecDepth 100000 in
set_option maxHeartbeats 4000000 in
theorem ev_m (X : Nat × (Nat → Int32)) : ab_g X 200 999 125 0 [some (.ref 23)] [] (hp_x ++ [.inr (12, [.null, .int 0, .null, .int 0, .int 0, .null, .int 0, .int 0, .null, .null, .int 0, .null, .int 0, .int 0, .null, .null, .int 0, .null, .int 0, .null, .null, .int 0, .int 0, .null])]) = some (none, hp_0) := rfl
section RT9
variable {X : Nat × (Nat → Int32)} {d M pc : Nat} {L : ab_Lo} {st : List Value} {h : List va_E} {Q : Option Value → List va_E → Prop}
theorem rt_e {n1 M' : Nat} {as rest : List Value} {v : Option Value} {h' : List va_E} (hs : ab_s X M pc L st h = some (.inr (.inl (M', as, rest)))) (hc : ab_cok M' as rest = true) (e : ab_g X n1 d M' 0 (ab_en as ++ List.replicate (tb_max M' - (ab_en as).length) none) [] h = some (v, h')) (k : rt_ X (d + 1) M (pc + 3) L (v.toList ++ rest) h' Q) : rt_ X (d + 1) M pc L st h Q :=
  rt_c hs hc (P := fun v2 h2 => v2 = v ∧ h2 = h') ⟨n1, v, h', e, rfl, rfl⟩ (fun v2 h2 q => by obtain ⟨rfl, rfl⟩ := q; exact k)
theorem rt_i {M' : Nat} {as rest : List Value} (hs : ab_s X M pc L st h = some (.inr (.inl (M', as, rest)))) (hc : ab_cok M' as rest = true) (k : rt_ X d M' 0 (ab_en as ++ List.replicate (tb_max M' - (ab_en as).length) none) [] h (fun v h' => rt_ X (d + 1) M (pc + 3) L (v.toList ++ rest) h' Q)) : rt_ X (d + 1) M pc L st h Q :=
  rt_c hs hc k (fun _ _ p => p)
end RT9
set_option maxRecDepth 100000 in
set_option maxHeartbeats 4000000 in
/-- the law up to its loop -/
theorem lp_0 {X : Nat × (Nat → Int32)} {Q : Option Value → List va_E → Prop} (k : rt_ X 1000 182 18 [some (.retAddr 1000), some (.ref 0), some (.ref 23), some (.int 0)] [] hp_0 Q) : rt_ X 1000 182 0 [some (.retAddr 1000), none, none, none] [] [] Q := by
  refine rt_k (k := 2) (pc' := 4) (L' := [some (.retAddr 1000), none, none, none]) (st' := [.ref 0, .ref 0]) (h' := [.inr (0, [.null, .null, .null, .null, .null, .null])]) (fun n => rfl) ?_
  refine rt_e (n1 := 200) (M' := 0) (as := [.ref 0]) (rest := [.ref 0]) rfl rfl (ev_x X) ?_
  refine rt_k (k := 3) (pc' := 12) (L' := [some (.retAddr 1000), some (.ref 0), none, none]) (st' := [.ref 23, .ref 23]) (h' := hp_x ++ [.inr (12, [.null, .int 0, .null, .int 0, .int 0, .null, .int 0, .int 0, .null, .null, .int 0, .null, .int 0, .int 0, .null, .null, .int 0, .null, .int 0, .null, .null, .int 0, .int 0, .null])]) (fun n => rfl) ?_
  refine rt_e (n1 := 200) (M' := 125) (as := [.ref 23]) (rest := [.ref 23]) rfl rfl (ev_m X) ?_
  exact rt_k (k := 3) (pc' := 18) (L' := [some (.retAddr 1000), some (.ref 0), some (.ref 23), some (.int 0)]) (st' := []) (h' := hp_0) (fun n => rfl) k
set_option maxRecDepth 100000 in
set_option maxHeartbeats 4000000 in
/-- the law's end behind one call -/
theorem lp_9 {xs : Nat → Int32} {h : List va_E} {Q : Option Value → List va_E → Prop} (q : Q (some (.int 1)) h) : rt_ (6, xs) 1000 182 463 [some (.retAddr 1000), some (.ref 0), some (.ref 23), some (.int 0)] [] h Q := by
  refine rt_k (k := 5) (pc' := 21) (L' := [some (.retAddr 1000), some (.ref 0), some (.ref 23), some (.int 6)]) (st' := [.int 6, .int 6]) (h' := h) (fun n => rfl) ?_
  refine rt_k (k := 4) (pc' := 470) (L' := [some (.retAddr 1000), some (.ref 0), some (.ref 23), some (.int 6)]) (st' := [.int 1]) (h' := h) (fun n => rfl) ?_
  exact rt_r (v := some (.int 1)) rfl rfl q
theorem i_01 {x : Int32} (h0 : ab_cd .lt x 0 = false) (h1 : ab_cd .gt x 1 = false) : x = 0 ∨ x = 1 := by
  simp only [ab_cd, decide_eq_false_iff_not] at h0 h1
  obtain ⟨j, hj, rfl⟩ := nI_of2 (M := 1) (n := 1) (by decide) h0 (Int32.not_lt.mp h1)
  have : j = 0 ∨ j = 1 := by omega
  rcases this with rfl | rfl
  · exact Or.inl rfl
  · exact Or.inr rfl
theorem i_0l {x : Int32} (h0 : ab_cd .lt x 0 = true) : ¬ (x = 0 ∨ x = 1) := by
  intro q
  rcases q with rfl | rfl <;> exact absurd h0 (by decide)
theorem i_0g {x : Int32} (h0 : ab_cd .gt x 1 = true) : ¬ (x = 0 ∨ x = 1) := by
  intro q
  rcases q with rfl | rfl <;> exact absurd h0 (by decide)
theorem i_eq {x y : Int32} (h : ab_cd .eq x y = true) : x = y := of_decide_eq_true h
theorem i_ne {x y : Int32} (h : ab_cd .eq x y = false) : ¬ x = y := of_decide_eq_false h
theorem i_eq2 {x y : Int32} (h : ab_cd .ne x y = false) : x = y := by
  simp only [ab_cd, Bool.not_eq_false', decide_eq_true_eq] at h
  exact h
theorem i_ne2 {x y : Int32} (h : ab_cd .ne x y = true) : ¬ x = y := by
  simp only [ab_cd, Bool.not_eq_true', decide_eq_false_iff_not] at h
  exact h
set_option maxRecDepth 100000 in
set_option maxHeartbeats 4000000 in
/-- the law's loop, its first turn, up to the switch -/
theorem lp_1 {xs : Nat → Int32} {Q : Option Value → List va_E → Prop} (k : rt_ (6, xs) 1000 182 33 [some (.retAddr 1000), some (.ref 0), some (.ref 23), some (.int 0)] [.int (xs 0 &&& 15)] hp_0 Q) : rt_ (6, xs) 1000 182 18 [some (.retAddr 1000), some (.ref 0), some (.ref 23), some (.int 0)] [] hp_0 Q := by
  refine rt_k (k := 3) (pc' := 21) (L' := [some (.retAddr 1000), some (.ref 0), some (.ref 23), some (.int 0)]) (st' := [.int 6, .int 0]) (h' := hp_0) (fun n => rfl) ?_
  refine rt_k (k := 3) (pc' := 27) (L' := [some (.retAddr 1000), some (.ref 0), some (.ref 23), some (.int 0)]) (st' := []) (h' := hp_0) (fun n => rfl) ?_
  exact rt_k (k := 5) (pc' := 33) (L' := [some (.retAddr 1000), some (.ref 0), some (.ref 23), some (.int 0)]) (st' := [.int (xs 0 &&& 15)]) (h' := hp_0) (fun n => rfl) k
/-- what the claim wants at the end -/
def lp_Q (v : Option Value) (h' : List va_E) : Prop := v = some (.int 1) ∧ h'.length ≤ 600000 ∧ ab_sl tb_nf h' ≤ 7302250
end
section
/-! EACH FIRST CALL OF THE LAW. -/
theorem k_0 : (0 : Int32).toInt = 0 := by decide +kernel
theorem k_1 : (1 : Int32).toInt = 1 := by decide +kernel
theorem k_im1 : (Int32.ofInt (-1)).toInt = -1 := by decide +kernel
theorem k_i0 : (Int32.ofInt 0).toInt = 0 := by decide +kernel
theorem k_i1 : (Int32.ofInt 1).toInt = 1 := by decide +kernel
theorem k_i2 : (Int32.ofInt 2).toInt = 2 := by decide +kernel
theorem k_i3 : (Int32.ofInt 3).toInt = 3 := by decide +kernel
theorem k_i4 : (Int32.ofInt 4).toInt = 4 := by decide +kernel
theorem k_i5 : (Int32.ofInt 5).toInt = 5 := by decide +kernel
theorem k_b7 : ((Int8.ofInt (-7)).toInt32).toInt = -7 := by decide +kernel
theorem k_b6 : ((Int8.ofInt (-6)).toInt32).toInt = -6 := by decide +kernel
theorem k_b5 : ((Int8.ofInt (-5)).toInt32).toInt = -5 := by decide +kernel
theorem k_b4 : ((Int8.ofInt (-4)).toInt32).toInt = -4 := by decide +kernel
theorem k_b3 : ((Int8.ofInt (-3)).toInt32).toInt = -3 := by decide +kernel
theorem k_b2 : ((Int8.ofInt (-2)).toInt32).toInt = -2 := by decide +kernel
theorem k_b1 : ((Int8.ofInt (-1)).toInt32).toInt = -1 := by decide +kernel
set_option maxRecDepth 100000 in
set_option maxHeartbeats 4000000 in
theorem lp_h0 : lp_Q (some (.int (Int32.ofInt 1))) hp_0 := ⟨rfl, by decide +kernel, by decide +kernel⟩
theorem ok_s {v : Option Value} {h : List va_E} {i : Nat} {e e' : va_E} (k : lp_Q v h) (hi : h[i]? = some e) (hz : ab_z tb_nf e' = ab_z tb_nf e) : lp_Q v (h.set i e') := ⟨k.1, by rw [List.length_set]; exact k.2.1, by rw [ab_sl_set tb_nf h i e e' hi hz]; exact k.2.2⟩
section RT10
variable {X : Nat × (Nat → Int32)} {d M pc : Nat} {L : ab_Lo} {st : List Value} {h : List va_E} {Q : Option Value → List va_E → Prop}
theorem rt_t6 {dflt o0 o1 o2 o3 o4 o5 : Int} {r : Nat} {x : Int32} (hi : ab_k (tb_il M) pc = some (.tableswitch dflt 0 5 #[o0, o1, o2, o3, o4, o5], r)) (hn : 0 ≤ (pc : Int) + dflt ∧ 0 ≤ (pc : Int) + o0 ∧ 0 ≤ (pc : Int) + o1 ∧ 0 ≤ (pc : Int) + o2 ∧ 0 ≤ (pc : Int) + o3 ∧ 0 ≤ (pc : Int) + o4 ∧ 0 ≤ (pc : Int) + o5) (kd : (x.toInt < 0 ∨ 5 < x.toInt) → rt_ X d M ((pc : Int) + dflt).toNat L st h Q)
    (k0 : x.toInt = 0 → rt_ X d M ((pc : Int) + o0).toNat L st h Q) (k1 : x.toInt = 1 → rt_ X d M ((pc : Int) + o1).toNat L st h Q) (k2 : x.toInt = 2 → rt_ X d M ((pc : Int) + o2).toNat L st h Q) (k3 : x.toInt = 3 → rt_ X d M ((pc : Int) + o3).toNat L st h Q) (k4 : x.toInt = 4 → rt_ X d M ((pc : Int) + o4).toNat L st h Q) (k5 : x.toInt = 5 → rt_ X d M ((pc : Int) + o5).toNat L st h Q) : rt_ X d M pc L (.int x :: st) h Q := by
  obtain ⟨nd, n0, n1, n2, n3, n4, n5⟩ := hn
  have hs : ab_s X M pc L (.int x :: st) h = ab_x X r pc (.tableswitch dflt 0 5 #[o0, o1, o2, o3, o4, o5]) L (.int x :: st) h := by unfold ab_s; rw [hi]
  simp only [ab_x] at hs
  by_cases hd : x.toInt < 0 ∨ 5 < x.toInt
  · rw [if_pos hd, if_pos nd] at hs
    exact rt_n hs (kd hd)
  · rw [if_neg hd] at hs
    have hj : x.toInt = 0 ∨ x.toInt = 1 ∨ x.toInt = 2 ∨ x.toInt = 3 ∨ x.toInt = 4 ∨ x.toInt = 5 := by omega
    rcases hj with q | q | q | q | q | q
    · rw [q] at hs
      exact rt_n (hs.trans (if_pos n0)) (k0 q)
    · rw [q] at hs
      exact rt_n (hs.trans (if_pos n1)) (k1 q)
    · rw [q] at hs
      exact rt_n (hs.trans (if_pos n2)) (k2 q)
    · rw [q] at hs
      exact rt_n (hs.trans (if_pos n3)) (k3 q)
    · rw [q] at hs
      exact rt_n (hs.trans (if_pos n4)) (k4 q)
    · rw [q] at hs
      exact rt_n (hs.trans (if_pos n5)) (k5 q)
end RT10
end
section
/-! feed ON A FRESH KEEPER AND A FRESH REFERENCE. -/
def hp_f (n : Int32) (f : Nat → Int32) (m : Int32) (g : Nat → Int32) : List va_E := [.inr (0, [.ref 1, .ref 3, .ref 4, .ref 6, .ref 9, .ref 14]), .inr (1, [.ref 2, .int n]), .inl (0, 400, .inl f), .inr (2, [.ref 1, .int 0, .int 0, .int 0]), .inr (3, [.ref 5, .int 0, .int 0]), hp_q 5 32, .inr (4, [.ref 7, .ref 8, .int 0]), hp_l 1 6, hp_q 6 6, .inr (5, [.ref 4, .ref 6, .ref 10, .ref 11, .int 0, .ref 12, .ref 13, .int 0, .int 0, .int 0, .int 0, .int 0, .int 0]), hp_a 2 8, hp_l 1 8, hp_a 2 32, hp_a 2 32, .inr (6, [.ref 15, .int 1, .int 0, .ref 16, .ref 17, .int 0]), .inl (7, 4, .inr (.inr (.inr (.inr (va_up (fun _ => none) 0 (some 18)))))), hp_a 2 16, hp_a 2 16, .inr (7, [.ref 20, .ref 21, .int 0]), hp_q 5 0, hp_q 5 0, hp_a 2 0, hp_a 2 0, .inr (12, [.ref 24, .int m, .ref 25, .int 0, .int 0, .ref 26, .int 0, .int 0, .ref 27, .ref 28, .int 0, .ref 29, .int 1, .int 0, .ref 30, .ref 31, .int 0, .ref 32, .int 0, .ref 33, .ref 34, .int 0, .int 0, .ref 35]), .inl (0, 400, .inl g), hp_q 9 400, hp_q 10 32, hp_q 9 6, hp_q 11 6, .inl (12, 4, .inr (.inr (.inr (.inr (va_up (fun _ => none) 0 (some 36)))))), hp_q 10 16, hp_a 4 16, hp_q 9 8, hp_q 10 8, hp_q 10 8, hp_a 4 8, .inr (13, [.ref 37, .ref 38, .int 0]), hp_q 10 8, hp_a 2 8]
set_option maxRecDepth 100000 in
set_option maxHeartbeats 4000000 in
theorem xl_0 {X : Nat × (Nat → Int32)} {d : Nat} {f g : Nat → Int32} {m a : Int32} {Q : Option Value → List va_E → Prop} (k : ∀ f', rt_ X d 15 3 [some (.ref 1), some (.int a), some (.int (16))] [] (hp_f 1 f' m g) Q) : rt_ X d 15 3 [some (.ref 1), some (.int a), some (.int 24)] [] (hp_f 0 f m g) Q :=
  rt_k (k := 25) (pc' := 3) (L' := [some (.ref 1), some (.int a), some (.int (16))]) (st' := []) (h' := hp_f 1 (upd f 0 (vp_nar .char ((((a.toUInt32 >>> ((24 : Int32).toUInt32 &&& Int32.toUInt32 31)).toInt32 &&& 255).toUInt32 % 65536).toInt32))) m g) (fun _ => rfl) (k _)
set_option maxRecDepth 100000 in
set_option maxHeartbeats 4000000 in
theorem xl_1 {X : Nat × (Nat → Int32)} {d : Nat} {f g : Nat → Int32} {m a : Int32} {Q : Option Value → List va_E → Prop} (k : ∀ f', rt_ X d 15 3 [some (.ref 1), some (.int a), some (.int (8))] [] (hp_f 2 f' m g) Q) : rt_ X d 15 3 [some (.ref 1), some (.int a), some (.int 16)] [] (hp_f 1 f m g) Q :=
  rt_k (k := 25) (pc' := 3) (L' := [some (.ref 1), some (.int a), some (.int (8))]) (st' := []) (h' := hp_f 2 (upd f 1 (vp_nar .char ((((a.toUInt32 >>> ((16 : Int32).toUInt32 &&& Int32.toUInt32 31)).toInt32 &&& 255).toUInt32 % 65536).toInt32))) m g) (fun _ => rfl) (k _)
set_option maxRecDepth 100000 in
set_option maxHeartbeats 4000000 in
theorem xl_2 {X : Nat × (Nat → Int32)} {d : Nat} {f g : Nat → Int32} {m a : Int32} {Q : Option Value → List va_E → Prop} (k : ∀ f', rt_ X d 15 3 [some (.ref 1), some (.int a), some (.int (0))] [] (hp_f 3 f' m g) Q) : rt_ X d 15 3 [some (.ref 1), some (.int a), some (.int 8)] [] (hp_f 2 f m g) Q :=
  rt_k (k := 25) (pc' := 3) (L' := [some (.ref 1), some (.int a), some (.int (0))]) (st' := []) (h' := hp_f 3 (upd f 2 (vp_nar .char ((((a.toUInt32 >>> ((8 : Int32).toUInt32 &&& Int32.toUInt32 31)).toInt32 &&& 255).toUInt32 % 65536).toInt32))) m g) (fun _ => rfl) (k _)
set_option maxRecDepth 100000 in
set_option maxHeartbeats 4000000 in
theorem xl_3 {X : Nat × (Nat → Int32)} {d : Nat} {f g : Nat → Int32} {m a : Int32} {Q : Option Value → List va_E → Prop} (k : ∀ f', rt_ X d 15 3 [some (.ref 1), some (.int a), some (.int (-8))] [] (hp_f 4 f' m g) Q) : rt_ X d 15 3 [some (.ref 1), some (.int a), some (.int 0)] [] (hp_f 3 f m g) Q :=
  rt_k (k := 25) (pc' := 3) (L' := [some (.ref 1), some (.int a), some (.int (-8))]) (st' := []) (h' := hp_f 4 (upd f 3 (vp_nar .char ((((a.toUInt32 >>> ((0 : Int32).toUInt32 &&& Int32.toUInt32 31)).toInt32 &&& 255).toUInt32 % 65536).toInt32))) m g) (fun _ => rfl) (k _)
set_option maxRecDepth 100000 in
set_option maxHeartbeats 4000000 in
theorem xl_4 {X : Nat × (Nat → Int32)} {d : Nat} {f g : Nat → Int32} {m a : Int32} {Q : Option Value → List va_E → Prop} (k : ∀ f', rt_ X d 15 3 [some (.ref 1), some (.int a), some (.int (16))] [] (hp_f 5 f' m g) Q) : rt_ X d 15 3 [some (.ref 1), some (.int a), some (.int 24)] [] (hp_f 4 f m g) Q :=
  rt_k (k := 25) (pc' := 3) (L' := [some (.ref 1), some (.int a), some (.int (16))]) (st' := []) (h' := hp_f 5 (upd f 4 (vp_nar .char ((((a.toUInt32 >>> ((24 : Int32).toUInt32 &&& Int32.toUInt32 31)).toInt32 &&& 255).toUInt32 % 65536).toInt32))) m g) (fun _ => rfl) (k _)
set_option maxRecDepth 100000 in
set_option maxHeartbeats 4000000 in
theorem xl_5 {X : Nat × (Nat → Int32)} {d : Nat} {f g : Nat → Int32} {m a : Int32} {Q : Option Value → List va_E → Prop} (k : ∀ f', rt_ X d 15 3 [some (.ref 1), some (.int a), some (.int (8))] [] (hp_f 6 f' m g) Q) : rt_ X d 15 3 [some (.ref 1), some (.int a), some (.int 16)] [] (hp_f 5 f m g) Q :=
  rt_k (k := 25) (pc' := 3) (L' := [some (.ref 1), some (.int a), some (.int (8))]) (st' := []) (h' := hp_f 6 (upd f 5 (vp_nar .char ((((a.toUInt32 >>> ((16 : Int32).toUInt32 &&& Int32.toUInt32 31)).toInt32 &&& 255).toUInt32 % 65536).toInt32))) m g) (fun _ => rfl) (k _)
set_option maxRecDepth 100000 in
set_option maxHeartbeats 4000000 in
theorem xl_6 {X : Nat × (Nat → Int32)} {d : Nat} {f g : Nat → Int32} {m a : Int32} {Q : Option Value → List va_E → Prop} (k : ∀ f', rt_ X d 15 3 [some (.ref 1), some (.int a), some (.int (0))] [] (hp_f 7 f' m g) Q) : rt_ X d 15 3 [some (.ref 1), some (.int a), some (.int 8)] [] (hp_f 6 f m g) Q :=
  rt_k (k := 25) (pc' := 3) (L' := [some (.ref 1), some (.int a), some (.int (0))]) (st' := []) (h' := hp_f 7 (upd f 6 (vp_nar .char ((((a.toUInt32 >>> ((8 : Int32).toUInt32 &&& Int32.toUInt32 31)).toInt32 &&& 255).toUInt32 % 65536).toInt32))) m g) (fun _ => rfl) (k _)
set_option maxRecDepth 100000 in
set_option maxHeartbeats 4000000 in
theorem xl_7 {X : Nat × (Nat → Int32)} {d : Nat} {f g : Nat → Int32} {m a : Int32} {Q : Option Value → List va_E → Prop} (k : ∀ f', rt_ X d 15 3 [some (.ref 1), some (.int a), some (.int (-8))] [] (hp_f 8 f' m g) Q) : rt_ X d 15 3 [some (.ref 1), some (.int a), some (.int 0)] [] (hp_f 7 f m g) Q :=
  rt_k (k := 25) (pc' := 3) (L' := [some (.ref 1), some (.int a), some (.int (-8))]) (st' := []) (h' := hp_f 8 (upd f 7 (vp_nar .char ((((a.toUInt32 >>> ((0 : Int32).toUInt32 &&& Int32.toUInt32 31)).toInt32 &&& 255).toUInt32 % 65536).toInt32))) m g) (fun _ => rfl) (k _)
set_option maxRecDepth 100000 in
set_option maxHeartbeats 4000000 in
theorem xl_8 {X : Nat × (Nat → Int32)} {d : Nat} {f g : Nat → Int32} {m a : Int32} {Q : Option Value → List va_E → Prop} (k : ∀ f', rt_ X d 15 3 [some (.ref 1), some (.int a), some (.int (16))] [] (hp_f 9 f' m g) Q) : rt_ X d 15 3 [some (.ref 1), some (.int a), some (.int 24)] [] (hp_f 8 f m g) Q :=
  rt_k (k := 25) (pc' := 3) (L' := [some (.ref 1), some (.int a), some (.int (16))]) (st' := []) (h' := hp_f 9 (upd f 8 (vp_nar .char ((((a.toUInt32 >>> ((24 : Int32).toUInt32 &&& Int32.toUInt32 31)).toInt32 &&& 255).toUInt32 % 65536).toInt32))) m g) (fun _ => rfl) (k _)
set_option maxRecDepth 100000 in
set_option maxHeartbeats 4000000 in
theorem xl_9 {X : Nat × (Nat → Int32)} {d : Nat} {f g : Nat → Int32} {m a : Int32} {Q : Option Value → List va_E → Prop} (k : ∀ f', rt_ X d 15 3 [some (.ref 1), some (.int a), some (.int (8))] [] (hp_f 10 f' m g) Q) : rt_ X d 15 3 [some (.ref 1), some (.int a), some (.int 16)] [] (hp_f 9 f m g) Q :=
  rt_k (k := 25) (pc' := 3) (L' := [some (.ref 1), some (.int a), some (.int (8))]) (st' := []) (h' := hp_f 10 (upd f 9 (vp_nar .char ((((a.toUInt32 >>> ((16 : Int32).toUInt32 &&& Int32.toUInt32 31)).toInt32 &&& 255).toUInt32 % 65536).toInt32))) m g) (fun _ => rfl) (k _)
set_option maxRecDepth 100000 in
set_option maxHeartbeats 4000000 in
theorem xl_10 {X : Nat × (Nat → Int32)} {d : Nat} {f g : Nat → Int32} {m a : Int32} {Q : Option Value → List va_E → Prop} (k : ∀ f', rt_ X d 15 3 [some (.ref 1), some (.int a), some (.int (0))] [] (hp_f 11 f' m g) Q) : rt_ X d 15 3 [some (.ref 1), some (.int a), some (.int 8)] [] (hp_f 10 f m g) Q :=
  rt_k (k := 25) (pc' := 3) (L' := [some (.ref 1), some (.int a), some (.int (0))]) (st' := []) (h' := hp_f 11 (upd f 10 (vp_nar .char ((((a.toUInt32 >>> ((8 : Int32).toUInt32 &&& Int32.toUInt32 31)).toInt32 &&& 255).toUInt32 % 65536).toInt32))) m g) (fun _ => rfl) (k _)
set_option maxRecDepth 100000 in
set_option maxHeartbeats 4000000 in
theorem xl_11 {X : Nat × (Nat → Int32)} {d : Nat} {f g : Nat → Int32} {m a : Int32} {Q : Option Value → List va_E → Prop} (k : ∀ f', rt_ X d 15 3 [some (.ref 1), some (.int a), some (.int (-8))] [] (hp_f 12 f' m g) Q) : rt_ X d 15 3 [some (.ref 1), some (.int a), some (.int 0)] [] (hp_f 11 f m g) Q :=
  rt_k (k := 25) (pc' := 3) (L' := [some (.ref 1), some (.int a), some (.int (-8))]) (st' := []) (h' := hp_f 12 (upd f 11 (vp_nar .char ((((a.toUInt32 >>> ((0 : Int32).toUInt32 &&& Int32.toUInt32 31)).toInt32 &&& 255).toUInt32 % 65536).toInt32))) m g) (fun _ => rfl) (k _)
set_option maxRecDepth 100000 in
set_option maxHeartbeats 4000000 in
theorem xl_12 {X : Nat × (Nat → Int32)} {d : Nat} {f g : Nat → Int32} {m a : Int32} {Q : Option Value → List va_E → Prop} (k : ∀ f', rt_ X d 15 3 [some (.ref 1), some (.int a), some (.int (16))] [] (hp_f 13 f' m g) Q) : rt_ X d 15 3 [some (.ref 1), some (.int a), some (.int 24)] [] (hp_f 12 f m g) Q :=
  rt_k (k := 25) (pc' := 3) (L' := [some (.ref 1), some (.int a), some (.int (16))]) (st' := []) (h' := hp_f 13 (upd f 12 (vp_nar .char ((((a.toUInt32 >>> ((24 : Int32).toUInt32 &&& Int32.toUInt32 31)).toInt32 &&& 255).toUInt32 % 65536).toInt32))) m g) (fun _ => rfl) (k _)
set_option maxRecDepth 100000 in
set_option maxHeartbeats 4000000 in
theorem xl_13 {X : Nat × (Nat → Int32)} {d : Nat} {f g : Nat → Int32} {m a : Int32} {Q : Option Value → List va_E → Prop} (k : ∀ f', rt_ X d 15 3 [some (.ref 1), some (.int a), some (.int (8))] [] (hp_f 14 f' m g) Q) : rt_ X d 15 3 [some (.ref 1), some (.int a), some (.int 16)] [] (hp_f 13 f m g) Q :=
  rt_k (k := 25) (pc' := 3) (L' := [some (.ref 1), some (.int a), some (.int (8))]) (st' := []) (h' := hp_f 14 (upd f 13 (vp_nar .char ((((a.toUInt32 >>> ((16 : Int32).toUInt32 &&& Int32.toUInt32 31)).toInt32 &&& 255).toUInt32 % 65536).toInt32))) m g) (fun _ => rfl) (k _)
set_option maxRecDepth 100000 in
set_option maxHeartbeats 4000000 in
theorem xl_14 {X : Nat × (Nat → Int32)} {d : Nat} {f g : Nat → Int32} {m a : Int32} {Q : Option Value → List va_E → Prop} (k : ∀ f', rt_ X d 15 3 [some (.ref 1), some (.int a), some (.int (0))] [] (hp_f 15 f' m g) Q) : rt_ X d 15 3 [some (.ref 1), some (.int a), some (.int 8)] [] (hp_f 14 f m g) Q :=
  rt_k (k := 25) (pc' := 3) (L' := [some (.ref 1), some (.int a), some (.int (0))]) (st' := []) (h' := hp_f 15 (upd f 14 (vp_nar .char ((((a.toUInt32 >>> ((8 : Int32).toUInt32 &&& Int32.toUInt32 31)).toInt32 &&& 255).toUInt32 % 65536).toInt32))) m g) (fun _ => rfl) (k _)
set_option maxRecDepth 100000 in
set_option maxHeartbeats 4000000 in
theorem xl_15 {X : Nat × (Nat → Int32)} {d : Nat} {f g : Nat → Int32} {m a : Int32} {Q : Option Value → List va_E → Prop} (k : ∀ f', rt_ X d 15 3 [some (.ref 1), some (.int a), some (.int (-8))] [] (hp_f 16 f' m g) Q) : rt_ X d 15 3 [some (.ref 1), some (.int a), some (.int 0)] [] (hp_f 15 f m g) Q :=
  rt_k (k := 25) (pc' := 3) (L' := [some (.ref 1), some (.int a), some (.int (-8))]) (st' := []) (h' := hp_f 16 (upd f 15 (vp_nar .char ((((a.toUInt32 >>> ((0 : Int32).toUInt32 &&& Int32.toUInt32 31)).toInt32 &&& 255).toUInt32 % 65536).toInt32))) m g) (fun _ => rfl) (k _)
set_option maxRecDepth 100000 in
set_option maxHeartbeats 4000000 in
theorem xl_16 {X : Nat × (Nat → Int32)} {d : Nat} {f g : Nat → Int32} {m a : Int32} {Q : Option Value → List va_E → Prop} (k : ∀ f', rt_ X d 15 3 [some (.ref 1), some (.int a), some (.int (16))] [] (hp_f 17 f' m g) Q) : rt_ X d 15 3 [some (.ref 1), some (.int a), some (.int 24)] [] (hp_f 16 f m g) Q :=
  rt_k (k := 25) (pc' := 3) (L' := [some (.ref 1), some (.int a), some (.int (16))]) (st' := []) (h' := hp_f 17 (upd f 16 (vp_nar .char ((((a.toUInt32 >>> ((24 : Int32).toUInt32 &&& Int32.toUInt32 31)).toInt32 &&& 255).toUInt32 % 65536).toInt32))) m g) (fun _ => rfl) (k _)
set_option maxRecDepth 100000 in
set_option maxHeartbeats 4000000 in
theorem xl_17 {X : Nat × (Nat → Int32)} {d : Nat} {f g : Nat → Int32} {m a : Int32} {Q : Option Value → List va_E → Prop} (k : ∀ f', rt_ X d 15 3 [some (.ref 1), some (.int a), some (.int (8))] [] (hp_f 18 f' m g) Q) : rt_ X d 15 3 [some (.ref 1), some (.int a), some (.int 16)] [] (hp_f 17 f m g) Q :=
  rt_k (k := 25) (pc' := 3) (L' := [some (.ref 1), some (.int a), some (.int (8))]) (st' := []) (h' := hp_f 18 (upd f 17 (vp_nar .char ((((a.toUInt32 >>> ((16 : Int32).toUInt32 &&& Int32.toUInt32 31)).toInt32 &&& 255).toUInt32 % 65536).toInt32))) m g) (fun _ => rfl) (k _)
set_option maxRecDepth 100000 in
set_option maxHeartbeats 4000000 in
theorem xl_18 {X : Nat × (Nat → Int32)} {d : Nat} {f g : Nat → Int32} {m a : Int32} {Q : Option Value → List va_E → Prop} (k : ∀ f', rt_ X d 15 3 [some (.ref 1), some (.int a), some (.int (0))] [] (hp_f 19 f' m g) Q) : rt_ X d 15 3 [some (.ref 1), some (.int a), some (.int 8)] [] (hp_f 18 f m g) Q :=
  rt_k (k := 25) (pc' := 3) (L' := [some (.ref 1), some (.int a), some (.int (0))]) (st' := []) (h' := hp_f 19 (upd f 18 (vp_nar .char ((((a.toUInt32 >>> ((8 : Int32).toUInt32 &&& Int32.toUInt32 31)).toInt32 &&& 255).toUInt32 % 65536).toInt32))) m g) (fun _ => rfl) (k _)
set_option maxRecDepth 100000 in
set_option maxHeartbeats 4000000 in
theorem xl_19 {X : Nat × (Nat → Int32)} {d : Nat} {f g : Nat → Int32} {m a : Int32} {Q : Option Value → List va_E → Prop} (k : ∀ f', rt_ X d 15 3 [some (.ref 1), some (.int a), some (.int (-8))] [] (hp_f 20 f' m g) Q) : rt_ X d 15 3 [some (.ref 1), some (.int a), some (.int 0)] [] (hp_f 19 f m g) Q :=
  rt_k (k := 25) (pc' := 3) (L' := [some (.ref 1), some (.int a), some (.int (-8))]) (st' := []) (h' := hp_f 20 (upd f 19 (vp_nar .char ((((a.toUInt32 >>> ((0 : Int32).toUInt32 &&& Int32.toUInt32 31)).toInt32 &&& 255).toUInt32 % 65536).toInt32))) m g) (fun _ => rfl) (k _)
set_option maxRecDepth 100000 in
set_option maxHeartbeats 4000000 in
theorem yl_0 {X : Nat × (Nat → Int32)} {d : Nat} {f g : Nat → Int32} {w a : Int32} {Q : Option Value → List va_E → Prop} (k : ∀ g', rt_ X d 128 3 [some (.ref 23), some (.int a), some (.int (16))] [] (hp_f w f 1 g') Q) : rt_ X d 128 3 [some (.ref 23), some (.int a), some (.int 24)] [] (hp_f w f 0 g) Q :=
  rt_k (k := 21) (pc' := 3) (L' := [some (.ref 23), some (.int a), some (.int (16))]) (st' := []) (h' := hp_f w f 1 (upd g 0 (vp_nar .char (((a >>> ((24 : Int32) &&& 31) &&& 255).toUInt32 % 65536).toInt32)))) (fun _ => rfl) (k _)
set_option maxRecDepth 100000 in
set_option maxHeartbeats 4000000 in
theorem yl_1 {X : Nat × (Nat → Int32)} {d : Nat} {f g : Nat → Int32} {w a : Int32} {Q : Option Value → List va_E → Prop} (k : ∀ g', rt_ X d 128 3 [some (.ref 23), some (.int a), some (.int (8))] [] (hp_f w f 2 g') Q) : rt_ X d 128 3 [some (.ref 23), some (.int a), some (.int 16)] [] (hp_f w f 1 g) Q :=
  rt_k (k := 21) (pc' := 3) (L' := [some (.ref 23), some (.int a), some (.int (8))]) (st' := []) (h' := hp_f w f 2 (upd g 1 (vp_nar .char (((a >>> ((16 : Int32) &&& 31) &&& 255).toUInt32 % 65536).toInt32)))) (fun _ => rfl) (k _)
set_option maxRecDepth 100000 in
set_option maxHeartbeats 4000000 in
theorem yl_2 {X : Nat × (Nat → Int32)} {d : Nat} {f g : Nat → Int32} {w a : Int32} {Q : Option Value → List va_E → Prop} (k : ∀ g', rt_ X d 128 3 [some (.ref 23), some (.int a), some (.int (0))] [] (hp_f w f 3 g') Q) : rt_ X d 128 3 [some (.ref 23), some (.int a), some (.int 8)] [] (hp_f w f 2 g) Q :=
  rt_k (k := 21) (pc' := 3) (L' := [some (.ref 23), some (.int a), some (.int (0))]) (st' := []) (h' := hp_f w f 3 (upd g 2 (vp_nar .char (((a >>> ((8 : Int32) &&& 31) &&& 255).toUInt32 % 65536).toInt32)))) (fun _ => rfl) (k _)
set_option maxRecDepth 100000 in
set_option maxHeartbeats 4000000 in
theorem yl_3 {X : Nat × (Nat → Int32)} {d : Nat} {f g : Nat → Int32} {w a : Int32} {Q : Option Value → List va_E → Prop} (k : ∀ g', rt_ X d 128 3 [some (.ref 23), some (.int a), some (.int (-8))] [] (hp_f w f 4 g') Q) : rt_ X d 128 3 [some (.ref 23), some (.int a), some (.int 0)] [] (hp_f w f 3 g) Q :=
  rt_k (k := 21) (pc' := 3) (L' := [some (.ref 23), some (.int a), some (.int (-8))]) (st' := []) (h' := hp_f w f 4 (upd g 3 (vp_nar .char (((a >>> ((0 : Int32) &&& 31) &&& 255).toUInt32 % 65536).toInt32)))) (fun _ => rfl) (k _)
set_option maxRecDepth 100000 in
set_option maxHeartbeats 4000000 in
theorem yl_4 {X : Nat × (Nat → Int32)} {d : Nat} {f g : Nat → Int32} {w a : Int32} {Q : Option Value → List va_E → Prop} (k : ∀ g', rt_ X d 128 3 [some (.ref 23), some (.int a), some (.int (16))] [] (hp_f w f 5 g') Q) : rt_ X d 128 3 [some (.ref 23), some (.int a), some (.int 24)] [] (hp_f w f 4 g) Q :=
  rt_k (k := 21) (pc' := 3) (L' := [some (.ref 23), some (.int a), some (.int (16))]) (st' := []) (h' := hp_f w f 5 (upd g 4 (vp_nar .char (((a >>> ((24 : Int32) &&& 31) &&& 255).toUInt32 % 65536).toInt32)))) (fun _ => rfl) (k _)
set_option maxRecDepth 100000 in
set_option maxHeartbeats 4000000 in
theorem yl_5 {X : Nat × (Nat → Int32)} {d : Nat} {f g : Nat → Int32} {w a : Int32} {Q : Option Value → List va_E → Prop} (k : ∀ g', rt_ X d 128 3 [some (.ref 23), some (.int a), some (.int (8))] [] (hp_f w f 6 g') Q) : rt_ X d 128 3 [some (.ref 23), some (.int a), some (.int 16)] [] (hp_f w f 5 g) Q :=
  rt_k (k := 21) (pc' := 3) (L' := [some (.ref 23), some (.int a), some (.int (8))]) (st' := []) (h' := hp_f w f 6 (upd g 5 (vp_nar .char (((a >>> ((16 : Int32) &&& 31) &&& 255).toUInt32 % 65536).toInt32)))) (fun _ => rfl) (k _)
set_option maxRecDepth 100000 in
set_option maxHeartbeats 4000000 in
theorem yl_6 {X : Nat × (Nat → Int32)} {d : Nat} {f g : Nat → Int32} {w a : Int32} {Q : Option Value → List va_E → Prop} (k : ∀ g', rt_ X d 128 3 [some (.ref 23), some (.int a), some (.int (0))] [] (hp_f w f 7 g') Q) : rt_ X d 128 3 [some (.ref 23), some (.int a), some (.int 8)] [] (hp_f w f 6 g) Q :=
  rt_k (k := 21) (pc' := 3) (L' := [some (.ref 23), some (.int a), some (.int (0))]) (st' := []) (h' := hp_f w f 7 (upd g 6 (vp_nar .char (((a >>> ((8 : Int32) &&& 31) &&& 255).toUInt32 % 65536).toInt32)))) (fun _ => rfl) (k _)
set_option maxRecDepth 100000 in
set_option maxHeartbeats 4000000 in
theorem yl_7 {X : Nat × (Nat → Int32)} {d : Nat} {f g : Nat → Int32} {w a : Int32} {Q : Option Value → List va_E → Prop} (k : ∀ g', rt_ X d 128 3 [some (.ref 23), some (.int a), some (.int (-8))] [] (hp_f w f 8 g') Q) : rt_ X d 128 3 [some (.ref 23), some (.int a), some (.int 0)] [] (hp_f w f 7 g) Q :=
  rt_k (k := 21) (pc' := 3) (L' := [some (.ref 23), some (.int a), some (.int (-8))]) (st' := []) (h' := hp_f w f 8 (upd g 7 (vp_nar .char (((a >>> ((0 : Int32) &&& 31) &&& 255).toUInt32 % 65536).toInt32)))) (fun _ => rfl) (k _)
set_option maxRecDepth 100000 in
set_option maxHeartbeats 4000000 in
theorem yl_8 {X : Nat × (Nat → Int32)} {d : Nat} {f g : Nat → Int32} {w a : Int32} {Q : Option Value → List va_E → Prop} (k : ∀ g', rt_ X d 128 3 [some (.ref 23), some (.int a), some (.int (16))] [] (hp_f w f 9 g') Q) : rt_ X d 128 3 [some (.ref 23), some (.int a), some (.int 24)] [] (hp_f w f 8 g) Q :=
  rt_k (k := 21) (pc' := 3) (L' := [some (.ref 23), some (.int a), some (.int (16))]) (st' := []) (h' := hp_f w f 9 (upd g 8 (vp_nar .char (((a >>> ((24 : Int32) &&& 31) &&& 255).toUInt32 % 65536).toInt32)))) (fun _ => rfl) (k _)
set_option maxRecDepth 100000 in
set_option maxHeartbeats 4000000 in
theorem yl_9 {X : Nat × (Nat → Int32)} {d : Nat} {f g : Nat → Int32} {w a : Int32} {Q : Option Value → List va_E → Prop} (k : ∀ g', rt_ X d 128 3 [some (.ref 23), some (.int a), some (.int (8))] [] (hp_f w f 10 g') Q) : rt_ X d 128 3 [some (.ref 23), some (.int a), some (.int 16)] [] (hp_f w f 9 g) Q :=
  rt_k (k := 21) (pc' := 3) (L' := [some (.ref 23), some (.int a), some (.int (8))]) (st' := []) (h' := hp_f w f 10 (upd g 9 (vp_nar .char (((a >>> ((16 : Int32) &&& 31) &&& 255).toUInt32 % 65536).toInt32)))) (fun _ => rfl) (k _)
set_option maxRecDepth 100000 in
set_option maxHeartbeats 4000000 in
theorem yl_10 {X : Nat × (Nat → Int32)} {d : Nat} {f g : Nat → Int32} {w a : Int32} {Q : Option Value → List va_E → Prop} (k : ∀ g', rt_ X d 128 3 [some (.ref 23), some (.int a), some (.int (0))] [] (hp_f w f 11 g') Q) : rt_ X d 128 3 [some (.ref 23), some (.int a), some (.int 8)] [] (hp_f w f 10 g) Q :=
  rt_k (k := 21) (pc' := 3) (L' := [some (.ref 23), some (.int a), some (.int (0))]) (st' := []) (h' := hp_f w f 11 (upd g 10 (vp_nar .char (((a >>> ((8 : Int32) &&& 31) &&& 255).toUInt32 % 65536).toInt32)))) (fun _ => rfl) (k _)
set_option maxRecDepth 100000 in
set_option maxHeartbeats 4000000 in
theorem yl_11 {X : Nat × (Nat → Int32)} {d : Nat} {f g : Nat → Int32} {w a : Int32} {Q : Option Value → List va_E → Prop} (k : ∀ g', rt_ X d 128 3 [some (.ref 23), some (.int a), some (.int (-8))] [] (hp_f w f 12 g') Q) : rt_ X d 128 3 [some (.ref 23), some (.int a), some (.int 0)] [] (hp_f w f 11 g) Q :=
  rt_k (k := 21) (pc' := 3) (L' := [some (.ref 23), some (.int a), some (.int (-8))]) (st' := []) (h' := hp_f w f 12 (upd g 11 (vp_nar .char (((a >>> ((0 : Int32) &&& 31) &&& 255).toUInt32 % 65536).toInt32)))) (fun _ => rfl) (k _)
set_option maxRecDepth 100000 in
set_option maxHeartbeats 4000000 in
theorem yl_12 {X : Nat × (Nat → Int32)} {d : Nat} {f g : Nat → Int32} {w a : Int32} {Q : Option Value → List va_E → Prop} (k : ∀ g', rt_ X d 128 3 [some (.ref 23), some (.int a), some (.int (16))] [] (hp_f w f 13 g') Q) : rt_ X d 128 3 [some (.ref 23), some (.int a), some (.int 24)] [] (hp_f w f 12 g) Q :=
  rt_k (k := 21) (pc' := 3) (L' := [some (.ref 23), some (.int a), some (.int (16))]) (st' := []) (h' := hp_f w f 13 (upd g 12 (vp_nar .char (((a >>> ((24 : Int32) &&& 31) &&& 255).toUInt32 % 65536).toInt32)))) (fun _ => rfl) (k _)
set_option maxRecDepth 100000 in
set_option maxHeartbeats 4000000 in
theorem yl_13 {X : Nat × (Nat → Int32)} {d : Nat} {f g : Nat → Int32} {w a : Int32} {Q : Option Value → List va_E → Prop} (k : ∀ g', rt_ X d 128 3 [some (.ref 23), some (.int a), some (.int (8))] [] (hp_f w f 14 g') Q) : rt_ X d 128 3 [some (.ref 23), some (.int a), some (.int 16)] [] (hp_f w f 13 g) Q :=
  rt_k (k := 21) (pc' := 3) (L' := [some (.ref 23), some (.int a), some (.int (8))]) (st' := []) (h' := hp_f w f 14 (upd g 13 (vp_nar .char (((a >>> ((16 : Int32) &&& 31) &&& 255).toUInt32 % 65536).toInt32)))) (fun _ => rfl) (k _)
set_option maxRecDepth 100000 in
set_option maxHeartbeats 4000000 in
theorem yl_14 {X : Nat × (Nat → Int32)} {d : Nat} {f g : Nat → Int32} {w a : Int32} {Q : Option Value → List va_E → Prop} (k : ∀ g', rt_ X d 128 3 [some (.ref 23), some (.int a), some (.int (0))] [] (hp_f w f 15 g') Q) : rt_ X d 128 3 [some (.ref 23), some (.int a), some (.int 8)] [] (hp_f w f 14 g) Q :=
  rt_k (k := 21) (pc' := 3) (L' := [some (.ref 23), some (.int a), some (.int (0))]) (st' := []) (h' := hp_f w f 15 (upd g 14 (vp_nar .char (((a >>> ((8 : Int32) &&& 31) &&& 255).toUInt32 % 65536).toInt32)))) (fun _ => rfl) (k _)
set_option maxRecDepth 100000 in
set_option maxHeartbeats 4000000 in
theorem yl_15 {X : Nat × (Nat → Int32)} {d : Nat} {f g : Nat → Int32} {w a : Int32} {Q : Option Value → List va_E → Prop} (k : ∀ g', rt_ X d 128 3 [some (.ref 23), some (.int a), some (.int (-8))] [] (hp_f w f 16 g') Q) : rt_ X d 128 3 [some (.ref 23), some (.int a), some (.int 0)] [] (hp_f w f 15 g) Q :=
  rt_k (k := 21) (pc' := 3) (L' := [some (.ref 23), some (.int a), some (.int (-8))]) (st' := []) (h' := hp_f w f 16 (upd g 15 (vp_nar .char (((a >>> ((0 : Int32) &&& 31) &&& 255).toUInt32 % 65536).toInt32)))) (fun _ => rfl) (k _)
set_option maxRecDepth 100000 in
set_option maxHeartbeats 4000000 in
theorem yl_16 {X : Nat × (Nat → Int32)} {d : Nat} {f g : Nat → Int32} {w a : Int32} {Q : Option Value → List va_E → Prop} (k : ∀ g', rt_ X d 128 3 [some (.ref 23), some (.int a), some (.int (16))] [] (hp_f w f 17 g') Q) : rt_ X d 128 3 [some (.ref 23), some (.int a), some (.int 24)] [] (hp_f w f 16 g) Q :=
  rt_k (k := 21) (pc' := 3) (L' := [some (.ref 23), some (.int a), some (.int (16))]) (st' := []) (h' := hp_f w f 17 (upd g 16 (vp_nar .char (((a >>> ((24 : Int32) &&& 31) &&& 255).toUInt32 % 65536).toInt32)))) (fun _ => rfl) (k _)
set_option maxRecDepth 100000 in
set_option maxHeartbeats 4000000 in
theorem yl_17 {X : Nat × (Nat → Int32)} {d : Nat} {f g : Nat → Int32} {w a : Int32} {Q : Option Value → List va_E → Prop} (k : ∀ g', rt_ X d 128 3 [some (.ref 23), some (.int a), some (.int (8))] [] (hp_f w f 18 g') Q) : rt_ X d 128 3 [some (.ref 23), some (.int a), some (.int 16)] [] (hp_f w f 17 g) Q :=
  rt_k (k := 21) (pc' := 3) (L' := [some (.ref 23), some (.int a), some (.int (8))]) (st' := []) (h' := hp_f w f 18 (upd g 17 (vp_nar .char (((a >>> ((16 : Int32) &&& 31) &&& 255).toUInt32 % 65536).toInt32)))) (fun _ => rfl) (k _)
set_option maxRecDepth 100000 in
set_option maxHeartbeats 4000000 in
theorem yl_18 {X : Nat × (Nat → Int32)} {d : Nat} {f g : Nat → Int32} {w a : Int32} {Q : Option Value → List va_E → Prop} (k : ∀ g', rt_ X d 128 3 [some (.ref 23), some (.int a), some (.int (0))] [] (hp_f w f 19 g') Q) : rt_ X d 128 3 [some (.ref 23), some (.int a), some (.int 8)] [] (hp_f w f 18 g) Q :=
  rt_k (k := 21) (pc' := 3) (L' := [some (.ref 23), some (.int a), some (.int (0))]) (st' := []) (h' := hp_f w f 19 (upd g 18 (vp_nar .char (((a >>> ((8 : Int32) &&& 31) &&& 255).toUInt32 % 65536).toInt32)))) (fun _ => rfl) (k _)
set_option maxRecDepth 100000 in
set_option maxHeartbeats 4000000 in
theorem yl_19 {X : Nat × (Nat → Int32)} {d : Nat} {f g : Nat → Int32} {w a : Int32} {Q : Option Value → List va_E → Prop} (k : ∀ g', rt_ X d 128 3 [some (.ref 23), some (.int a), some (.int (-8))] [] (hp_f w f 20 g') Q) : rt_ X d 128 3 [some (.ref 23), some (.int a), some (.int 0)] [] (hp_f w f 19 g) Q :=
  rt_k (k := 21) (pc' := 3) (L' := [some (.ref 23), some (.int a), some (.int (-8))]) (st' := []) (h' := hp_f w f 20 (upd g 19 (vp_nar .char (((a >>> ((0 : Int32) &&& 31) &&& 255).toUInt32 % 65536).toInt32)))) (fun _ => rfl) (k _)
set_option maxRecDepth 100000 in
set_option maxHeartbeats 4000000 in
theorem xt_0 (X : Nat × (Nat → Int32)) (f g : Nat → Int32) (m a : Int32) : rt_ X 998 15 0 [some (.ref 1), some (.int a), none] [] (hp_f 0 f m g) (fun v h' => v = none ∧ ∃ f', h' = hp_f 4 f' m g) := by
  refine rt_k (k := 2) (pc' := 3) (L' := [some (.ref 1), some (.int a), some (.int 24)]) (st' := []) (h' := hp_f 0 f m g) (fun _ => rfl) ?_
  refine xl_0 (fun f1 => xl_1 (fun f2 => xl_2 (fun f3 => xl_3 (fun f4 => ?_))))
  refine rt_k (k := 2) (pc' := 50) (L' := [some (.ref 1), some (.int a), some (.int (-8))]) (st' := []) (h' := hp_f 4 f4 m g) (fun _ => rfl) ?_
  exact rt_r (v := none) rfl rfl ⟨rfl, f4, rfl⟩
set_option maxRecDepth 100000 in
set_option maxHeartbeats 4000000 in
theorem yt_0 (X : Nat × (Nat → Int32)) (f g : Nat → Int32) (w a : Int32) : rt_ X 998 128 0 [some (.ref 23), some (.int a), none] [] (hp_f w f 0 g) (fun v h' => v = none ∧ ∃ g', h' = hp_f w f 4 g') := by
  refine rt_k (k := 2) (pc' := 3) (L' := [some (.ref 23), some (.int a), some (.int 24)]) (st' := []) (h' := hp_f w f 0 g) (fun _ => rfl) ?_
  refine yl_0 (fun f1 => yl_1 (fun f2 => yl_2 (fun f3 => yl_3 (fun f4 => ?_))))
  refine rt_k (k := 2) (pc' := 40) (L' := [some (.ref 23), some (.int a), some (.int (-8))]) (st' := []) (h' := hp_f w f 4 f4) (fun _ => rfl) ?_
  exact rt_r (v := none) rfl rfl ⟨rfl, f4, rfl⟩
set_option maxRecDepth 100000 in
set_option maxHeartbeats 4000000 in
theorem xt_4 (X : Nat × (Nat → Int32)) (f g : Nat → Int32) (m a : Int32) : rt_ X 998 15 0 [some (.ref 1), some (.int a), none] [] (hp_f 4 f m g) (fun v h' => v = none ∧ ∃ f', h' = hp_f 8 f' m g) := by
  refine rt_k (k := 2) (pc' := 3) (L' := [some (.ref 1), some (.int a), some (.int 24)]) (st' := []) (h' := hp_f 4 f m g) (fun _ => rfl) ?_
  refine xl_4 (fun f1 => xl_5 (fun f2 => xl_6 (fun f3 => xl_7 (fun f4 => ?_))))
  refine rt_k (k := 2) (pc' := 50) (L' := [some (.ref 1), some (.int a), some (.int (-8))]) (st' := []) (h' := hp_f 8 f4 m g) (fun _ => rfl) ?_
  exact rt_r (v := none) rfl rfl ⟨rfl, f4, rfl⟩
set_option maxRecDepth 100000 in
set_option maxHeartbeats 4000000 in
theorem yt_4 (X : Nat × (Nat → Int32)) (f g : Nat → Int32) (w a : Int32) : rt_ X 998 128 0 [some (.ref 23), some (.int a), none] [] (hp_f w f 4 g) (fun v h' => v = none ∧ ∃ g', h' = hp_f w f 8 g') := by
  refine rt_k (k := 2) (pc' := 3) (L' := [some (.ref 23), some (.int a), some (.int 24)]) (st' := []) (h' := hp_f w f 4 g) (fun _ => rfl) ?_
  refine yl_4 (fun f1 => yl_5 (fun f2 => yl_6 (fun f3 => yl_7 (fun f4 => ?_))))
  refine rt_k (k := 2) (pc' := 40) (L' := [some (.ref 23), some (.int a), some (.int (-8))]) (st' := []) (h' := hp_f w f 8 f4) (fun _ => rfl) ?_
  exact rt_r (v := none) rfl rfl ⟨rfl, f4, rfl⟩
set_option maxRecDepth 100000 in
set_option maxHeartbeats 4000000 in
theorem xt_8 (X : Nat × (Nat → Int32)) (f g : Nat → Int32) (m a : Int32) : rt_ X 998 15 0 [some (.ref 1), some (.int a), none] [] (hp_f 8 f m g) (fun v h' => v = none ∧ ∃ f', h' = hp_f 12 f' m g) := by
  refine rt_k (k := 2) (pc' := 3) (L' := [some (.ref 1), some (.int a), some (.int 24)]) (st' := []) (h' := hp_f 8 f m g) (fun _ => rfl) ?_
  refine xl_8 (fun f1 => xl_9 (fun f2 => xl_10 (fun f3 => xl_11 (fun f4 => ?_))))
  refine rt_k (k := 2) (pc' := 50) (L' := [some (.ref 1), some (.int a), some (.int (-8))]) (st' := []) (h' := hp_f 12 f4 m g) (fun _ => rfl) ?_
  exact rt_r (v := none) rfl rfl ⟨rfl, f4, rfl⟩
set_option maxRecDepth 100000 in
set_option maxHeartbeats 4000000 in
theorem yt_8 (X : Nat × (Nat → Int32)) (f g : Nat → Int32) (w a : Int32) : rt_ X 998 128 0 [some (.ref 23), some (.int a), none] [] (hp_f w f 8 g) (fun v h' => v = none ∧ ∃ g', h' = hp_f w f 12 g') := by
  refine rt_k (k := 2) (pc' := 3) (L' := [some (.ref 23), some (.int a), some (.int 24)]) (st' := []) (h' := hp_f w f 8 g) (fun _ => rfl) ?_
  refine yl_8 (fun f1 => yl_9 (fun f2 => yl_10 (fun f3 => yl_11 (fun f4 => ?_))))
  refine rt_k (k := 2) (pc' := 40) (L' := [some (.ref 23), some (.int a), some (.int (-8))]) (st' := []) (h' := hp_f w f 12 f4) (fun _ => rfl) ?_
  exact rt_r (v := none) rfl rfl ⟨rfl, f4, rfl⟩
set_option maxRecDepth 100000 in
set_option maxHeartbeats 4000000 in
theorem xt_12 (X : Nat × (Nat → Int32)) (f g : Nat → Int32) (m a : Int32) : rt_ X 998 15 0 [some (.ref 1), some (.int a), none] [] (hp_f 12 f m g) (fun v h' => v = none ∧ ∃ f', h' = hp_f 16 f' m g) := by
  refine rt_k (k := 2) (pc' := 3) (L' := [some (.ref 1), some (.int a), some (.int 24)]) (st' := []) (h' := hp_f 12 f m g) (fun _ => rfl) ?_
  refine xl_12 (fun f1 => xl_13 (fun f2 => xl_14 (fun f3 => xl_15 (fun f4 => ?_))))
  refine rt_k (k := 2) (pc' := 50) (L' := [some (.ref 1), some (.int a), some (.int (-8))]) (st' := []) (h' := hp_f 16 f4 m g) (fun _ => rfl) ?_
  exact rt_r (v := none) rfl rfl ⟨rfl, f4, rfl⟩
set_option maxRecDepth 100000 in
set_option maxHeartbeats 4000000 in
theorem yt_12 (X : Nat × (Nat → Int32)) (f g : Nat → Int32) (w a : Int32) : rt_ X 998 128 0 [some (.ref 23), some (.int a), none] [] (hp_f w f 12 g) (fun v h' => v = none ∧ ∃ g', h' = hp_f w f 16 g') := by
  refine rt_k (k := 2) (pc' := 3) (L' := [some (.ref 23), some (.int a), some (.int 24)]) (st' := []) (h' := hp_f w f 12 g) (fun _ => rfl) ?_
  refine yl_12 (fun f1 => yl_13 (fun f2 => yl_14 (fun f3 => yl_15 (fun f4 => ?_))))
  refine rt_k (k := 2) (pc' := 40) (L' := [some (.ref 23), some (.int a), some (.int (-8))]) (st' := []) (h' := hp_f w f 16 f4) (fun _ => rfl) ?_
  exact rt_r (v := none) rfl rfl ⟨rfl, f4, rfl⟩
set_option maxRecDepth 100000 in
set_option maxHeartbeats 4000000 in
theorem xt_16 (X : Nat × (Nat → Int32)) (f g : Nat → Int32) (m a : Int32) : rt_ X 998 15 0 [some (.ref 1), some (.int a), none] [] (hp_f 16 f m g) (fun v h' => v = none ∧ ∃ f', h' = hp_f 20 f' m g) := by
  refine rt_k (k := 2) (pc' := 3) (L' := [some (.ref 1), some (.int a), some (.int 24)]) (st' := []) (h' := hp_f 16 f m g) (fun _ => rfl) ?_
  refine xl_16 (fun f1 => xl_17 (fun f2 => xl_18 (fun f3 => xl_19 (fun f4 => ?_))))
  refine rt_k (k := 2) (pc' := 50) (L' := [some (.ref 1), some (.int a), some (.int (-8))]) (st' := []) (h' := hp_f 20 f4 m g) (fun _ => rfl) ?_
  exact rt_r (v := none) rfl rfl ⟨rfl, f4, rfl⟩
set_option maxRecDepth 100000 in
set_option maxHeartbeats 4000000 in
theorem yt_16 (X : Nat × (Nat → Int32)) (f g : Nat → Int32) (w a : Int32) : rt_ X 998 128 0 [some (.ref 23), some (.int a), none] [] (hp_f w f 16 g) (fun v h' => v = none ∧ ∃ g', h' = hp_f w f 20 g') := by
  refine rt_k (k := 2) (pc' := 3) (L' := [some (.ref 23), some (.int a), some (.int 24)]) (st' := []) (h' := hp_f w f 16 g) (fun _ => rfl) ?_
  refine yl_16 (fun f1 => yl_17 (fun f2 => yl_18 (fun f3 => yl_19 (fun f4 => ?_))))
  refine rt_k (k := 2) (pc' := 40) (L' := [some (.ref 23), some (.int a), some (.int (-8))]) (st' := []) (h' := hp_f w f 20 f4) (fun _ => rfl) ?_
  exact rt_r (v := none) rfl rfl ⟨rfl, f4, rfl⟩
set_option maxRecDepth 100000 in
set_option maxHeartbeats 4000000 in
theorem xf_feed (X : Nat × (Nat → Int32)) (a b c d e : Int32) : rt_ X 999 13 0 [some (.ref 0), some (.int a), some (.int b), some (.int c), some (.int d), some (.int e)] [] hp_0 (fun v h' => v = some (.int 20) ∧ ∃ f', h' = hp_f 20 f' 0 (fun _ => 0)) := by
  refine rt_k (k := 3) (pc' := 6) (L' := [some (.ref 0), some (.int a), some (.int b), some (.int c), some (.int d), some (.int e)]) (st' := [.int 20, .ref 1]) (h' := hp_f 0 (fun _ => 0) 0 (fun _ => 0)) (fun _ => rfl) ?_
  refine rt_e (n1 := 50) (M' := 14) (as := [.ref 1, .int 20]) (rest := []) (v := some (.int 1)) (h' := hp_f 0 (fun _ => 0) 0 (fun _ => 0)) rfl rfl rfl ?_
  refine rt_k (k := 4) (pc' := 20) (L' := [some (.ref 0), some (.int a), some (.int b), some (.int c), some (.int d), some (.int e)]) (st' := [.int a, .ref 1]) (h' := hp_f 0 (fun _ => 0) 0 (fun _ => 0)) (fun _ => rfl) ?_
  refine rt_c (M' := 15) (as := [.ref 1, .int a]) (rest := []) rfl rfl (xt_0 X (fun _ => 0) (fun _ => 0) 0 a) ?_
  rintro v1 h1 ⟨rfl, f0, rfl⟩
  refine rt_k (k := 3) (pc' := 28) (L' := [some (.ref 0), some (.int a), some (.int b), some (.int c), some (.int d), some (.int e)]) (st' := [.int b, .ref 1]) (h' := hp_f 4 f0 0 (fun _ => 0)) (fun _ => rfl) ?_
  refine rt_c (M' := 15) (as := [.ref 1, .int b]) (rest := []) rfl rfl (xt_4 X f0 (fun _ => 0) 0 b) ?_
  rintro v1 h1 ⟨rfl, f1, rfl⟩
  refine rt_k (k := 3) (pc' := 36) (L' := [some (.ref 0), some (.int a), some (.int b), some (.int c), some (.int d), some (.int e)]) (st' := [.int c, .ref 1]) (h' := hp_f 8 f1 0 (fun _ => 0)) (fun _ => rfl) ?_
  refine rt_c (M' := 15) (as := [.ref 1, .int c]) (rest := []) rfl rfl (xt_8 X f1 (fun _ => 0) 0 c) ?_
  rintro v1 h1 ⟨rfl, f2, rfl⟩
  refine rt_k (k := 3) (pc' := 45) (L' := [some (.ref 0), some (.int a), some (.int b), some (.int c), some (.int d), some (.int e)]) (st' := [.int d, .ref 1]) (h' := hp_f 12 f2 0 (fun _ => 0)) (fun _ => rfl) ?_
  refine rt_c (M' := 15) (as := [.ref 1, .int d]) (rest := []) rfl rfl (xt_12 X f2 (fun _ => 0) 0 d) ?_
  rintro v1 h1 ⟨rfl, f3, rfl⟩
  refine rt_k (k := 3) (pc' := 54) (L' := [some (.ref 0), some (.int a), some (.int b), some (.int c), some (.int d), some (.int e)]) (st' := [.int e, .ref 1]) (h' := hp_f 16 f3 0 (fun _ => 0)) (fun _ => rfl) ?_
  refine rt_c (M' := 15) (as := [.ref 1, .int e]) (rest := []) rfl rfl (xt_16 X f3 (fun _ => 0) 0 e) ?_
  rintro v1 h1 ⟨rfl, f4, rfl⟩
  refine rt_k (k := 2) (pc' := 61) (L' := [some (.ref 0), some (.int a), some (.int b), some (.int c), some (.int d), some (.int e)]) (st' := [.ref 1]) (h' := hp_f 20 f4 0 (fun _ => 0)) (fun _ => rfl) ?_
  refine rt_e (n1 := 50) (M' := 16) (as := [.ref 1]) (rest := []) (v := some (.int 20)) (h' := hp_f 20 f4 0 (fun _ => 0)) rfl rfl rfl ?_
  exact rt_r (v := some (.int 20)) rfl rfl ⟨rfl, f4, rfl⟩
set_option maxRecDepth 100000 in
set_option maxHeartbeats 4000000 in
theorem yf_feed (X : Nat × (Nat → Int32)) (f : Nat → Int32) (a b c d e : Int32) : rt_ X 999 127 0 [some (.ref 23), some (.int a), some (.int b), some (.int c), some (.int d), some (.int e)] [] (hp_f 20 f 0 (fun _ => 0)) (fun v h' => v = some (.int 20) ∧ ∃ g', h' = hp_f 20 f 20 g') := by
  refine rt_k (k := 8) (pc' := 18) (L' := [some (.ref 23), some (.int a), some (.int b), some (.int c), some (.int d), some (.int e)]) (st' := [.int a, .ref 23]) (h' := hp_f 20 f 0 (fun _ => 0)) (fun _ => rfl) ?_
  refine rt_c (M' := 128) (as := [.ref 23, .int a]) (rest := []) rfl rfl (yt_0 X f (fun _ => 0) 20 a) ?_
  rintro v1 h1 ⟨rfl, g0, rfl⟩
  refine rt_k (k := 2) (pc' := 23) (L' := [some (.ref 23), some (.int a), some (.int b), some (.int c), some (.int d), some (.int e)]) (st' := [.int b, .ref 23]) (h' := hp_f 20 f 4 g0) (fun _ => rfl) ?_
  refine rt_c (M' := 128) (as := [.ref 23, .int b]) (rest := []) rfl rfl (yt_4 X f g0 20 b) ?_
  rintro v1 h1 ⟨rfl, g1, rfl⟩
  refine rt_k (k := 2) (pc' := 28) (L' := [some (.ref 23), some (.int a), some (.int b), some (.int c), some (.int d), some (.int e)]) (st' := [.int c, .ref 23]) (h' := hp_f 20 f 8 g1) (fun _ => rfl) ?_
  refine rt_c (M' := 128) (as := [.ref 23, .int c]) (rest := []) rfl rfl (yt_8 X f g1 20 c) ?_
  rintro v1 h1 ⟨rfl, g2, rfl⟩
  refine rt_k (k := 2) (pc' := 34) (L' := [some (.ref 23), some (.int a), some (.int b), some (.int c), some (.int d), some (.int e)]) (st' := [.int d, .ref 23]) (h' := hp_f 20 f 12 g2) (fun _ => rfl) ?_
  refine rt_c (M' := 128) (as := [.ref 23, .int d]) (rest := []) rfl rfl (yt_12 X f g2 20 d) ?_
  rintro v1 h1 ⟨rfl, g3, rfl⟩
  refine rt_k (k := 2) (pc' := 40) (L' := [some (.ref 23), some (.int a), some (.int b), some (.int c), some (.int d), some (.int e)]) (st' := [.int e, .ref 23]) (h' := hp_f 20 f 16 g3) (fun _ => rfl) ?_
  refine rt_c (M' := 128) (as := [.ref 23, .int e]) (rest := []) rfl rfl (yt_16 X f g3 20 e) ?_
  rintro v1 h1 ⟨rfl, g4, rfl⟩
  refine rt_k (k := 2) (pc' := 47) (L' := [some (.ref 23), some (.int a), some (.int b), some (.int c), some (.int d), some (.int e)]) (st' := [.int 20]) (h' := hp_f 20 f 20 g4) (fun _ => rfl) ?_
  exact rt_r (v := some (.int 20)) rfl rfl ⟨rfl, g4, rfl⟩
set_option maxRecDepth 100000 in
set_option maxHeartbeats 4000000 in
theorem lc_0 (xs : Nat → Int32) : rt_ (6, xs) 1000 182 108 [some (.retAddr 1000), some (.ref 0), some (.ref 23), some (.int 0)] [] hp_0 lp_Q := by
  refine rt_k (k := 26) (pc' := 134) (L' := [some (.retAddr 1000), some (.ref 0), some (.ref 23), some (.int 0)]) (st' := [.int (xs 5), .int (xs 4), .int (xs 3), .int (xs 2), .int (xs 1), .ref 0]) (h' := hp_0) (fun _ => rfl) ?_
  refine rt_c (M' := 13) (as := [.ref 0, .int (xs 1), .int (xs 2), .int (xs 3), .int (xs 4), .int (xs 5)]) (rest := []) rfl rfl (xf_feed (6, xs) (xs 1) (xs 2) (xs 3) (xs 4) (xs 5)) ?_
  rintro v1 h1 ⟨rfl, f, rfl⟩
  refine rt_k (k := 26) (pc' := 163) (L' := [some (.retAddr 1000), some (.ref 0), some (.ref 23), some (.int 0)]) (st' := [.int (xs 5), .int (xs 4), .int (xs 3), .int (xs 2), .int (xs 1), .ref 23, .int 20]) (h' := hp_f 20 f 0 (fun _ => 0)) (fun _ => rfl) ?_
  refine rt_c (M' := 127) (as := [.ref 23, .int (xs 1), .int (xs 2), .int (xs 3), .int (xs 4), .int (xs 5)]) (rest := [.int 20]) rfl rfl (yf_feed (6, xs) f (xs 1) (xs 2) (xs 3) (xs 4) (xs 5)) ?_
  rintro v1 h1 ⟨rfl, g, rfl⟩
  refine rt_k (k := 1) (pc' := 463) (L' := [some (.retAddr 1000), some (.ref 0), some (.ref 23), some (.int 0)]) (st' := []) (h' := hp_f 20 f 20 g) (fun _ => rfl) ?_
  refine lp_9 ?_
  have e9 : hp_f 20 f 20 g = (((hp_0.set 1 (.inr (1, [.ref 2, .int 20]))).set 2 (.inl (0, 400, .inl f))).set 23 (.inr (12, [.ref 24, .int 20, .ref 25, .int 0, .int 0, .ref 26, .int 0, .int 0, .ref 27, .ref 28, .int 0, .ref 29, .int 1, .int 0, .ref 30, .ref 31, .int 0, .ref 32, .int 0, .ref 33, .ref 34, .int 0, .int 0, .ref 35]))).set 24 (.inl (0, 400, .inl g)) := rfl
  rw [e9]
  exact ok_s (ok_s (ok_s (ok_s lp_h0 rfl rfl) rfl rfl) rfl rfl) rfl rfl
end
section
/-! install ON A FRESH KEEPER AND A FRESH REFERENCE. -/
def hv_ (c0 c1 c2 c3 c4 c5 c6 c7 c8 c9 c10 c11 c12 c13 c14 c15 c16 c17 c18 c19 c20 c21 c22 : va_E) (m : List va_E) : List va_E := c0 :: c1 :: c2 :: c3 :: c4 :: c5 :: c6 :: c7 :: c8 :: c9 :: c10 :: c11 :: c12 :: c13 :: c14 :: c15 :: c16 :: c17 :: c18 :: c19 :: c20 :: c21 :: c22 :: m
def hp_s : List va_E := hv_ (.inr (0, [.ref 1, .ref 3, .ref 4, .ref 6, .ref 9, .ref 14])) (.inr (1, [.ref 2, .int 0])) (hp_a 0 400) (.inr (2, [.ref 1, .int 0, .int 0, .int 0])) (.inr (3, [.ref 5, .int 0, .int 0])) (hp_q 5 32) (.inr (4, [.ref 7, .ref 8, .int 0])) (hp_l 1 6) (hp_q 6 6) (.inr (5, [.ref 4, .ref 6, .ref 10, .ref 11, .int 0, .ref 12, .ref 13, .int 0, .int 0, .int 1, .int 1, .int 1, .int 0])) (hp_a 2 8) (hp_l 1 8) (hp_a 2 32) (hp_a 2 32) (.inr (6, [.ref 15, .int 1, .int 0, .ref 16, .ref 17, .int 0])) (.inl (7, 4, .inr (.inr (.inr (.inr (va_up (fun _ => none) 0 (some 18))))))) (hp_a 2 16) (hp_a 2 16) (.inr (7, [.ref 20, .ref 21, .int 0])) (hp_q 5 0) (hp_q 5 0) (hp_a 2 0) (hp_a 2 0) (hp_m)
def hp_p : List va_E := hv_ (.inr (0, [.ref 1, .ref 3, .ref 4, .ref 6, .ref 9, .ref 14])) (.inr (1, [.ref 2, .int 0])) (hp_a 0 400) (.inr (2, [.ref 1, .int 0, .int 0, .int 0])) (.inr (3, [.ref 5, .int 0, .int 0])) (hp_q 5 32) (.inr (4, [.ref 7, .ref 8, .int 0])) (hp_l 1 6) (hp_q 6 6) (.inr (5, [.ref 4, .ref 6, .ref 10, .ref 11, .int 0, .ref 12, .ref 13, .int 0, .int 0, .int 1, .int 1, .int 1, .int 0])) (hp_a 2 8) (hp_l 1 8) (hp_a 2 32) (hp_a 2 32) (.inr (6, [.ref 15, .int 2, .int 1, .ref 16, .ref 17, .int 0])) (.inl (7, 4, .inr (.inr (.inr (.inr (va_up (va_up (fun _ => none) 0 (some 18)) 1 (some 18))))))) (hp_a 2 16) (hp_a 2 16) (.inr (7, [.ref 20, .ref 21, .int 0])) (hp_q 5 0) (hp_q 5 0) (hp_a 2 0) (hp_a 2 0) (hp_m)
def hp_b : List va_E := hv_ (.inr (0, [.ref 1, .ref 3, .ref 4, .ref 6, .ref 9, .ref 14])) (.inr (1, [.ref 2, .int 0])) (hp_a 0 400) (.inr (2, [.ref 1, .int 0, .int 0, .int 0])) (.inr (3, [.ref 5, .int 0, .int 0])) (hp_q 5 32) (.inr (4, [.ref 7, .ref 8, .int 0])) (hp_l 1 6) (hp_q 6 6) (.inr (5, [.ref 4, .ref 6, .ref 10, .ref 11, .int 0, .ref 12, .ref 13, .int 0, .int 0, .int 1, .int 1, .int 1, .int 0])) (hp_a 2 8) (hp_l 1 8) (hp_a 2 32) (hp_a 2 32) (.inr (6, [.ref 15, .int 1, .int 0, .ref 16, .ref 17, .int 0])) (.inl (7, 4, .inr (.inr (.inr (.inr (va_up (fun _ => none) 0 (some 18))))))) (hp_a 2 16) (hp_a 2 16) (.inr (7, [.ref 20, .ref 21, .int 0])) (hp_q 5 0) (hp_q 5 0) (hp_a 2 0) (hp_a 2 0) (hp_m ++ [hp_q 5 8, .inr (7, [.ref 41, .ref 42, .int 0]), hp_q 5 0, hp_a 2 0, hp_a 2 0])
def hp_r : List va_E := hv_ (.inr (0, [.ref 1, .ref 3, .ref 4, .ref 6, .ref 9, .ref 14])) (.inr (1, [.ref 2, .int 0])) (hp_a 0 400) (.inr (2, [.ref 1, .int 0, .int 0, .int 0])) (.inr (3, [.ref 5, .int 0, .int 0])) (hp_q 5 32) (.inr (4, [.ref 7, .ref 8, .int 0])) (hp_l 1 6) (hp_q 6 6) (.inr (5, [.ref 4, .ref 6, .ref 10, .ref 11, .int 0, .ref 12, .ref 13, .int 0, .int 0, .int 1, .int 1, .int 1, .int 0])) (hp_a 2 8) (hp_l 1 8) (hp_a 2 32) (hp_a 2 32) (.inr (6, [.ref 15, .int 2, .int 1, .ref 16, .ref 17, .int 0])) (.inl (7, 4, .inr (.inr (.inr (.inr (va_up (va_up (fun _ => none) 0 (some 18)) 1 (some 40))))))) (hp_a 2 16) (hp_a 2 16) (.inr (7, [.ref 20, .ref 21, .int 0])) (hp_q 5 0) (hp_q 5 0) (hp_a 2 0) (hp_a 2 0) (hp_m ++ [hp_q 5 8, .inr (7, [.ref 41, .ref 42, .int 0]), hp_q 5 0, hp_a 2 0, hp_a 2 0])
set_option maxRecDepth 100000 in
set_option maxHeartbeats 2000000 in
theorem ev_learn (X : Nat × (Nat → Int32)) : ab_g X 800 998 73 0 [some (.ref 9), none] [] hp_0 = some (none, hp_s) := rfl
set_option maxRecDepth 100000 in
set_option maxHeartbeats 2000000 in
theorem xi_0c (X : Nat × (Nat → Int32)) (b : Int32) (hb : ab_cd .lt b 0 = false) : rt_ X 999 72 0 [some (.ref 0), some (.int 0), some (.int b), none] [] hp_0 (fun v h' => v = some (.int (-5)) ∧ h' = hp_s) := by
  refine rt_k (k := 4) (pc' := 15) (L' := [some (.ref 0), some (.int 0), some (.int b), none]) (st' := [.ref 9]) (h' := hp_0) (fun _ => rfl) ?_
  refine rt_e (n1 := 800) (M' := 73) (as := [.ref 9]) (rest := []) (v := none) (h' := hp_s) rfl rfl (ev_learn X) ?_
  refine rt_k (k := 5) (pc' := 27) (L' := [some (.ref 0), some (.int 0), some (.int b), none]) (st' := [.ref 14, .ref 0]) (h' := hp_s) (fun _ => rfl) ?_
  refine rt_e (n1 := 60) (M' := 93) (as := [.ref 14]) (rest := [.ref 0]) (v := some (.ref 18)) (h' := hp_s) rfl rfl rfl ?_
  refine rt_e (n1 := 300) (M' := 94) (as := [.ref 0, .ref 18]) (rest := []) (v := some (.int 1)) (h' := hp_s) rfl rfl rfl ?_
  refine rt_k (k := 3) (pc' := 40) (L' := [some (.ref 0), some (.int 0), some (.int b), none]) (st' := [.ref 14]) (h' := hp_s) (fun _ => rfl) ?_
  refine rt_e (n1 := 60) (M' := 93) (as := [.ref 14]) (rest := []) (v := some (.ref 18)) (h' := hp_s) rfl rfl rfl ?_
  refine rt_k (k := 5) (pc' := 59) (L' := [some (.ref 0), some (.int 0), some (.int b), some (.ref 18)]) (st' := [.ref 18]) (h' := hp_s) (fun _ => rfl) ?_
  refine rt_e (n1 := 60) (M' := 101) (as := [.ref 18]) (rest := []) (v := some (.int 0)) (h' := hp_s) rfl rfl rfl ?_
  refine rt_k (k := 2) (pc' := 69) (L' := [some (.ref 0), some (.int 0), some (.int b), some (.ref 18)]) (st' := [.int b]) (h' := hp_s) (fun _ => rfl) ?_
  refine rt_if rfl (fun h => ?_) (fun h => ?_)
  · rw [hb] at h; cases h
  · show rt_ X 999 72 72 [some (.ref 0), some (.int 0), some (.int b), some (.ref 18)] [] hp_s _
    refine rt_k (k := 1) (pc' := 74) (L' := [some (.ref 0), some (.int 0), some (.int b), some (.ref 18)]) (st' := [.int (-5)]) (h' := hp_s) (fun _ => rfl) ?_
    exact rt_r (v := some (.int (-5))) rfl rfl ⟨rfl, rfl⟩
set_option maxRecDepth 100000 in
set_option maxHeartbeats 2000000 in
theorem xi_0p (X : Nat × (Nat → Int32)) (b : Int32) (hb : ab_cd .lt b 0 = true) : rt_ X 999 72 0 [some (.ref 0), some (.int 0), some (.int b), none] [] hp_0 (fun v h' => v = some (.int (0)) ∧ h' = hp_p) := by
  refine rt_k (k := 4) (pc' := 15) (L' := [some (.ref 0), some (.int 0), some (.int b), none]) (st' := [.ref 9]) (h' := hp_0) (fun _ => rfl) ?_
  refine rt_e (n1 := 800) (M' := 73) (as := [.ref 9]) (rest := []) (v := none) (h' := hp_s) rfl rfl (ev_learn X) ?_
  refine rt_k (k := 5) (pc' := 27) (L' := [some (.ref 0), some (.int 0), some (.int b), none]) (st' := [.ref 14, .ref 0]) (h' := hp_s) (fun _ => rfl) ?_
  refine rt_e (n1 := 60) (M' := 93) (as := [.ref 14]) (rest := [.ref 0]) (v := some (.ref 18)) (h' := hp_s) rfl rfl rfl ?_
  refine rt_e (n1 := 300) (M' := 94) (as := [.ref 0, .ref 18]) (rest := []) (v := some (.int 1)) (h' := hp_s) rfl rfl rfl ?_
  refine rt_k (k := 3) (pc' := 40) (L' := [some (.ref 0), some (.int 0), some (.int b), none]) (st' := [.ref 14]) (h' := hp_s) (fun _ => rfl) ?_
  refine rt_e (n1 := 60) (M' := 93) (as := [.ref 14]) (rest := []) (v := some (.ref 18)) (h' := hp_s) rfl rfl rfl ?_
  refine rt_k (k := 5) (pc' := 59) (L' := [some (.ref 0), some (.int 0), some (.int b), some (.ref 18)]) (st' := [.ref 18]) (h' := hp_s) (fun _ => rfl) ?_
  refine rt_e (n1 := 60) (M' := 101) (as := [.ref 18]) (rest := []) (v := some (.int 0)) (h' := hp_s) rfl rfl rfl ?_
  refine rt_k (k := 2) (pc' := 69) (L' := [some (.ref 0), some (.int 0), some (.int b), some (.ref 18)]) (st' := [.int b]) (h' := hp_s) (fun _ => rfl) ?_
  refine rt_if rfl (fun h => ?_) (fun h => ?_)
  · show rt_ X 999 72 75 [some (.ref 0), some (.int 0), some (.int b), some (.ref 18)] [] hp_s _
    refine rt_k (k := 3) (pc' := 80) (L' := [some (.ref 0), some (.int 0), some (.int b), some (.ref 18)]) (st' := [.ref 18, .ref 14]) (h' := hp_s) (fun _ => rfl) ?_
    refine rt_e (n1 := 200) (M' := 104) (as := [.ref 14, .ref 18]) (rest := []) (v := none) (h' := hp_p) rfl rfl rfl ?_
    refine rt_k (k := 1) (pc' := 84) (L' := [some (.ref 0), some (.int 0), some (.int b), some (.ref 18)]) (st' := [.ref 18]) (h' := hp_p) (fun _ => rfl) ?_
    refine rt_e (n1 := 60) (M' := 95) (as := [.ref 18]) (rest := []) (v := some (.int 0)) (h' := hp_p) rfl rfl rfl ?_
    exact rt_r (v := some (.int 0)) rfl rfl ⟨rfl, rfl⟩
  · rw [hb] at h; cases h
set_option maxRecDepth 100000 in
set_option maxHeartbeats 2000000 in
theorem xi_1c (X : Nat × (Nat → Int32)) (b : Int32) (hb : ab_cd .lt b 0 = false) : rt_ X 999 72 0 [some (.ref 0), some (.int 1), some (.int b), none] [] hp_0 (fun v h' => v = some (.int (-5)) ∧ h' = hp_b) := by
  refine rt_k (k := 7) (pc' := 15) (L' := [some (.ref 0), some (.int 1), some (.int b), none]) (st' := [.ref 9]) (h' := hp_0) (fun _ => rfl) ?_
  refine rt_e (n1 := 800) (M' := 73) (as := [.ref 9]) (rest := []) (v := none) (h' := hp_s) rfl rfl (ev_learn X) ?_
  refine rt_k (k := 3) (pc' := 47) (L' := [some (.ref 0), some (.int 1), some (.int b), none]) (st' := [.ref 0]) (h' := hp_s) (fun _ => rfl) ?_
  refine rt_e (n1 := 300) (M' := 98) (as := [.ref 0]) (rest := []) (v := some (.ref 40)) (h' := hp_b) rfl rfl rfl ?_
  refine rt_k (k := 4) (pc' := 59) (L' := [some (.ref 0), some (.int 1), some (.int b), some (.ref 40)]) (st' := [.ref 40]) (h' := hp_b) (fun _ => rfl) ?_
  refine rt_e (n1 := 60) (M' := 101) (as := [.ref 40]) (rest := []) (v := some (.int 0)) (h' := hp_b) rfl rfl rfl ?_
  refine rt_k (k := 2) (pc' := 69) (L' := [some (.ref 0), some (.int 1), some (.int b), some (.ref 40)]) (st' := [.int b]) (h' := hp_b) (fun _ => rfl) ?_
  refine rt_if rfl (fun h => ?_) (fun h => ?_)
  · rw [hb] at h; cases h
  · show rt_ X 999 72 72 [some (.ref 0), some (.int 1), some (.int b), some (.ref 40)] [] hp_b _
    refine rt_k (k := 1) (pc' := 74) (L' := [some (.ref 0), some (.int 1), some (.int b), some (.ref 40)]) (st' := [.int (-5)]) (h' := hp_b) (fun _ => rfl) ?_
    exact rt_r (v := some (.int (-5))) rfl rfl ⟨rfl, rfl⟩
set_option maxRecDepth 100000 in
set_option maxHeartbeats 2000000 in
theorem xi_1p (X : Nat × (Nat → Int32)) (b : Int32) (hb : ab_cd .lt b 0 = true) : rt_ X 999 72 0 [some (.ref 0), some (.int 1), some (.int b), none] [] hp_0 (fun v h' => v = some (.int (0)) ∧ h' = hp_r) := by
  refine rt_k (k := 7) (pc' := 15) (L' := [some (.ref 0), some (.int 1), some (.int b), none]) (st' := [.ref 9]) (h' := hp_0) (fun _ => rfl) ?_
  refine rt_e (n1 := 800) (M' := 73) (as := [.ref 9]) (rest := []) (v := none) (h' := hp_s) rfl rfl (ev_learn X) ?_
  refine rt_k (k := 3) (pc' := 47) (L' := [some (.ref 0), some (.int 1), some (.int b), none]) (st' := [.ref 0]) (h' := hp_s) (fun _ => rfl) ?_
  refine rt_e (n1 := 300) (M' := 98) (as := [.ref 0]) (rest := []) (v := some (.ref 40)) (h' := hp_b) rfl rfl rfl ?_
  refine rt_k (k := 4) (pc' := 59) (L' := [some (.ref 0), some (.int 1), some (.int b), some (.ref 40)]) (st' := [.ref 40]) (h' := hp_b) (fun _ => rfl) ?_
  refine rt_e (n1 := 60) (M' := 101) (as := [.ref 40]) (rest := []) (v := some (.int 0)) (h' := hp_b) rfl rfl rfl ?_
  refine rt_k (k := 2) (pc' := 69) (L' := [some (.ref 0), some (.int 1), some (.int b), some (.ref 40)]) (st' := [.int b]) (h' := hp_b) (fun _ => rfl) ?_
  refine rt_if rfl (fun h => ?_) (fun h => ?_)
  · show rt_ X 999 72 75 [some (.ref 0), some (.int 1), some (.int b), some (.ref 40)] [] hp_b _
    refine rt_k (k := 3) (pc' := 80) (L' := [some (.ref 0), some (.int 1), some (.int b), some (.ref 40)]) (st' := [.ref 40, .ref 14]) (h' := hp_b) (fun _ => rfl) ?_
    refine rt_e (n1 := 200) (M' := 104) (as := [.ref 14, .ref 40]) (rest := []) (v := none) (h' := hp_r) rfl rfl rfl ?_
    refine rt_k (k := 1) (pc' := 84) (L' := [some (.ref 0), some (.int 1), some (.int b), some (.ref 40)]) (st' := [.ref 40]) (h' := hp_r) (fun _ => rfl) ?_
    refine rt_e (n1 := 60) (M' := 95) (as := [.ref 40]) (rest := []) (v := some (.int 0)) (h' := hp_r) rfl rfl rfl ?_
    exact rt_r (v := some (.int 0)) rfl rfl ⟨rfl, rfl⟩
  · rw [hb] at h; cases h
set_option maxRecDepth 100000 in
set_option maxHeartbeats 2000000 in
theorem yi_0c (X : Nat × (Nat → Int32)) (b : Int32) (c0 c1 c2 c3 c4 c5 c6 c7 c8 c9 c10 c11 c12 c13 c14 c15 c16 c17 c18 c19 c20 c21 c22 : va_E) (hb : ab_cd .lt b 0 = false) : rt_ X 999 167 0 [some (.ref 23), some (.int 0), some (.int b), none, none, none, none, none, none] [] (hv_ c0 c1 c2 c3 c4 c5 c6 c7 c8 c9 c10 c11 c12 c13 c14 c15 c16 c17 c18 c19 c20 c21 c22 (hp_m)) (fun v h' => v = some (.int (-5)) ∧ h' = hv_ c0 c1 c2 c3 c4 c5 c6 c7 c8 c9 c10 c11 c12 c13 c14 c15 c16 c17 c18 c19 c20 c21 c22 (([.inr (12, [.ref 24, .int 0, .ref 25, .int 0, .int 0, .ref 26, .int 0, .int 0, .ref 27, .ref 28, .int 0, .ref 29, .int 1, .int 0, .ref 30, .ref 31, .int 0, .ref 32, .int 0, .ref 33, .ref 34, .int 0, .int 0, .ref 35]), hp_a 0 400, hp_q 9 400, hp_q 10 32, hp_q 9 6, hp_q 11 6, .inl (12, 4, .inr (.inr (.inr (.inr (va_up (fun _ => none) 0 (some 36)))))), hp_q 10 16, hp_a 4 16, hp_q 9 8, hp_q 10 8, hp_q 10 8, hp_a 4 8, .inr (13, [.ref 37, .ref 38, .int 0]), hp_q 10 8, hp_a 2 8]) ++ [hp_q 10 8])) := by
  refine rt_k (k := 11) (pc' := 21) (L' := [some (.ref 23), some (.int 0), some (.int b), some (.ref 39), some (.int 0), none, none, none, none]) (st' := [.ref 23]) (h' := hv_ c0 c1 c2 c3 c4 c5 c6 c7 c8 c9 c10 c11 c12 c13 c14 c15 c16 c17 c18 c19 c20 c21 c22 (([.inr (12, [.ref 24, .int 0, .ref 25, .int 0, .int 0, .ref 26, .int 0, .int 0, .ref 27, .ref 28, .int 0, .ref 29, .int 1, .int 0, .ref 30, .ref 31, .int 0, .ref 32, .int 0, .ref 33, .ref 34, .int 0, .int 0, .ref 35]), hp_a 0 400, hp_q 9 400, hp_q 10 32, hp_q 9 6, hp_q 11 6, .inl (12, 4, .inr (.inr (.inr (.inr (va_up (fun _ => none) 0 (some 36)))))), hp_q 10 16, hp_a 4 16, hp_q 9 8, hp_q 10 8, hp_q 10 8, hp_a 4 8, .inr (13, [.ref 37, .ref 38, .int 0]), hp_q 10 8, hp_a 2 8]) ++ [hp_q 10 8])) (fun _ => rfl) ?_
  refine rt_e (n1 := 60) (M' := 168) (as := [.ref 23]) (rest := []) (v := some (.ref 36)) (h' := hv_ c0 c1 c2 c3 c4 c5 c6 c7 c8 c9 c10 c11 c12 c13 c14 c15 c16 c17 c18 c19 c20 c21 c22 (([.inr (12, [.ref 24, .int 0, .ref 25, .int 0, .int 0, .ref 26, .int 0, .int 0, .ref 27, .ref 28, .int 0, .ref 29, .int 1, .int 0, .ref 30, .ref 31, .int 0, .ref 32, .int 0, .ref 33, .ref 34, .int 0, .int 0, .ref 35]), hp_a 0 400, hp_q 9 400, hp_q 10 32, hp_q 9 6, hp_q 11 6, .inl (12, 4, .inr (.inr (.inr (.inr (va_up (fun _ => none) 0 (some 36)))))), hp_q 10 16, hp_a 4 16, hp_q 9 8, hp_q 10 8, hp_q 10 8, hp_a 4 8, .inr (13, [.ref 37, .ref 38, .int 0]), hp_q 10 8, hp_a 2 8]) ++ [hp_q 10 8])) rfl rfl rfl ?_
  refine rt_k (k := 19) (pc' := 99) (L' := [some (.ref 23), some (.int 0), some (.int b), some (.ref 39), some (.int 0), some (.ref 36), some (.int 1), some (.int 0), none]) (st' := [.int 0, .ref 37, .ref 23]) (h' := hv_ c0 c1 c2 c3 c4 c5 c6 c7 c8 c9 c10 c11 c12 c13 c14 c15 c16 c17 c18 c19 c20 c21 c22 (([.inr (12, [.ref 24, .int 0, .ref 25, .int 0, .int 0, .ref 26, .int 0, .int 0, .ref 27, .ref 28, .int 0, .ref 29, .int 1, .int 0, .ref 30, .ref 31, .int 0, .ref 32, .int 0, .ref 33, .ref 34, .int 0, .int 0, .ref 35]), hp_a 0 400, hp_q 9 400, hp_q 10 32, hp_q 9 6, hp_q 11 6, .inl (12, 4, .inr (.inr (.inr (.inr (va_up (fun _ => none) 0 (some 36)))))), hp_q 10 16, hp_a 4 16, hp_q 9 8, hp_q 10 8, hp_q 10 8, hp_a 4 8, .inr (13, [.ref 37, .ref 38, .int 0]), hp_q 10 8, hp_a 2 8]) ++ [hp_q 10 8])) (fun _ => rfl) ?_
  refine rt_e (n1 := 300) (M' := 159) (as := [.ref 23, .ref 37, .int 0]) (rest := []) (v := some (.int 1)) (h' := hv_ c0 c1 c2 c3 c4 c5 c6 c7 c8 c9 c10 c11 c12 c13 c14 c15 c16 c17 c18 c19 c20 c21 c22 (([.inr (12, [.ref 24, .int 0, .ref 25, .int 0, .int 0, .ref 26, .int 0, .int 0, .ref 27, .ref 28, .int 0, .ref 29, .int 1, .int 0, .ref 30, .ref 31, .int 0, .ref 32, .int 0, .ref 33, .ref 34, .int 0, .int 0, .ref 35]), hp_a 0 400, hp_q 9 400, hp_q 10 32, hp_q 9 6, hp_q 11 6, .inl (12, 4, .inr (.inr (.inr (.inr (va_up (fun _ => none) 0 (some 36)))))), hp_q 10 16, hp_a 4 16, hp_q 9 8, hp_q 10 8, hp_q 10 8, hp_a 4 8, .inr (13, [.ref 37, .ref 38, .int 0]), hp_q 10 8, hp_a 2 8]) ++ [hp_q 10 8])) rfl rfl rfl ?_
  refine rt_k (k := 17) (pc' := 256) (L' := [some (.ref 23), some (.int 0), some (.int b), some (.ref 39), some (.int 0), some (.ref 36), some (.int 1), some (.int 0), none]) (st' := [.int 0, .ref 39]) (h' := hv_ c0 c1 c2 c3 c4 c5 c6 c7 c8 c9 c10 c11 c12 c13 c14 c15 c16 c17 c18 c19 c20 c21 c22 (([.inr (12, [.ref 24, .int 0, .ref 25, .int 0, .int 0, .ref 26, .int 0, .int 0, .ref 27, .ref 28, .int 0, .ref 29, .int 1, .int 0, .ref 30, .ref 31, .int 0, .ref 32, .int 0, .ref 33, .ref 34, .int 0, .int 0, .ref 35]), hp_a 0 400, hp_q 9 400, hp_q 10 32, hp_q 9 6, hp_q 11 6, .inl (12, 4, .inr (.inr (.inr (.inr (va_up (fun _ => none) 0 (some 36)))))), hp_q 10 16, hp_a 4 16, hp_q 9 8, hp_q 10 8, hp_q 10 8, hp_a 4 8, .inr (13, [.ref 37, .ref 38, .int 0]), hp_q 10 8, hp_a 2 8]) ++ [hp_q 10 8])) (fun _ => rfl) ?_
  refine rt_e (n1 := 60) (M' := 170) (as := [.ref 39, .int 0]) (rest := []) (v := some (.int 0)) (h' := hv_ c0 c1 c2 c3 c4 c5 c6 c7 c8 c9 c10 c11 c12 c13 c14 c15 c16 c17 c18 c19 c20 c21 c22 (([.inr (12, [.ref 24, .int 0, .ref 25, .int 0, .int 0, .ref 26, .int 0, .int 0, .ref 27, .ref 28, .int 0, .ref 29, .int 1, .int 0, .ref 30, .ref 31, .int 0, .ref 32, .int 0, .ref 33, .ref 34, .int 0, .int 0, .ref 35]), hp_a 0 400, hp_q 9 400, hp_q 10 32, hp_q 9 6, hp_q 11 6, .inl (12, 4, .inr (.inr (.inr (.inr (va_up (fun _ => none) 0 (some 36)))))), hp_q 10 16, hp_a 4 16, hp_q 9 8, hp_q 10 8, hp_q 10 8, hp_a 4 8, .inr (13, [.ref 37, .ref 38, .int 0]), hp_q 10 8, hp_a 2 8]) ++ [hp_q 10 8])) rfl rfl rfl ?_
  refine rt_k (k := 2) (pc' := 266) (L' := [some (.ref 23), some (.int 0), some (.int b), some (.ref 39), some (.int 0), some (.ref 36), some (.int 1), some (.int 0), none]) (st' := [.int b]) (h' := hv_ c0 c1 c2 c3 c4 c5 c6 c7 c8 c9 c10 c11 c12 c13 c14 c15 c16 c17 c18 c19 c20 c21 c22 (([.inr (12, [.ref 24, .int 0, .ref 25, .int 0, .int 0, .ref 26, .int 0, .int 0, .ref 27, .ref 28, .int 0, .ref 29, .int 1, .int 0, .ref 30, .ref 31, .int 0, .ref 32, .int 0, .ref 33, .ref 34, .int 0, .int 0, .ref 35]), hp_a 0 400, hp_q 9 400, hp_q 10 32, hp_q 9 6, hp_q 11 6, .inl (12, 4, .inr (.inr (.inr (.inr (va_up (fun _ => none) 0 (some 36)))))), hp_q 10 16, hp_a 4 16, hp_q 9 8, hp_q 10 8, hp_q 10 8, hp_a 4 8, .inr (13, [.ref 37, .ref 38, .int 0]), hp_q 10 8, hp_a 2 8]) ++ [hp_q 10 8])) (fun _ => rfl) ?_
  refine rt_if rfl (fun h => ?_) (fun h => ?_)
  · rw [hb] at h; cases h
  · show rt_ X 999 167 269 [some (.ref 23), some (.int 0), some (.int b), some (.ref 39), some (.int 0), some (.ref 36), some (.int 1), some (.int 0), none] [] (hv_ c0 c1 c2 c3 c4 c5 c6 c7 c8 c9 c10 c11 c12 c13 c14 c15 c16 c17 c18 c19 c20 c21 c22 (([.inr (12, [.ref 24, .int 0, .ref 25, .int 0, .int 0, .ref 26, .int 0, .int 0, .ref 27, .ref 28, .int 0, .ref 29, .int 1, .int 0, .ref 30, .ref 31, .int 0, .ref 32, .int 0, .ref 33, .ref 34, .int 0, .int 0, .ref 35]), hp_a 0 400, hp_q 9 400, hp_q 10 32, hp_q 9 6, hp_q 11 6, .inl (12, 4, .inr (.inr (.inr (.inr (va_up (fun _ => none) 0 (some 36)))))), hp_q 10 16, hp_a 4 16, hp_q 9 8, hp_q 10 8, hp_q 10 8, hp_a 4 8, .inr (13, [.ref 37, .ref 38, .int 0]), hp_q 10 8, hp_a 2 8]) ++ [hp_q 10 8])) _
    refine rt_k (k := 1) (pc' := 271) (L' := [some (.ref 23), some (.int 0), some (.int b), some (.ref 39), some (.int 0), some (.ref 36), some (.int 1), some (.int 0), none]) (st' := [.int (-5)]) (h' := hv_ c0 c1 c2 c3 c4 c5 c6 c7 c8 c9 c10 c11 c12 c13 c14 c15 c16 c17 c18 c19 c20 c21 c22 (([.inr (12, [.ref 24, .int 0, .ref 25, .int 0, .int 0, .ref 26, .int 0, .int 0, .ref 27, .ref 28, .int 0, .ref 29, .int 1, .int 0, .ref 30, .ref 31, .int 0, .ref 32, .int 0, .ref 33, .ref 34, .int 0, .int 0, .ref 35]), hp_a 0 400, hp_q 9 400, hp_q 10 32, hp_q 9 6, hp_q 11 6, .inl (12, 4, .inr (.inr (.inr (.inr (va_up (fun _ => none) 0 (some 36)))))), hp_q 10 16, hp_a 4 16, hp_q 9 8, hp_q 10 8, hp_q 10 8, hp_a 4 8, .inr (13, [.ref 37, .ref 38, .int 0]), hp_q 10 8, hp_a 2 8]) ++ [hp_q 10 8])) (fun _ => rfl) ?_
    exact rt_r (v := some (.int (-5))) rfl rfl ⟨rfl, rfl⟩
set_option maxRecDepth 100000 in
set_option maxHeartbeats 2000000 in
theorem yi_0p (X : Nat × (Nat → Int32)) (b : Int32) (c0 c1 c2 c3 c4 c5 c6 c7 c8 c9 c10 c11 c12 c13 c14 c15 c16 c17 c18 c19 c20 c21 c22 : va_E) (hb : ab_cd .lt b 0 = true) : rt_ X 999 167 0 [some (.ref 23), some (.int 0), some (.int b), none, none, none, none, none, none] [] (hv_ c0 c1 c2 c3 c4 c5 c6 c7 c8 c9 c10 c11 c12 c13 c14 c15 c16 c17 c18 c19 c20 c21 c22 (hp_m)) (fun v h' => v = some (.int (0)) ∧ h' = hv_ c0 c1 c2 c3 c4 c5 c6 c7 c8 c9 c10 c11 c12 c13 c14 c15 c16 c17 c18 c19 c20 c21 c22 (([.inr (12, [.ref 24, .int 0, .ref 25, .int 0, .int 0, .ref 26, .int 0, .int 0, .ref 27, .ref 28, .int 0, .ref 29, .int 2, .int 1, .ref 30, .ref 31, .int 0, .ref 32, .int 0, .ref 33, .ref 34, .int 0, .int 0, .ref 35]), hp_a 0 400, hp_q 9 400, hp_q 10 32, hp_q 9 6, hp_q 11 6, .inl (12, 4, .inr (.inr (.inr (.inr (va_up (va_up (fun _ => none) 0 (some 36)) 1 (some 41)))))), hp_q 10 16, hp_a 4 16, hp_q 9 8, hp_q 10 8, hp_q 10 8, hp_a 4 8, .inr (13, [.ref 37, .ref 38, .int 0]), hp_q 10 8, hp_a 2 8]) ++ [hp_q 10 8, hp_a 4 64, .inr (13, [.ref 42, .ref 43, .int 0]), hp_q 10 8, hp_a 2 8, hp_a 4 8])) := by
  refine rt_k (k := 11) (pc' := 21) (L' := [some (.ref 23), some (.int 0), some (.int b), some (.ref 39), some (.int 0), none, none, none, none]) (st' := [.ref 23]) (h' := hv_ c0 c1 c2 c3 c4 c5 c6 c7 c8 c9 c10 c11 c12 c13 c14 c15 c16 c17 c18 c19 c20 c21 c22 (([.inr (12, [.ref 24, .int 0, .ref 25, .int 0, .int 0, .ref 26, .int 0, .int 0, .ref 27, .ref 28, .int 0, .ref 29, .int 1, .int 0, .ref 30, .ref 31, .int 0, .ref 32, .int 0, .ref 33, .ref 34, .int 0, .int 0, .ref 35]), hp_a 0 400, hp_q 9 400, hp_q 10 32, hp_q 9 6, hp_q 11 6, .inl (12, 4, .inr (.inr (.inr (.inr (va_up (fun _ => none) 0 (some 36)))))), hp_q 10 16, hp_a 4 16, hp_q 9 8, hp_q 10 8, hp_q 10 8, hp_a 4 8, .inr (13, [.ref 37, .ref 38, .int 0]), hp_q 10 8, hp_a 2 8]) ++ [hp_q 10 8])) (fun _ => rfl) ?_
  refine rt_e (n1 := 60) (M' := 168) (as := [.ref 23]) (rest := []) (v := some (.ref 36)) (h' := hv_ c0 c1 c2 c3 c4 c5 c6 c7 c8 c9 c10 c11 c12 c13 c14 c15 c16 c17 c18 c19 c20 c21 c22 (([.inr (12, [.ref 24, .int 0, .ref 25, .int 0, .int 0, .ref 26, .int 0, .int 0, .ref 27, .ref 28, .int 0, .ref 29, .int 1, .int 0, .ref 30, .ref 31, .int 0, .ref 32, .int 0, .ref 33, .ref 34, .int 0, .int 0, .ref 35]), hp_a 0 400, hp_q 9 400, hp_q 10 32, hp_q 9 6, hp_q 11 6, .inl (12, 4, .inr (.inr (.inr (.inr (va_up (fun _ => none) 0 (some 36)))))), hp_q 10 16, hp_a 4 16, hp_q 9 8, hp_q 10 8, hp_q 10 8, hp_a 4 8, .inr (13, [.ref 37, .ref 38, .int 0]), hp_q 10 8, hp_a 2 8]) ++ [hp_q 10 8])) rfl rfl rfl ?_
  refine rt_k (k := 19) (pc' := 99) (L' := [some (.ref 23), some (.int 0), some (.int b), some (.ref 39), some (.int 0), some (.ref 36), some (.int 1), some (.int 0), none]) (st' := [.int 0, .ref 37, .ref 23]) (h' := hv_ c0 c1 c2 c3 c4 c5 c6 c7 c8 c9 c10 c11 c12 c13 c14 c15 c16 c17 c18 c19 c20 c21 c22 (([.inr (12, [.ref 24, .int 0, .ref 25, .int 0, .int 0, .ref 26, .int 0, .int 0, .ref 27, .ref 28, .int 0, .ref 29, .int 1, .int 0, .ref 30, .ref 31, .int 0, .ref 32, .int 0, .ref 33, .ref 34, .int 0, .int 0, .ref 35]), hp_a 0 400, hp_q 9 400, hp_q 10 32, hp_q 9 6, hp_q 11 6, .inl (12, 4, .inr (.inr (.inr (.inr (va_up (fun _ => none) 0 (some 36)))))), hp_q 10 16, hp_a 4 16, hp_q 9 8, hp_q 10 8, hp_q 10 8, hp_a 4 8, .inr (13, [.ref 37, .ref 38, .int 0]), hp_q 10 8, hp_a 2 8]) ++ [hp_q 10 8])) (fun _ => rfl) ?_
  refine rt_e (n1 := 300) (M' := 159) (as := [.ref 23, .ref 37, .int 0]) (rest := []) (v := some (.int 1)) (h' := hv_ c0 c1 c2 c3 c4 c5 c6 c7 c8 c9 c10 c11 c12 c13 c14 c15 c16 c17 c18 c19 c20 c21 c22 (([.inr (12, [.ref 24, .int 0, .ref 25, .int 0, .int 0, .ref 26, .int 0, .int 0, .ref 27, .ref 28, .int 0, .ref 29, .int 1, .int 0, .ref 30, .ref 31, .int 0, .ref 32, .int 0, .ref 33, .ref 34, .int 0, .int 0, .ref 35]), hp_a 0 400, hp_q 9 400, hp_q 10 32, hp_q 9 6, hp_q 11 6, .inl (12, 4, .inr (.inr (.inr (.inr (va_up (fun _ => none) 0 (some 36)))))), hp_q 10 16, hp_a 4 16, hp_q 9 8, hp_q 10 8, hp_q 10 8, hp_a 4 8, .inr (13, [.ref 37, .ref 38, .int 0]), hp_q 10 8, hp_a 2 8]) ++ [hp_q 10 8])) rfl rfl rfl ?_
  refine rt_k (k := 17) (pc' := 256) (L' := [some (.ref 23), some (.int 0), some (.int b), some (.ref 39), some (.int 0), some (.ref 36), some (.int 1), some (.int 0), none]) (st' := [.int 0, .ref 39]) (h' := hv_ c0 c1 c2 c3 c4 c5 c6 c7 c8 c9 c10 c11 c12 c13 c14 c15 c16 c17 c18 c19 c20 c21 c22 (([.inr (12, [.ref 24, .int 0, .ref 25, .int 0, .int 0, .ref 26, .int 0, .int 0, .ref 27, .ref 28, .int 0, .ref 29, .int 1, .int 0, .ref 30, .ref 31, .int 0, .ref 32, .int 0, .ref 33, .ref 34, .int 0, .int 0, .ref 35]), hp_a 0 400, hp_q 9 400, hp_q 10 32, hp_q 9 6, hp_q 11 6, .inl (12, 4, .inr (.inr (.inr (.inr (va_up (fun _ => none) 0 (some 36)))))), hp_q 10 16, hp_a 4 16, hp_q 9 8, hp_q 10 8, hp_q 10 8, hp_a 4 8, .inr (13, [.ref 37, .ref 38, .int 0]), hp_q 10 8, hp_a 2 8]) ++ [hp_q 10 8])) (fun _ => rfl) ?_
  refine rt_e (n1 := 60) (M' := 170) (as := [.ref 39, .int 0]) (rest := []) (v := some (.int 0)) (h' := hv_ c0 c1 c2 c3 c4 c5 c6 c7 c8 c9 c10 c11 c12 c13 c14 c15 c16 c17 c18 c19 c20 c21 c22 (([.inr (12, [.ref 24, .int 0, .ref 25, .int 0, .int 0, .ref 26, .int 0, .int 0, .ref 27, .ref 28, .int 0, .ref 29, .int 1, .int 0, .ref 30, .ref 31, .int 0, .ref 32, .int 0, .ref 33, .ref 34, .int 0, .int 0, .ref 35]), hp_a 0 400, hp_q 9 400, hp_q 10 32, hp_q 9 6, hp_q 11 6, .inl (12, 4, .inr (.inr (.inr (.inr (va_up (fun _ => none) 0 (some 36)))))), hp_q 10 16, hp_a 4 16, hp_q 9 8, hp_q 10 8, hp_q 10 8, hp_a 4 8, .inr (13, [.ref 37, .ref 38, .int 0]), hp_q 10 8, hp_a 2 8]) ++ [hp_q 10 8])) rfl rfl rfl ?_
  refine rt_k (k := 2) (pc' := 266) (L' := [some (.ref 23), some (.int 0), some (.int b), some (.ref 39), some (.int 0), some (.ref 36), some (.int 1), some (.int 0), none]) (st' := [.int b]) (h' := hv_ c0 c1 c2 c3 c4 c5 c6 c7 c8 c9 c10 c11 c12 c13 c14 c15 c16 c17 c18 c19 c20 c21 c22 (([.inr (12, [.ref 24, .int 0, .ref 25, .int 0, .int 0, .ref 26, .int 0, .int 0, .ref 27, .ref 28, .int 0, .ref 29, .int 1, .int 0, .ref 30, .ref 31, .int 0, .ref 32, .int 0, .ref 33, .ref 34, .int 0, .int 0, .ref 35]), hp_a 0 400, hp_q 9 400, hp_q 10 32, hp_q 9 6, hp_q 11 6, .inl (12, 4, .inr (.inr (.inr (.inr (va_up (fun _ => none) 0 (some 36)))))), hp_q 10 16, hp_a 4 16, hp_q 9 8, hp_q 10 8, hp_q 10 8, hp_a 4 8, .inr (13, [.ref 37, .ref 38, .int 0]), hp_q 10 8, hp_a 2 8]) ++ [hp_q 10 8])) (fun _ => rfl) ?_
  refine rt_if rfl (fun h => ?_) (fun h => ?_)
  · show rt_ X 999 167 272 [some (.ref 23), some (.int 0), some (.int b), some (.ref 39), some (.int 0), some (.ref 36), some (.int 1), some (.int 0), none] [] (hv_ c0 c1 c2 c3 c4 c5 c6 c7 c8 c9 c10 c11 c12 c13 c14 c15 c16 c17 c18 c19 c20 c21 c22 (([.inr (12, [.ref 24, .int 0, .ref 25, .int 0, .int 0, .ref 26, .int 0, .int 0, .ref 27, .ref 28, .int 0, .ref 29, .int 1, .int 0, .ref 30, .ref 31, .int 0, .ref 32, .int 0, .ref 33, .ref 34, .int 0, .int 0, .ref 35]), hp_a 0 400, hp_q 9 400, hp_q 10 32, hp_q 9 6, hp_q 11 6, .inl (12, 4, .inr (.inr (.inr (.inr (va_up (fun _ => none) 0 (some 36)))))), hp_q 10 16, hp_a 4 16, hp_q 9 8, hp_q 10 8, hp_q 10 8, hp_a 4 8, .inr (13, [.ref 37, .ref 38, .int 0]), hp_q 10 8, hp_a 2 8]) ++ [hp_q 10 8])) _
    refine rt_k (k := 3) (pc' := 276) (L' := [some (.ref 23), some (.int 0), some (.int b), some (.ref 39), some (.int 0), some (.ref 36), some (.int 1), some (.int 0), none]) (st' := [.int 0, .ref 39, .ref 23]) (h' := hv_ c0 c1 c2 c3 c4 c5 c6 c7 c8 c9 c10 c11 c12 c13 c14 c15 c16 c17 c18 c19 c20 c21 c22 (([.inr (12, [.ref 24, .int 0, .ref 25, .int 0, .int 0, .ref 26, .int 0, .int 0, .ref 27, .ref 28, .int 0, .ref 29, .int 1, .int 0, .ref 30, .ref 31, .int 0, .ref 32, .int 0, .ref 33, .ref 34, .int 0, .int 0, .ref 35]), hp_a 0 400, hp_q 9 400, hp_q 10 32, hp_q 9 6, hp_q 11 6, .inl (12, 4, .inr (.inr (.inr (.inr (va_up (fun _ => none) 0 (some 36)))))), hp_q 10 16, hp_a 4 16, hp_q 9 8, hp_q 10 8, hp_q 10 8, hp_a 4 8, .inr (13, [.ref 37, .ref 38, .int 0]), hp_q 10 8, hp_a 2 8]) ++ [hp_q 10 8])) (fun _ => rfl) ?_
    refine rt_e (n1 := 600) (M' := 171) (as := [.ref 23, .ref 39, .int 0]) (rest := []) (v := some (.ref 41)) (h' := hv_ c0 c1 c2 c3 c4 c5 c6 c7 c8 c9 c10 c11 c12 c13 c14 c15 c16 c17 c18 c19 c20 c21 c22 (([.inr (12, [.ref 24, .int 0, .ref 25, .int 0, .int 0, .ref 26, .int 0, .int 0, .ref 27, .ref 28, .int 0, .ref 29, .int 1, .int 0, .ref 30, .ref 31, .int 0, .ref 32, .int 0, .ref 33, .ref 34, .int 0, .int 0, .ref 35]), hp_a 0 400, hp_q 9 400, hp_q 10 32, hp_q 9 6, hp_q 11 6, .inl (12, 4, .inr (.inr (.inr (.inr (va_up (fun _ => none) 0 (some 36)))))), hp_q 10 16, hp_a 4 16, hp_q 9 8, hp_q 10 8, hp_q 10 8, hp_a 4 8, .inr (13, [.ref 37, .ref 38, .int 0]), hp_q 10 8, hp_a 2 8]) ++ [hp_q 10 8, hp_a 4 64, .inr (13, [.ref 42, .ref 43, .int 0]), hp_q 10 8, hp_a 2 8, hp_a 4 8])) rfl rfl rfl ?_
    refine rt_k (k := 4) (pc' := 286) (L' := [some (.ref 23), some (.int 0), some (.int b), some (.ref 39), some (.int 0), some (.ref 36), some (.int 1), some (.ref 41), none]) (st' := [.ref 41, .ref 36, .ref 23]) (h' := hv_ c0 c1 c2 c3 c4 c5 c6 c7 c8 c9 c10 c11 c12 c13 c14 c15 c16 c17 c18 c19 c20 c21 c22 (([.inr (12, [.ref 24, .int 0, .ref 25, .int 0, .int 0, .ref 26, .int 0, .int 0, .ref 27, .ref 28, .int 0, .ref 29, .int 1, .int 0, .ref 30, .ref 31, .int 0, .ref 32, .int 0, .ref 33, .ref 34, .int 0, .int 0, .ref 35]), hp_a 0 400, hp_q 9 400, hp_q 10 32, hp_q 9 6, hp_q 11 6, .inl (12, 4, .inr (.inr (.inr (.inr (va_up (fun _ => none) 0 (some 36)))))), hp_q 10 16, hp_a 4 16, hp_q 9 8, hp_q 10 8, hp_q 10 8, hp_a 4 8, .inr (13, [.ref 37, .ref 38, .int 0]), hp_q 10 8, hp_a 2 8]) ++ [hp_q 10 8, hp_a 4 64, .inr (13, [.ref 42, .ref 43, .int 0]), hp_q 10 8, hp_a 2 8, hp_a 4 8])) (fun _ => rfl) ?_
    refine rt_e (n1 := 200) (M' := 173) (as := [.ref 23, .ref 36, .ref 41]) (rest := []) (v := none) (h' := hv_ c0 c1 c2 c3 c4 c5 c6 c7 c8 c9 c10 c11 c12 c13 c14 c15 c16 c17 c18 c19 c20 c21 c22 (([.inr (12, [.ref 24, .int 0, .ref 25, .int 0, .int 0, .ref 26, .int 0, .int 0, .ref 27, .ref 28, .int 0, .ref 29, .int 1, .int 0, .ref 30, .ref 31, .int 0, .ref 32, .int 0, .ref 33, .ref 34, .int 0, .int 0, .ref 35]), hp_a 0 400, hp_q 9 400, hp_q 10 32, hp_q 9 6, hp_q 11 6, .inl (12, 4, .inr (.inr (.inr (.inr (va_up (fun _ => none) 0 (some 36)))))), hp_q 10 16, hp_a 4 16, hp_q 9 8, hp_q 10 8, hp_q 10 8, hp_a 4 8, .inr (13, [.ref 37, .ref 38, .int 0]), hp_q 10 8, hp_a 2 8]) ++ [hp_q 10 8, hp_a 4 64, .inr (13, [.ref 42, .ref 43, .int 0]), hp_q 10 8, hp_a 2 8, hp_a 4 8])) rfl rfl rfl ?_
    refine rt_k (k := 23) (pc' := 371) (L' := [some (.ref 23), some (.int 0), some (.int b), some (.ref 39), some (.int 0), some (.ref 36), some (.int 1), some (.ref 41), none]) (st' := [.int 0]) (h' := hv_ c0 c1 c2 c3 c4 c5 c6 c7 c8 c9 c10 c11 c12 c13 c14 c15 c16 c17 c18 c19 c20 c21 c22 (([.inr (12, [.ref 24, .int 0, .ref 25, .int 0, .int 0, .ref 26, .int 0, .int 0, .ref 27, .ref 28, .int 0, .ref 29, .int 2, .int 1, .ref 30, .ref 31, .int 0, .ref 32, .int 0, .ref 33, .ref 34, .int 0, .int 0, .ref 35]), hp_a 0 400, hp_q 9 400, hp_q 10 32, hp_q 9 6, hp_q 11 6, .inl (12, 4, .inr (.inr (.inr (.inr (va_up (va_up (fun _ => none) 0 (some 36)) 1 (some 41)))))), hp_q 10 16, hp_a 4 16, hp_q 9 8, hp_q 10 8, hp_q 10 8, hp_a 4 8, .inr (13, [.ref 37, .ref 38, .int 0]), hp_q 10 8, hp_a 2 8]) ++ [hp_q 10 8, hp_a 4 64, .inr (13, [.ref 42, .ref 43, .int 0]), hp_q 10 8, hp_a 2 8, hp_a 4 8])) (fun _ => rfl) ?_
    exact rt_r (v := some (.int 0)) rfl rfl ⟨rfl, rfl⟩
  · rw [hb] at h; cases h
set_option maxRecDepth 100000 in
set_option maxHeartbeats 2000000 in
theorem yi_1c (X : Nat × (Nat → Int32)) (b : Int32) (c0 c1 c2 c3 c4 c5 c6 c7 c8 c9 c10 c11 c12 c13 c14 c15 c16 c17 c18 c19 c20 c21 c22 e0 e1 e2 e3 e4 : va_E) (hb : ab_cd .lt b 0 = false) : rt_ X 999 167 0 [some (.ref 23), some (.int 1), some (.int b), none, none, none, none, none, none] [] (hv_ c0 c1 c2 c3 c4 c5 c6 c7 c8 c9 c10 c11 c12 c13 c14 c15 c16 c17 c18 c19 c20 c21 c22 (hp_m ++ [e0, e1, e2, e3, e4])) (fun v h' => v = some (.int (-5)) ∧ h' = hv_ c0 c1 c2 c3 c4 c5 c6 c7 c8 c9 c10 c11 c12 c13 c14 c15 c16 c17 c18 c19 c20 c21 c22 (([.inr (12, [.ref 24, .int 0, .ref 25, .int 0, .int 0, .ref 26, .int 0, .int 0, .ref 27, .ref 28, .int 0, .ref 29, .int 1, .int 0, .ref 30, .ref 31, .int 0, .ref 32, .int 0, .ref 33, .ref 34, .int 0, .int 1, .ref 35]), hp_a 0 400, hp_q 9 400, hp_q 10 32, hp_q 9 6, hp_q 11 6, .inl (12, 4, .inr (.inr (.inr (.inr (va_up (fun _ => none) 0 (some 36)))))), hp_q 10 16, hp_a 4 16, hp_q 9 8, hp_q 10 8, hp_q 10 8, hp_a 4 8, .inr (13, [.ref 37, .ref 38, .int 0]), hp_q 10 8, hp_a 2 8]) ++ [e0, e1, e2, e3, e4] ++ [hp_q 10 8])) := by
  refine rt_k (k := 11) (pc' := 21) (L' := [some (.ref 23), some (.int 1), some (.int b), some (.ref 44), some (.int 0), none, none, none, none]) (st' := [.ref 23]) (h' := hv_ c0 c1 c2 c3 c4 c5 c6 c7 c8 c9 c10 c11 c12 c13 c14 c15 c16 c17 c18 c19 c20 c21 c22 (([.inr (12, [.ref 24, .int 0, .ref 25, .int 0, .int 0, .ref 26, .int 0, .int 0, .ref 27, .ref 28, .int 0, .ref 29, .int 1, .int 0, .ref 30, .ref 31, .int 0, .ref 32, .int 0, .ref 33, .ref 34, .int 0, .int 0, .ref 35]), hp_a 0 400, hp_q 9 400, hp_q 10 32, hp_q 9 6, hp_q 11 6, .inl (12, 4, .inr (.inr (.inr (.inr (va_up (fun _ => none) 0 (some 36)))))), hp_q 10 16, hp_a 4 16, hp_q 9 8, hp_q 10 8, hp_q 10 8, hp_a 4 8, .inr (13, [.ref 37, .ref 38, .int 0]), hp_q 10 8, hp_a 2 8]) ++ [e0, e1, e2, e3, e4] ++ [hp_q 10 8])) (fun _ => rfl) ?_
  refine rt_e (n1 := 60) (M' := 168) (as := [.ref 23]) (rest := []) (v := some (.ref 36)) (h' := hv_ c0 c1 c2 c3 c4 c5 c6 c7 c8 c9 c10 c11 c12 c13 c14 c15 c16 c17 c18 c19 c20 c21 c22 (([.inr (12, [.ref 24, .int 0, .ref 25, .int 0, .int 0, .ref 26, .int 0, .int 0, .ref 27, .ref 28, .int 0, .ref 29, .int 1, .int 0, .ref 30, .ref 31, .int 0, .ref 32, .int 0, .ref 33, .ref 34, .int 0, .int 0, .ref 35]), hp_a 0 400, hp_q 9 400, hp_q 10 32, hp_q 9 6, hp_q 11 6, .inl (12, 4, .inr (.inr (.inr (.inr (va_up (fun _ => none) 0 (some 36)))))), hp_q 10 16, hp_a 4 16, hp_q 9 8, hp_q 10 8, hp_q 10 8, hp_a 4 8, .inr (13, [.ref 37, .ref 38, .int 0]), hp_q 10 8, hp_a 2 8]) ++ [e0, e1, e2, e3, e4] ++ [hp_q 10 8])) rfl rfl rfl ?_
  refine rt_k (k := 18) (pc' := 207) (L' := [some (.ref 23), some (.int 1), some (.int b), some (.ref 44), some (.int 0), some (.ref 36), some (.int 0), some (.int 0), none]) (st' := [.ref 23]) (h' := hv_ c0 c1 c2 c3 c4 c5 c6 c7 c8 c9 c10 c11 c12 c13 c14 c15 c16 c17 c18 c19 c20 c21 c22 (([.inr (12, [.ref 24, .int 0, .ref 25, .int 0, .int 0, .ref 26, .int 0, .int 0, .ref 27, .ref 28, .int 0, .ref 29, .int 1, .int 0, .ref 30, .ref 31, .int 0, .ref 32, .int 0, .ref 33, .ref 34, .int 0, .int 0, .ref 35]), hp_a 0 400, hp_q 9 400, hp_q 10 32, hp_q 9 6, hp_q 11 6, .inl (12, 4, .inr (.inr (.inr (.inr (va_up (fun _ => none) 0 (some 36)))))), hp_q 10 16, hp_a 4 16, hp_q 9 8, hp_q 10 8, hp_q 10 8, hp_a 4 8, .inr (13, [.ref 37, .ref 38, .int 0]), hp_q 10 8, hp_a 2 8]) ++ [e0, e1, e2, e3, e4] ++ [hp_q 10 8])) (fun _ => rfl) ?_
  refine rt_e (n1 := 600) (M' := 157) (as := [.ref 23]) (rest := []) (v := none) (h' := hv_ c0 c1 c2 c3 c4 c5 c6 c7 c8 c9 c10 c11 c12 c13 c14 c15 c16 c17 c18 c19 c20 c21 c22 (([.inr (12, [.ref 24, .int 0, .ref 25, .int 0, .int 0, .ref 26, .int 0, .int 0, .ref 27, .ref 28, .int 0, .ref 29, .int 1, .int 0, .ref 30, .ref 31, .int 0, .ref 32, .int 0, .ref 33, .ref 34, .int 0, .int 1, .ref 35]), hp_a 0 400, hp_q 9 400, hp_q 10 32, hp_q 9 6, hp_q 11 6, .inl (12, 4, .inr (.inr (.inr (.inr (va_up (fun _ => none) 0 (some 36)))))), hp_q 10 16, hp_a 4 16, hp_q 9 8, hp_q 10 8, hp_q 10 8, hp_a 4 8, .inr (13, [.ref 37, .ref 38, .int 0]), hp_q 10 8, hp_a 2 8]) ++ [e0, e1, e2, e3, e4] ++ [hp_q 10 8])) rfl rfl rfl ?_
  refine rt_k (k := 13) (pc' := 256) (L' := [some (.ref 23), some (.int 1), some (.int b), some (.ref 44), some (.int 0), some (.ref 36), some (.int 0), some (.int 0), none]) (st' := [.int 0, .ref 44]) (h' := hv_ c0 c1 c2 c3 c4 c5 c6 c7 c8 c9 c10 c11 c12 c13 c14 c15 c16 c17 c18 c19 c20 c21 c22 (([.inr (12, [.ref 24, .int 0, .ref 25, .int 0, .int 0, .ref 26, .int 0, .int 0, .ref 27, .ref 28, .int 0, .ref 29, .int 1, .int 0, .ref 30, .ref 31, .int 0, .ref 32, .int 0, .ref 33, .ref 34, .int 0, .int 1, .ref 35]), hp_a 0 400, hp_q 9 400, hp_q 10 32, hp_q 9 6, hp_q 11 6, .inl (12, 4, .inr (.inr (.inr (.inr (va_up (fun _ => none) 0 (some 36)))))), hp_q 10 16, hp_a 4 16, hp_q 9 8, hp_q 10 8, hp_q 10 8, hp_a 4 8, .inr (13, [.ref 37, .ref 38, .int 0]), hp_q 10 8, hp_a 2 8]) ++ [e0, e1, e2, e3, e4] ++ [hp_q 10 8])) (fun _ => rfl) ?_
  refine rt_e (n1 := 60) (M' := 170) (as := [.ref 44, .int 0]) (rest := []) (v := some (.int 0)) (h' := hv_ c0 c1 c2 c3 c4 c5 c6 c7 c8 c9 c10 c11 c12 c13 c14 c15 c16 c17 c18 c19 c20 c21 c22 (([.inr (12, [.ref 24, .int 0, .ref 25, .int 0, .int 0, .ref 26, .int 0, .int 0, .ref 27, .ref 28, .int 0, .ref 29, .int 1, .int 0, .ref 30, .ref 31, .int 0, .ref 32, .int 0, .ref 33, .ref 34, .int 0, .int 1, .ref 35]), hp_a 0 400, hp_q 9 400, hp_q 10 32, hp_q 9 6, hp_q 11 6, .inl (12, 4, .inr (.inr (.inr (.inr (va_up (fun _ => none) 0 (some 36)))))), hp_q 10 16, hp_a 4 16, hp_q 9 8, hp_q 10 8, hp_q 10 8, hp_a 4 8, .inr (13, [.ref 37, .ref 38, .int 0]), hp_q 10 8, hp_a 2 8]) ++ [e0, e1, e2, e3, e4] ++ [hp_q 10 8])) rfl rfl rfl ?_
  refine rt_k (k := 2) (pc' := 266) (L' := [some (.ref 23), some (.int 1), some (.int b), some (.ref 44), some (.int 0), some (.ref 36), some (.int 0), some (.int 0), none]) (st' := [.int b]) (h' := hv_ c0 c1 c2 c3 c4 c5 c6 c7 c8 c9 c10 c11 c12 c13 c14 c15 c16 c17 c18 c19 c20 c21 c22 (([.inr (12, [.ref 24, .int 0, .ref 25, .int 0, .int 0, .ref 26, .int 0, .int 0, .ref 27, .ref 28, .int 0, .ref 29, .int 1, .int 0, .ref 30, .ref 31, .int 0, .ref 32, .int 0, .ref 33, .ref 34, .int 0, .int 1, .ref 35]), hp_a 0 400, hp_q 9 400, hp_q 10 32, hp_q 9 6, hp_q 11 6, .inl (12, 4, .inr (.inr (.inr (.inr (va_up (fun _ => none) 0 (some 36)))))), hp_q 10 16, hp_a 4 16, hp_q 9 8, hp_q 10 8, hp_q 10 8, hp_a 4 8, .inr (13, [.ref 37, .ref 38, .int 0]), hp_q 10 8, hp_a 2 8]) ++ [e0, e1, e2, e3, e4] ++ [hp_q 10 8])) (fun _ => rfl) ?_
  refine rt_if rfl (fun h => ?_) (fun h => ?_)
  · rw [hb] at h; cases h
  · show rt_ X 999 167 269 [some (.ref 23), some (.int 1), some (.int b), some (.ref 44), some (.int 0), some (.ref 36), some (.int 0), some (.int 0), none] [] (hv_ c0 c1 c2 c3 c4 c5 c6 c7 c8 c9 c10 c11 c12 c13 c14 c15 c16 c17 c18 c19 c20 c21 c22 (([.inr (12, [.ref 24, .int 0, .ref 25, .int 0, .int 0, .ref 26, .int 0, .int 0, .ref 27, .ref 28, .int 0, .ref 29, .int 1, .int 0, .ref 30, .ref 31, .int 0, .ref 32, .int 0, .ref 33, .ref 34, .int 0, .int 1, .ref 35]), hp_a 0 400, hp_q 9 400, hp_q 10 32, hp_q 9 6, hp_q 11 6, .inl (12, 4, .inr (.inr (.inr (.inr (va_up (fun _ => none) 0 (some 36)))))), hp_q 10 16, hp_a 4 16, hp_q 9 8, hp_q 10 8, hp_q 10 8, hp_a 4 8, .inr (13, [.ref 37, .ref 38, .int 0]), hp_q 10 8, hp_a 2 8]) ++ [e0, e1, e2, e3, e4] ++ [hp_q 10 8])) _
    refine rt_k (k := 1) (pc' := 271) (L' := [some (.ref 23), some (.int 1), some (.int b), some (.ref 44), some (.int 0), some (.ref 36), some (.int 0), some (.int 0), none]) (st' := [.int (-5)]) (h' := hv_ c0 c1 c2 c3 c4 c5 c6 c7 c8 c9 c10 c11 c12 c13 c14 c15 c16 c17 c18 c19 c20 c21 c22 (([.inr (12, [.ref 24, .int 0, .ref 25, .int 0, .int 0, .ref 26, .int 0, .int 0, .ref 27, .ref 28, .int 0, .ref 29, .int 1, .int 0, .ref 30, .ref 31, .int 0, .ref 32, .int 0, .ref 33, .ref 34, .int 0, .int 1, .ref 35]), hp_a 0 400, hp_q 9 400, hp_q 10 32, hp_q 9 6, hp_q 11 6, .inl (12, 4, .inr (.inr (.inr (.inr (va_up (fun _ => none) 0 (some 36)))))), hp_q 10 16, hp_a 4 16, hp_q 9 8, hp_q 10 8, hp_q 10 8, hp_a 4 8, .inr (13, [.ref 37, .ref 38, .int 0]), hp_q 10 8, hp_a 2 8]) ++ [e0, e1, e2, e3, e4] ++ [hp_q 10 8])) (fun _ => rfl) ?_
    exact rt_r (v := some (.int (-5))) rfl rfl ⟨rfl, rfl⟩
set_option maxRecDepth 100000 in
set_option maxHeartbeats 2000000 in
theorem yi_1p (X : Nat × (Nat → Int32)) (b : Int32) (c0 c1 c2 c3 c4 c5 c6 c7 c8 c9 c10 c11 c12 c13 c14 c15 c16 c17 c18 c19 c20 c21 c22 e0 e1 e2 e3 e4 : va_E) (hb : ab_cd .lt b 0 = true) : rt_ X 999 167 0 [some (.ref 23), some (.int 1), some (.int b), none, none, none, none, none, none] [] (hv_ c0 c1 c2 c3 c4 c5 c6 c7 c8 c9 c10 c11 c12 c13 c14 c15 c16 c17 c18 c19 c20 c21 c22 (hp_m ++ [e0, e1, e2, e3, e4])) (fun v h' => v = some (.int (0)) ∧ h' = hv_ c0 c1 c2 c3 c4 c5 c6 c7 c8 c9 c10 c11 c12 c13 c14 c15 c16 c17 c18 c19 c20 c21 c22 (([.inr (12, [.ref 24, .int 0, .ref 25, .int 0, .int 0, .ref 26, .int 0, .int 0, .ref 27, .ref 28, .int 0, .ref 29, .int 2, .int 1, .ref 30, .ref 31, .int 0, .ref 32, .int 0, .ref 33, .ref 34, .int 0, .int 1, .ref 35]), hp_a 0 400, hp_q 9 400, hp_q 10 32, hp_q 9 6, hp_q 11 6, .inl (12, 4, .inr (.inr (.inr (.inr (va_up (va_up (fun _ => none) 0 (some 36)) 1 (some 46)))))), hp_q 10 16, hp_a 4 16, hp_q 9 8, hp_q 10 8, hp_q 10 8, hp_a 4 8, .inr (13, [.ref 37, .ref 38, .int 0]), hp_q 10 8, hp_a 2 8]) ++ [e0, e1, e2, e3, e4] ++ [hp_q 10 8, hp_a 4 64, .inr (13, [.ref 47, .ref 48, .int 0]), hp_q 10 8, hp_a 2 8, hp_a 4 8])) := by
  refine rt_k (k := 11) (pc' := 21) (L' := [some (.ref 23), some (.int 1), some (.int b), some (.ref 44), some (.int 0), none, none, none, none]) (st' := [.ref 23]) (h' := hv_ c0 c1 c2 c3 c4 c5 c6 c7 c8 c9 c10 c11 c12 c13 c14 c15 c16 c17 c18 c19 c20 c21 c22 (([.inr (12, [.ref 24, .int 0, .ref 25, .int 0, .int 0, .ref 26, .int 0, .int 0, .ref 27, .ref 28, .int 0, .ref 29, .int 1, .int 0, .ref 30, .ref 31, .int 0, .ref 32, .int 0, .ref 33, .ref 34, .int 0, .int 0, .ref 35]), hp_a 0 400, hp_q 9 400, hp_q 10 32, hp_q 9 6, hp_q 11 6, .inl (12, 4, .inr (.inr (.inr (.inr (va_up (fun _ => none) 0 (some 36)))))), hp_q 10 16, hp_a 4 16, hp_q 9 8, hp_q 10 8, hp_q 10 8, hp_a 4 8, .inr (13, [.ref 37, .ref 38, .int 0]), hp_q 10 8, hp_a 2 8]) ++ [e0, e1, e2, e3, e4] ++ [hp_q 10 8])) (fun _ => rfl) ?_
  refine rt_e (n1 := 60) (M' := 168) (as := [.ref 23]) (rest := []) (v := some (.ref 36)) (h' := hv_ c0 c1 c2 c3 c4 c5 c6 c7 c8 c9 c10 c11 c12 c13 c14 c15 c16 c17 c18 c19 c20 c21 c22 (([.inr (12, [.ref 24, .int 0, .ref 25, .int 0, .int 0, .ref 26, .int 0, .int 0, .ref 27, .ref 28, .int 0, .ref 29, .int 1, .int 0, .ref 30, .ref 31, .int 0, .ref 32, .int 0, .ref 33, .ref 34, .int 0, .int 0, .ref 35]), hp_a 0 400, hp_q 9 400, hp_q 10 32, hp_q 9 6, hp_q 11 6, .inl (12, 4, .inr (.inr (.inr (.inr (va_up (fun _ => none) 0 (some 36)))))), hp_q 10 16, hp_a 4 16, hp_q 9 8, hp_q 10 8, hp_q 10 8, hp_a 4 8, .inr (13, [.ref 37, .ref 38, .int 0]), hp_q 10 8, hp_a 2 8]) ++ [e0, e1, e2, e3, e4] ++ [hp_q 10 8])) rfl rfl rfl ?_
  refine rt_k (k := 18) (pc' := 207) (L' := [some (.ref 23), some (.int 1), some (.int b), some (.ref 44), some (.int 0), some (.ref 36), some (.int 0), some (.int 0), none]) (st' := [.ref 23]) (h' := hv_ c0 c1 c2 c3 c4 c5 c6 c7 c8 c9 c10 c11 c12 c13 c14 c15 c16 c17 c18 c19 c20 c21 c22 (([.inr (12, [.ref 24, .int 0, .ref 25, .int 0, .int 0, .ref 26, .int 0, .int 0, .ref 27, .ref 28, .int 0, .ref 29, .int 1, .int 0, .ref 30, .ref 31, .int 0, .ref 32, .int 0, .ref 33, .ref 34, .int 0, .int 0, .ref 35]), hp_a 0 400, hp_q 9 400, hp_q 10 32, hp_q 9 6, hp_q 11 6, .inl (12, 4, .inr (.inr (.inr (.inr (va_up (fun _ => none) 0 (some 36)))))), hp_q 10 16, hp_a 4 16, hp_q 9 8, hp_q 10 8, hp_q 10 8, hp_a 4 8, .inr (13, [.ref 37, .ref 38, .int 0]), hp_q 10 8, hp_a 2 8]) ++ [e0, e1, e2, e3, e4] ++ [hp_q 10 8])) (fun _ => rfl) ?_
  refine rt_e (n1 := 600) (M' := 157) (as := [.ref 23]) (rest := []) (v := none) (h' := hv_ c0 c1 c2 c3 c4 c5 c6 c7 c8 c9 c10 c11 c12 c13 c14 c15 c16 c17 c18 c19 c20 c21 c22 (([.inr (12, [.ref 24, .int 0, .ref 25, .int 0, .int 0, .ref 26, .int 0, .int 0, .ref 27, .ref 28, .int 0, .ref 29, .int 1, .int 0, .ref 30, .ref 31, .int 0, .ref 32, .int 0, .ref 33, .ref 34, .int 0, .int 1, .ref 35]), hp_a 0 400, hp_q 9 400, hp_q 10 32, hp_q 9 6, hp_q 11 6, .inl (12, 4, .inr (.inr (.inr (.inr (va_up (fun _ => none) 0 (some 36)))))), hp_q 10 16, hp_a 4 16, hp_q 9 8, hp_q 10 8, hp_q 10 8, hp_a 4 8, .inr (13, [.ref 37, .ref 38, .int 0]), hp_q 10 8, hp_a 2 8]) ++ [e0, e1, e2, e3, e4] ++ [hp_q 10 8])) rfl rfl rfl ?_
  refine rt_k (k := 13) (pc' := 256) (L' := [some (.ref 23), some (.int 1), some (.int b), some (.ref 44), some (.int 0), some (.ref 36), some (.int 0), some (.int 0), none]) (st' := [.int 0, .ref 44]) (h' := hv_ c0 c1 c2 c3 c4 c5 c6 c7 c8 c9 c10 c11 c12 c13 c14 c15 c16 c17 c18 c19 c20 c21 c22 (([.inr (12, [.ref 24, .int 0, .ref 25, .int 0, .int 0, .ref 26, .int 0, .int 0, .ref 27, .ref 28, .int 0, .ref 29, .int 1, .int 0, .ref 30, .ref 31, .int 0, .ref 32, .int 0, .ref 33, .ref 34, .int 0, .int 1, .ref 35]), hp_a 0 400, hp_q 9 400, hp_q 10 32, hp_q 9 6, hp_q 11 6, .inl (12, 4, .inr (.inr (.inr (.inr (va_up (fun _ => none) 0 (some 36)))))), hp_q 10 16, hp_a 4 16, hp_q 9 8, hp_q 10 8, hp_q 10 8, hp_a 4 8, .inr (13, [.ref 37, .ref 38, .int 0]), hp_q 10 8, hp_a 2 8]) ++ [e0, e1, e2, e3, e4] ++ [hp_q 10 8])) (fun _ => rfl) ?_
  refine rt_e (n1 := 60) (M' := 170) (as := [.ref 44, .int 0]) (rest := []) (v := some (.int 0)) (h' := hv_ c0 c1 c2 c3 c4 c5 c6 c7 c8 c9 c10 c11 c12 c13 c14 c15 c16 c17 c18 c19 c20 c21 c22 (([.inr (12, [.ref 24, .int 0, .ref 25, .int 0, .int 0, .ref 26, .int 0, .int 0, .ref 27, .ref 28, .int 0, .ref 29, .int 1, .int 0, .ref 30, .ref 31, .int 0, .ref 32, .int 0, .ref 33, .ref 34, .int 0, .int 1, .ref 35]), hp_a 0 400, hp_q 9 400, hp_q 10 32, hp_q 9 6, hp_q 11 6, .inl (12, 4, .inr (.inr (.inr (.inr (va_up (fun _ => none) 0 (some 36)))))), hp_q 10 16, hp_a 4 16, hp_q 9 8, hp_q 10 8, hp_q 10 8, hp_a 4 8, .inr (13, [.ref 37, .ref 38, .int 0]), hp_q 10 8, hp_a 2 8]) ++ [e0, e1, e2, e3, e4] ++ [hp_q 10 8])) rfl rfl rfl ?_
  refine rt_k (k := 2) (pc' := 266) (L' := [some (.ref 23), some (.int 1), some (.int b), some (.ref 44), some (.int 0), some (.ref 36), some (.int 0), some (.int 0), none]) (st' := [.int b]) (h' := hv_ c0 c1 c2 c3 c4 c5 c6 c7 c8 c9 c10 c11 c12 c13 c14 c15 c16 c17 c18 c19 c20 c21 c22 (([.inr (12, [.ref 24, .int 0, .ref 25, .int 0, .int 0, .ref 26, .int 0, .int 0, .ref 27, .ref 28, .int 0, .ref 29, .int 1, .int 0, .ref 30, .ref 31, .int 0, .ref 32, .int 0, .ref 33, .ref 34, .int 0, .int 1, .ref 35]), hp_a 0 400, hp_q 9 400, hp_q 10 32, hp_q 9 6, hp_q 11 6, .inl (12, 4, .inr (.inr (.inr (.inr (va_up (fun _ => none) 0 (some 36)))))), hp_q 10 16, hp_a 4 16, hp_q 9 8, hp_q 10 8, hp_q 10 8, hp_a 4 8, .inr (13, [.ref 37, .ref 38, .int 0]), hp_q 10 8, hp_a 2 8]) ++ [e0, e1, e2, e3, e4] ++ [hp_q 10 8])) (fun _ => rfl) ?_
  refine rt_if rfl (fun h => ?_) (fun h => ?_)
  · show rt_ X 999 167 272 [some (.ref 23), some (.int 1), some (.int b), some (.ref 44), some (.int 0), some (.ref 36), some (.int 0), some (.int 0), none] [] (hv_ c0 c1 c2 c3 c4 c5 c6 c7 c8 c9 c10 c11 c12 c13 c14 c15 c16 c17 c18 c19 c20 c21 c22 (([.inr (12, [.ref 24, .int 0, .ref 25, .int 0, .int 0, .ref 26, .int 0, .int 0, .ref 27, .ref 28, .int 0, .ref 29, .int 1, .int 0, .ref 30, .ref 31, .int 0, .ref 32, .int 0, .ref 33, .ref 34, .int 0, .int 1, .ref 35]), hp_a 0 400, hp_q 9 400, hp_q 10 32, hp_q 9 6, hp_q 11 6, .inl (12, 4, .inr (.inr (.inr (.inr (va_up (fun _ => none) 0 (some 36)))))), hp_q 10 16, hp_a 4 16, hp_q 9 8, hp_q 10 8, hp_q 10 8, hp_a 4 8, .inr (13, [.ref 37, .ref 38, .int 0]), hp_q 10 8, hp_a 2 8]) ++ [e0, e1, e2, e3, e4] ++ [hp_q 10 8])) _
    refine rt_k (k := 3) (pc' := 276) (L' := [some (.ref 23), some (.int 1), some (.int b), some (.ref 44), some (.int 0), some (.ref 36), some (.int 0), some (.int 0), none]) (st' := [.int 0, .ref 44, .ref 23]) (h' := hv_ c0 c1 c2 c3 c4 c5 c6 c7 c8 c9 c10 c11 c12 c13 c14 c15 c16 c17 c18 c19 c20 c21 c22 (([.inr (12, [.ref 24, .int 0, .ref 25, .int 0, .int 0, .ref 26, .int 0, .int 0, .ref 27, .ref 28, .int 0, .ref 29, .int 1, .int 0, .ref 30, .ref 31, .int 0, .ref 32, .int 0, .ref 33, .ref 34, .int 0, .int 1, .ref 35]), hp_a 0 400, hp_q 9 400, hp_q 10 32, hp_q 9 6, hp_q 11 6, .inl (12, 4, .inr (.inr (.inr (.inr (va_up (fun _ => none) 0 (some 36)))))), hp_q 10 16, hp_a 4 16, hp_q 9 8, hp_q 10 8, hp_q 10 8, hp_a 4 8, .inr (13, [.ref 37, .ref 38, .int 0]), hp_q 10 8, hp_a 2 8]) ++ [e0, e1, e2, e3, e4] ++ [hp_q 10 8])) (fun _ => rfl) ?_
    refine rt_e (n1 := 600) (M' := 171) (as := [.ref 23, .ref 44, .int 0]) (rest := []) (v := some (.ref 46)) (h' := hv_ c0 c1 c2 c3 c4 c5 c6 c7 c8 c9 c10 c11 c12 c13 c14 c15 c16 c17 c18 c19 c20 c21 c22 (([.inr (12, [.ref 24, .int 0, .ref 25, .int 0, .int 0, .ref 26, .int 0, .int 0, .ref 27, .ref 28, .int 0, .ref 29, .int 1, .int 0, .ref 30, .ref 31, .int 0, .ref 32, .int 0, .ref 33, .ref 34, .int 0, .int 1, .ref 35]), hp_a 0 400, hp_q 9 400, hp_q 10 32, hp_q 9 6, hp_q 11 6, .inl (12, 4, .inr (.inr (.inr (.inr (va_up (fun _ => none) 0 (some 36)))))), hp_q 10 16, hp_a 4 16, hp_q 9 8, hp_q 10 8, hp_q 10 8, hp_a 4 8, .inr (13, [.ref 37, .ref 38, .int 0]), hp_q 10 8, hp_a 2 8]) ++ [e0, e1, e2, e3, e4] ++ [hp_q 10 8, hp_a 4 64, .inr (13, [.ref 47, .ref 48, .int 0]), hp_q 10 8, hp_a 2 8, hp_a 4 8])) rfl rfl rfl ?_
    refine rt_k (k := 4) (pc' := 286) (L' := [some (.ref 23), some (.int 1), some (.int b), some (.ref 44), some (.int 0), some (.ref 36), some (.int 0), some (.ref 46), none]) (st' := [.ref 46, .ref 36, .ref 23]) (h' := hv_ c0 c1 c2 c3 c4 c5 c6 c7 c8 c9 c10 c11 c12 c13 c14 c15 c16 c17 c18 c19 c20 c21 c22 (([.inr (12, [.ref 24, .int 0, .ref 25, .int 0, .int 0, .ref 26, .int 0, .int 0, .ref 27, .ref 28, .int 0, .ref 29, .int 1, .int 0, .ref 30, .ref 31, .int 0, .ref 32, .int 0, .ref 33, .ref 34, .int 0, .int 1, .ref 35]), hp_a 0 400, hp_q 9 400, hp_q 10 32, hp_q 9 6, hp_q 11 6, .inl (12, 4, .inr (.inr (.inr (.inr (va_up (fun _ => none) 0 (some 36)))))), hp_q 10 16, hp_a 4 16, hp_q 9 8, hp_q 10 8, hp_q 10 8, hp_a 4 8, .inr (13, [.ref 37, .ref 38, .int 0]), hp_q 10 8, hp_a 2 8]) ++ [e0, e1, e2, e3, e4] ++ [hp_q 10 8, hp_a 4 64, .inr (13, [.ref 47, .ref 48, .int 0]), hp_q 10 8, hp_a 2 8, hp_a 4 8])) (fun _ => rfl) ?_
    refine rt_e (n1 := 200) (M' := 173) (as := [.ref 23, .ref 36, .ref 46]) (rest := []) (v := none) (h' := hv_ c0 c1 c2 c3 c4 c5 c6 c7 c8 c9 c10 c11 c12 c13 c14 c15 c16 c17 c18 c19 c20 c21 c22 (([.inr (12, [.ref 24, .int 0, .ref 25, .int 0, .int 0, .ref 26, .int 0, .int 0, .ref 27, .ref 28, .int 0, .ref 29, .int 1, .int 0, .ref 30, .ref 31, .int 0, .ref 32, .int 0, .ref 33, .ref 34, .int 0, .int 1, .ref 35]), hp_a 0 400, hp_q 9 400, hp_q 10 32, hp_q 9 6, hp_q 11 6, .inl (12, 4, .inr (.inr (.inr (.inr (va_up (fun _ => none) 0 (some 36)))))), hp_q 10 16, hp_a 4 16, hp_q 9 8, hp_q 10 8, hp_q 10 8, hp_a 4 8, .inr (13, [.ref 37, .ref 38, .int 0]), hp_q 10 8, hp_a 2 8]) ++ [e0, e1, e2, e3, e4] ++ [hp_q 10 8, hp_a 4 64, .inr (13, [.ref 47, .ref 48, .int 0]), hp_q 10 8, hp_a 2 8, hp_a 4 8])) rfl rfl rfl ?_
    refine rt_k (k := 23) (pc' := 371) (L' := [some (.ref 23), some (.int 1), some (.int b), some (.ref 44), some (.int 0), some (.ref 36), some (.int 0), some (.ref 46), none]) (st' := [.int 0]) (h' := hv_ c0 c1 c2 c3 c4 c5 c6 c7 c8 c9 c10 c11 c12 c13 c14 c15 c16 c17 c18 c19 c20 c21 c22 (([.inr (12, [.ref 24, .int 0, .ref 25, .int 0, .int 0, .ref 26, .int 0, .int 0, .ref 27, .ref 28, .int 0, .ref 29, .int 2, .int 1, .ref 30, .ref 31, .int 0, .ref 32, .int 0, .ref 33, .ref 34, .int 0, .int 1, .ref 35]), hp_a 0 400, hp_q 9 400, hp_q 10 32, hp_q 9 6, hp_q 11 6, .inl (12, 4, .inr (.inr (.inr (.inr (va_up (va_up (fun _ => none) 0 (some 36)) 1 (some 46)))))), hp_q 10 16, hp_a 4 16, hp_q 9 8, hp_q 10 8, hp_q 10 8, hp_a 4 8, .inr (13, [.ref 37, .ref 38, .int 0]), hp_q 10 8, hp_a 2 8]) ++ [e0, e1, e2, e3, e4] ++ [hp_q 10 8, hp_a 4 64, .inr (13, [.ref 47, .ref 48, .int 0]), hp_q 10 8, hp_a 2 8, hp_a 4 8])) (fun _ => rfl) ?_
    exact rt_r (v := some (.int 0)) rfl rfl ⟨rfl, rfl⟩
  · rw [hb] at h; cases h
end
section
/-! EACH FIRST CALL OF THE LAW. -/
set_option maxRecDepth 100000 in
set_option maxHeartbeats 1500000 in
theorem lc_1 (xs : Nat → Int32) : rt_ (6, xs) 1000 182 171 [some (.retAddr 1000), some (.ref 0), some (.ref 23), some (.int 0)] [] hp_0 lp_Q := by
  repeat' (first | refine lp_9 ?_ | refine rt_n rfl ?_ | refine rt_r rfl rfl ?_ | refine rt_e (n1 := 1500) rfl rfl rfl ?_ | refine rt_i rfl rfl ?_ | refine rt_if rfl (fun h => ?_) (fun h => ?_) | refine rt_t6 rfl (by decide) (fun h => ?_) (fun h => ?_) (fun h => ?_) (fun h => ?_) (fun h => ?_) (fun h => ?_) (fun h => ?_) | refine rt_ic rfl (fun h => ?_) (fun h => ?_))
  all_goals first | exact lp_h0 | (exfalso; simp only [ab_cd, Bool.not_eq_true', Bool.not_eq_false', decide_eq_true_eq, decide_eq_false_iff_not, Int32.lt_iff_toInt_lt, Int32.le_iff_toInt_le, ← Int32.toInt_inj, not_true_eq_false, k_0, k_1, k_im1, k_i0, k_i1, k_i2, k_i3, k_i4, k_i5, k_b7, k_b6, k_b5, k_b4, k_b3, k_b2, k_b1] at *; done) | (exfalso; simp only [ab_cd, Bool.not_eq_true', Bool.not_eq_false', decide_eq_true_eq, decide_eq_false_iff_not, Int32.lt_iff_toInt_lt, Int32.le_iff_toInt_le, ← Int32.toInt_inj, not_true_eq_false, k_0, k_1, k_im1, k_i0, k_i1, k_i2, k_i3, k_i4, k_i5, k_b7, k_b6, k_b5, k_b4, k_b3, k_b2, k_b1] at *; omega) | ((repeat refine ok_s ?_ rfl rfl); exact lp_h0) | exact ⟨rfl, Nat.le_of_ble_eq_true rfl, Nat.le_of_ble_eq_true rfl⟩
set_option maxRecDepth 100000 in
set_option maxHeartbeats 1500000 in
theorem lc_2 (xs : Nat → Int32) : rt_ (6, xs) 1000 182 194 [some (.retAddr 1000), some (.ref 0), some (.ref 23), some (.int 0)] [] hp_0 lp_Q := by
  repeat' (first | refine lp_9 ?_ | refine rt_n rfl ?_ | refine rt_r rfl rfl ?_ | refine rt_e (n1 := 1500) rfl rfl rfl ?_ | refine rt_i rfl rfl ?_ | refine rt_if rfl (fun h => ?_) (fun h => ?_) | refine rt_t6 rfl (by decide) (fun h => ?_) (fun h => ?_) (fun h => ?_) (fun h => ?_) (fun h => ?_) (fun h => ?_) (fun h => ?_) | refine rt_ic rfl (fun h => ?_) (fun h => ?_))
  all_goals first | exact lp_h0 | (exfalso; simp only [ab_cd, Bool.not_eq_true', Bool.not_eq_false', decide_eq_true_eq, decide_eq_false_iff_not, Int32.lt_iff_toInt_lt, Int32.le_iff_toInt_le, ← Int32.toInt_inj, not_true_eq_false, k_0, k_1, k_im1, k_i0, k_i1, k_i2, k_i3, k_i4, k_i5, k_b7, k_b6, k_b5, k_b4, k_b3, k_b2, k_b1] at *; done) | (exfalso; simp only [ab_cd, Bool.not_eq_true', Bool.not_eq_false', decide_eq_true_eq, decide_eq_false_iff_not, Int32.lt_iff_toInt_lt, Int32.le_iff_toInt_le, ← Int32.toInt_inj, not_true_eq_false, k_0, k_1, k_im1, k_i0, k_i1, k_i2, k_i3, k_i4, k_i5, k_b7, k_b6, k_b5, k_b4, k_b3, k_b2, k_b1] at *; omega) | ((repeat refine ok_s ?_ rfl rfl); exact lp_h0) | exact ⟨rfl, Nat.le_of_ble_eq_true rfl, Nat.le_of_ble_eq_true rfl⟩
set_option maxRecDepth 100000 in
set_option maxHeartbeats 1500000 in
theorem lc_3 (xs : Nat → Int32) : rt_ (6, xs) 1000 182 207 [some (.retAddr 1000), some (.ref 0), some (.ref 23), some (.int 0)] [] hp_0 lp_Q := by
  repeat' (first | refine lp_9 ?_ | refine rt_n rfl ?_ | refine rt_r rfl rfl ?_ | refine rt_e (n1 := 1500) rfl rfl rfl ?_ | refine rt_i rfl rfl ?_ | refine rt_if rfl (fun h => ?_) (fun h => ?_) | refine rt_t6 rfl (by decide) (fun h => ?_) (fun h => ?_) (fun h => ?_) (fun h => ?_) (fun h => ?_) (fun h => ?_) (fun h => ?_) | refine rt_ic rfl (fun h => ?_) (fun h => ?_))
  all_goals first | exact lp_h0 | (exfalso; simp only [ab_cd, Bool.not_eq_true', Bool.not_eq_false', decide_eq_true_eq, decide_eq_false_iff_not, Int32.lt_iff_toInt_lt, Int32.le_iff_toInt_le, ← Int32.toInt_inj, not_true_eq_false, k_0, k_1, k_im1, k_i0, k_i1, k_i2, k_i3, k_i4, k_i5, k_b7, k_b6, k_b5, k_b4, k_b3, k_b2, k_b1] at *; done) | (exfalso; simp only [ab_cd, Bool.not_eq_true', Bool.not_eq_false', decide_eq_true_eq, decide_eq_false_iff_not, Int32.lt_iff_toInt_lt, Int32.le_iff_toInt_le, ← Int32.toInt_inj, not_true_eq_false, k_0, k_1, k_im1, k_i0, k_i1, k_i2, k_i3, k_i4, k_i5, k_b7, k_b6, k_b5, k_b4, k_b3, k_b2, k_b1] at *; omega) | ((repeat refine ok_s ?_ rfl rfl); exact lp_h0) | exact ⟨rfl, Nat.le_of_ble_eq_true rfl, Nat.le_of_ble_eq_true rfl⟩
set_option maxRecDepth 100000 in
set_option maxHeartbeats 1500000 in
theorem lc_4 (xs : Nat → Int32) : rt_ (6, xs) 1000 182 230 [some (.retAddr 1000), some (.ref 0), some (.ref 23), some (.int 0)] [] hp_0 lp_Q := by
  repeat' (first | refine lp_9 ?_ | refine rt_n rfl ?_ | refine rt_r rfl rfl ?_ | refine rt_e (n1 := 1500) rfl rfl rfl ?_ | refine rt_i rfl rfl ?_ | refine rt_if rfl (fun h => ?_) (fun h => ?_) | refine rt_t6 rfl (by decide) (fun h => ?_) (fun h => ?_) (fun h => ?_) (fun h => ?_) (fun h => ?_) (fun h => ?_) (fun h => ?_) | refine rt_ic rfl (fun h => ?_) (fun h => ?_))
  all_goals first | exact lp_h0 | (exfalso; simp only [ab_cd, Bool.not_eq_true', Bool.not_eq_false', decide_eq_true_eq, decide_eq_false_iff_not, Int32.lt_iff_toInt_lt, Int32.le_iff_toInt_le, ← Int32.toInt_inj, not_true_eq_false, k_0, k_1, k_im1, k_i0, k_i1, k_i2, k_i3, k_i4, k_i5, k_b7, k_b6, k_b5, k_b4, k_b3, k_b2, k_b1] at *; done) | (exfalso; simp only [ab_cd, Bool.not_eq_true', Bool.not_eq_false', decide_eq_true_eq, decide_eq_false_iff_not, Int32.lt_iff_toInt_lt, Int32.le_iff_toInt_le, ← Int32.toInt_inj, not_true_eq_false, k_0, k_1, k_im1, k_i0, k_i1, k_i2, k_i3, k_i4, k_i5, k_b7, k_b6, k_b5, k_b4, k_b3, k_b2, k_b1] at *; omega) | ((repeat refine ok_s ?_ rfl rfl); exact lp_h0) | exact ⟨rfl, Nat.le_of_ble_eq_true rfl, Nat.le_of_ble_eq_true rfl⟩
set_option maxRecDepth 100000 in
set_option maxHeartbeats 1500000 in
theorem lc_5 (xs : Nat → Int32) : rt_ (6, xs) 1000 182 243 [some (.retAddr 1000), some (.ref 0), some (.ref 23), some (.int 0)] [] hp_0 lp_Q := by
  repeat' (first | refine lp_9 ?_ | refine rt_n rfl ?_ | refine rt_r rfl rfl ?_ | refine rt_e (n1 := 1500) rfl rfl rfl ?_ | refine rt_i rfl rfl ?_ | refine rt_if rfl (fun h => ?_) (fun h => ?_) | refine rt_t6 rfl (by decide) (fun h => ?_) (fun h => ?_) (fun h => ?_) (fun h => ?_) (fun h => ?_) (fun h => ?_) (fun h => ?_) | refine rt_ic rfl (fun h => ?_) (fun h => ?_))
  all_goals first | exact lp_h0 | (exfalso; simp only [ab_cd, Bool.not_eq_true', Bool.not_eq_false', decide_eq_true_eq, decide_eq_false_iff_not, Int32.lt_iff_toInt_lt, Int32.le_iff_toInt_le, ← Int32.toInt_inj, not_true_eq_false, k_0, k_1, k_im1, k_i0, k_i1, k_i2, k_i3, k_i4, k_i5, k_b7, k_b6, k_b5, k_b4, k_b3, k_b2, k_b1] at *; done) | (exfalso; simp only [ab_cd, Bool.not_eq_true', Bool.not_eq_false', decide_eq_true_eq, decide_eq_false_iff_not, Int32.lt_iff_toInt_lt, Int32.le_iff_toInt_le, ← Int32.toInt_inj, not_true_eq_false, k_0, k_1, k_im1, k_i0, k_i1, k_i2, k_i3, k_i4, k_i5, k_b7, k_b6, k_b5, k_b4, k_b3, k_b2, k_b1] at *; omega) | ((repeat refine ok_s ?_ rfl rfl); exact lp_h0) | exact ⟨rfl, Nat.le_of_ble_eq_true rfl, Nat.le_of_ble_eq_true rfl⟩
set_option maxRecDepth 100000 in
set_option maxHeartbeats 1500000 in
theorem lc_7 (xs : Nat → Int32) : rt_ (6, xs) 1000 182 289 [some (.retAddr 1000), some (.ref 0), some (.ref 23), some (.int 0)] [] hp_0 lp_Q := by
  repeat' (first | refine lp_9 ?_ | refine rt_n rfl ?_ | refine rt_r rfl rfl ?_ | refine rt_e (n1 := 1500) rfl rfl rfl ?_ | refine rt_i rfl rfl ?_ | refine rt_if rfl (fun h => ?_) (fun h => ?_) | refine rt_t6 rfl (by decide) (fun h => ?_) (fun h => ?_) (fun h => ?_) (fun h => ?_) (fun h => ?_) (fun h => ?_) (fun h => ?_) | refine rt_ic rfl (fun h => ?_) (fun h => ?_))
  all_goals first | exact lp_h0 | (exfalso; simp only [ab_cd, Bool.not_eq_true', Bool.not_eq_false', decide_eq_true_eq, decide_eq_false_iff_not, Int32.lt_iff_toInt_lt, Int32.le_iff_toInt_le, ← Int32.toInt_inj, not_true_eq_false, k_0, k_1, k_im1, k_i0, k_i1, k_i2, k_i3, k_i4, k_i5, k_b7, k_b6, k_b5, k_b4, k_b3, k_b2, k_b1] at *; done) | (exfalso; simp only [ab_cd, Bool.not_eq_true', Bool.not_eq_false', decide_eq_true_eq, decide_eq_false_iff_not, Int32.lt_iff_toInt_lt, Int32.le_iff_toInt_le, ← Int32.toInt_inj, not_true_eq_false, k_0, k_1, k_im1, k_i0, k_i1, k_i2, k_i3, k_i4, k_i5, k_b7, k_b6, k_b5, k_b4, k_b3, k_b2, k_b1] at *; omega) | ((repeat refine ok_s ?_ rfl rfl); exact lp_h0) | exact ⟨rfl, Nat.le_of_ble_eq_true rfl, Nat.le_of_ble_eq_true rfl⟩
set_option maxRecDepth 100000 in
set_option maxHeartbeats 1500000 in
theorem lc_8 (xs : Nat → Int32) : rt_ (6, xs) 1000 182 312 [some (.retAddr 1000), some (.ref 0), some (.ref 23), some (.int 0)] [] hp_0 lp_Q := by
  repeat' (first | refine lp_9 ?_ | refine rt_n rfl ?_ | refine rt_r rfl rfl ?_ | refine rt_e (n1 := 1500) rfl rfl rfl ?_ | refine rt_i rfl rfl ?_ | refine rt_if rfl (fun h => ?_) (fun h => ?_) | refine rt_t6 rfl (by decide) (fun h => ?_) (fun h => ?_) (fun h => ?_) (fun h => ?_) (fun h => ?_) (fun h => ?_) (fun h => ?_) | refine rt_ic rfl (fun h => ?_) (fun h => ?_))
  all_goals first | exact lp_h0 | (exfalso; simp only [ab_cd, Bool.not_eq_true', Bool.not_eq_false', decide_eq_true_eq, decide_eq_false_iff_not, Int32.lt_iff_toInt_lt, Int32.le_iff_toInt_le, ← Int32.toInt_inj, not_true_eq_false, k_0, k_1, k_im1, k_i0, k_i1, k_i2, k_i3, k_i4, k_i5, k_b7, k_b6, k_b5, k_b4, k_b3, k_b2, k_b1] at *; done) | (exfalso; simp only [ab_cd, Bool.not_eq_true', Bool.not_eq_false', decide_eq_true_eq, decide_eq_false_iff_not, Int32.lt_iff_toInt_lt, Int32.le_iff_toInt_le, ← Int32.toInt_inj, not_true_eq_false, k_0, k_1, k_im1, k_i0, k_i1, k_i2, k_i3, k_i4, k_i5, k_b7, k_b6, k_b5, k_b4, k_b3, k_b2, k_b1] at *; omega) | ((repeat refine ok_s ?_ rfl rfl); exact lp_h0) | exact ⟨rfl, Nat.le_of_ble_eq_true rfl, Nat.le_of_ble_eq_true rfl⟩
set_option maxRecDepth 100000 in
set_option maxHeartbeats 1500000 in
theorem lc_9 (xs : Nat → Int32) : rt_ (6, xs) 1000 182 335 [some (.retAddr 1000), some (.ref 0), some (.ref 23), some (.int 0)] [] hp_0 lp_Q := by
  repeat' (first | refine lp_9 ?_ | refine rt_n rfl ?_ | refine rt_r rfl rfl ?_ | refine rt_e (n1 := 1500) rfl rfl rfl ?_ | refine rt_i rfl rfl ?_ | refine rt_if rfl (fun h => ?_) (fun h => ?_) | refine rt_t6 rfl (by decide) (fun h => ?_) (fun h => ?_) (fun h => ?_) (fun h => ?_) (fun h => ?_) (fun h => ?_) (fun h => ?_) | refine rt_ic rfl (fun h => ?_) (fun h => ?_))
  all_goals first | exact lp_h0 | (exfalso; simp only [ab_cd, Bool.not_eq_true', Bool.not_eq_false', decide_eq_true_eq, decide_eq_false_iff_not, Int32.lt_iff_toInt_lt, Int32.le_iff_toInt_le, ← Int32.toInt_inj, not_true_eq_false, k_0, k_1, k_im1, k_i0, k_i1, k_i2, k_i3, k_i4, k_i5, k_b7, k_b6, k_b5, k_b4, k_b3, k_b2, k_b1] at *; done) | (exfalso; simp only [ab_cd, Bool.not_eq_true', Bool.not_eq_false', decide_eq_true_eq, decide_eq_false_iff_not, Int32.lt_iff_toInt_lt, Int32.le_iff_toInt_le, ← Int32.toInt_inj, not_true_eq_false, k_0, k_1, k_im1, k_i0, k_i1, k_i2, k_i3, k_i4, k_i5, k_b7, k_b6, k_b5, k_b4, k_b3, k_b2, k_b1] at *; omega) | ((repeat refine ok_s ?_ rfl rfl); exact lp_h0) | exact ⟨rfl, Nat.le_of_ble_eq_true rfl, Nat.le_of_ble_eq_true rfl⟩
set_option maxRecDepth 100000 in
set_option maxHeartbeats 1500000 in
theorem lc_10 (xs : Nat → Int32) : rt_ (6, xs) 1000 182 368 [some (.retAddr 1000), some (.ref 0), some (.ref 23), some (.int 0)] [] hp_0 lp_Q := by
  repeat' (first | refine lp_9 ?_ | refine rt_n rfl ?_ | refine rt_r rfl rfl ?_ | refine rt_e (n1 := 1500) rfl rfl rfl ?_ | refine rt_i rfl rfl ?_ | refine rt_if rfl (fun h => ?_) (fun h => ?_) | refine rt_t6 rfl (by decide) (fun h => ?_) (fun h => ?_) (fun h => ?_) (fun h => ?_) (fun h => ?_) (fun h => ?_) (fun h => ?_) | refine rt_ic rfl (fun h => ?_) (fun h => ?_))
  all_goals first | exact lp_h0 | (exfalso; simp only [ab_cd, Bool.not_eq_true', Bool.not_eq_false', decide_eq_true_eq, decide_eq_false_iff_not, Int32.lt_iff_toInt_lt, Int32.le_iff_toInt_le, ← Int32.toInt_inj, not_true_eq_false, k_0, k_1, k_im1, k_i0, k_i1, k_i2, k_i3, k_i4, k_i5, k_b7, k_b6, k_b5, k_b4, k_b3, k_b2, k_b1] at *; done) | (exfalso; simp only [ab_cd, Bool.not_eq_true', Bool.not_eq_false', decide_eq_true_eq, decide_eq_false_iff_not, Int32.lt_iff_toInt_lt, Int32.le_iff_toInt_le, ← Int32.toInt_inj, not_true_eq_false, k_0, k_1, k_im1, k_i0, k_i1, k_i2, k_i3, k_i4, k_i5, k_b7, k_b6, k_b5, k_b4, k_b3, k_b2, k_b1] at *; omega) | ((repeat refine ok_s ?_ rfl rfl); exact lp_h0) | exact ⟨rfl, Nat.le_of_ble_eq_true rfl, Nat.le_of_ble_eq_true rfl⟩
set_option maxRecDepth 100000 in
set_option maxHeartbeats 1500000 in
theorem lc_11 (xs : Nat → Int32) : rt_ (6, xs) 1000 182 401 [some (.retAddr 1000), some (.ref 0), some (.ref 23), some (.int 0)] [] hp_0 lp_Q := by
  repeat' (first | refine lp_9 ?_ | refine rt_n rfl ?_ | refine rt_r rfl rfl ?_ | refine rt_e (n1 := 1500) rfl rfl rfl ?_ | refine rt_i rfl rfl ?_ | refine rt_if rfl (fun h => ?_) (fun h => ?_) | refine rt_t6 rfl (by decide) (fun h => ?_) (fun h => ?_) (fun h => ?_) (fun h => ?_) (fun h => ?_) (fun h => ?_) (fun h => ?_) | refine rt_ic rfl (fun h => ?_) (fun h => ?_))
  all_goals first | exact lp_h0 | (exfalso; simp only [ab_cd, Bool.not_eq_true', Bool.not_eq_false', decide_eq_true_eq, decide_eq_false_iff_not, Int32.lt_iff_toInt_lt, Int32.le_iff_toInt_le, ← Int32.toInt_inj, not_true_eq_false, k_0, k_1, k_im1, k_i0, k_i1, k_i2, k_i3, k_i4, k_i5, k_b7, k_b6, k_b5, k_b4, k_b3, k_b2, k_b1] at *; done) | (exfalso; simp only [ab_cd, Bool.not_eq_true', Bool.not_eq_false', decide_eq_true_eq, decide_eq_false_iff_not, Int32.lt_iff_toInt_lt, Int32.le_iff_toInt_le, ← Int32.toInt_inj, not_true_eq_false, k_0, k_1, k_im1, k_i0, k_i1, k_i2, k_i3, k_i4, k_i5, k_b7, k_b6, k_b5, k_b4, k_b3, k_b2, k_b1] at *; omega) | ((repeat refine ok_s ?_ rfl rfl); exact lp_h0) | exact ⟨rfl, Nat.le_of_ble_eq_true rfl, Nat.le_of_ble_eq_true rfl⟩
set_option maxRecDepth 100000 in
set_option maxHeartbeats 1500000 in
theorem lc_12 (xs : Nat → Int32) : rt_ (6, xs) 1000 182 414 [some (.retAddr 1000), some (.ref 0), some (.ref 23), some (.int 0)] [] hp_0 lp_Q := by
  repeat' (first | refine lp_9 ?_ | refine rt_n rfl ?_ | refine rt_r rfl rfl ?_ | refine rt_e (n1 := 1500) rfl rfl rfl ?_ | refine rt_i rfl rfl ?_ | refine rt_if rfl (fun h => ?_) (fun h => ?_) | refine rt_t6 rfl (by decide) (fun h => ?_) (fun h => ?_) (fun h => ?_) (fun h => ?_) (fun h => ?_) (fun h => ?_) (fun h => ?_) | refine rt_ic rfl (fun h => ?_) (fun h => ?_))
  all_goals first | exact lp_h0 | (exfalso; simp only [ab_cd, Bool.not_eq_true', Bool.not_eq_false', decide_eq_true_eq, decide_eq_false_iff_not, Int32.lt_iff_toInt_lt, Int32.le_iff_toInt_le, ← Int32.toInt_inj, not_true_eq_false, k_0, k_1, k_im1, k_i0, k_i1, k_i2, k_i3, k_i4, k_i5, k_b7, k_b6, k_b5, k_b4, k_b3, k_b2, k_b1] at *; done) | (exfalso; simp only [ab_cd, Bool.not_eq_true', Bool.not_eq_false', decide_eq_true_eq, decide_eq_false_iff_not, Int32.lt_iff_toInt_lt, Int32.le_iff_toInt_le, ← Int32.toInt_inj, not_true_eq_false, k_0, k_1, k_im1, k_i0, k_i1, k_i2, k_i3, k_i4, k_i5, k_b7, k_b6, k_b5, k_b4, k_b3, k_b2, k_b1] at *; omega) | ((repeat refine ok_s ?_ rfl rfl); exact lp_h0) | exact ⟨rfl, Nat.le_of_ble_eq_true rfl, Nat.le_of_ble_eq_true rfl⟩
set_option maxRecDepth 100000 in
set_option maxHeartbeats 1500000 in
theorem lc_13 (xs : Nat → Int32) : rt_ (6, xs) 1000 182 427 [some (.retAddr 1000), some (.ref 0), some (.ref 23), some (.int 0)] [] hp_0 lp_Q := by
  repeat' (first | refine lp_9 ?_ | refine rt_n rfl ?_ | refine rt_r rfl rfl ?_ | refine rt_e (n1 := 1500) rfl rfl rfl ?_ | refine rt_i rfl rfl ?_ | refine rt_if rfl (fun h => ?_) (fun h => ?_) | refine rt_t6 rfl (by decide) (fun h => ?_) (fun h => ?_) (fun h => ?_) (fun h => ?_) (fun h => ?_) (fun h => ?_) (fun h => ?_) | refine rt_ic rfl (fun h => ?_) (fun h => ?_))
  all_goals first | exact lp_h0 | (exfalso; simp only [ab_cd, Bool.not_eq_true', Bool.not_eq_false', decide_eq_true_eq, decide_eq_false_iff_not, Int32.lt_iff_toInt_lt, Int32.le_iff_toInt_le, ← Int32.toInt_inj, not_true_eq_false, k_0, k_1, k_im1, k_i0, k_i1, k_i2, k_i3, k_i4, k_i5, k_b7, k_b6, k_b5, k_b4, k_b3, k_b2, k_b1] at *; done) | (exfalso; simp only [ab_cd, Bool.not_eq_true', Bool.not_eq_false', decide_eq_true_eq, decide_eq_false_iff_not, Int32.lt_iff_toInt_lt, Int32.le_iff_toInt_le, ← Int32.toInt_inj, not_true_eq_false, k_0, k_1, k_im1, k_i0, k_i1, k_i2, k_i3, k_i4, k_i5, k_b7, k_b6, k_b5, k_b4, k_b3, k_b2, k_b1] at *; omega) | ((repeat refine ok_s ?_ rfl rfl); exact lp_h0) | exact ⟨rfl, Nat.le_of_ble_eq_true rfl, Nat.le_of_ble_eq_true rfl⟩
set_option maxRecDepth 100000 in
set_option maxHeartbeats 1500000 in
theorem lc_14 (xs : Nat → Int32) : rt_ (6, xs) 1000 182 440 [some (.retAddr 1000), some (.ref 0), some (.ref 23), some (.int 0)] [] hp_0 lp_Q := by
  repeat' (first | refine lp_9 ?_ | refine rt_n rfl ?_ | refine rt_r rfl rfl ?_ | refine rt_e (n1 := 1500) rfl rfl rfl ?_ | refine rt_i rfl rfl ?_ | refine rt_if rfl (fun h => ?_) (fun h => ?_) | refine rt_t6 rfl (by decide) (fun h => ?_) (fun h => ?_) (fun h => ?_) (fun h => ?_) (fun h => ?_) (fun h => ?_) (fun h => ?_) | refine rt_ic rfl (fun h => ?_) (fun h => ?_))
  all_goals first | exact lp_h0 | (exfalso; simp only [ab_cd, Bool.not_eq_true', Bool.not_eq_false', decide_eq_true_eq, decide_eq_false_iff_not, Int32.lt_iff_toInt_lt, Int32.le_iff_toInt_le, ← Int32.toInt_inj, not_true_eq_false, k_0, k_1, k_im1, k_i0, k_i1, k_i2, k_i3, k_i4, k_i5, k_b7, k_b6, k_b5, k_b4, k_b3, k_b2, k_b1] at *; done) | (exfalso; simp only [ab_cd, Bool.not_eq_true', Bool.not_eq_false', decide_eq_true_eq, decide_eq_false_iff_not, Int32.lt_iff_toInt_lt, Int32.le_iff_toInt_le, ← Int32.toInt_inj, not_true_eq_false, k_0, k_1, k_im1, k_i0, k_i1, k_i2, k_i3, k_i4, k_i5, k_b7, k_b6, k_b5, k_b4, k_b3, k_b2, k_b1] at *; omega) | ((repeat refine ok_s ?_ rfl rfl); exact lp_h0) | exact ⟨rfl, Nat.le_of_ble_eq_true rfl, Nat.le_of_ble_eq_true rfl⟩
end
section
/-! install; THE LAW ON A SCRIPT OF AT MOST SIX INTS. -/
set_option maxRecDepth 100000 in
set_option maxHeartbeats 4000000 in
theorem xi_n (X : Nat × (Nat → Int32)) (a b : Int32) (h0 : ¬ a = 0) (h1 : ¬ a = 1) : rt_ X 999 72 0 [some (.ref 0), some (.int a), some (.int b), none] [] hp_0 (fun v h' => v = some (.int (-1)) ∧ h' = hp_0) := by
  refine rt_n rfl ?_
  refine rt_if rfl (fun h => absurd (i_eq h) h0) (fun _ => ?_)
  refine rt_k (k := 2) (pc' := 6) (L' := [some (.ref 0), some (.int a), some (.int b), none]) (st' := [.int 1, .int a]) (h' := hp_0) (fun _ => rfl) ?_
  refine rt_ic rfl (fun h => absurd (i_eq h) h1) (fun _ => ?_)
  refine rt_k (k := 1) (pc' := 10) (L' := [some (.ref 0), some (.int a), some (.int b), none]) (st' := [.int (-1)]) (h' := hp_0) (fun _ => rfl) ?_
  exact rt_r (v := some (.int (-1))) rfl rfl ⟨rfl, rfl⟩
set_option maxRecDepth 100000 in
set_option maxHeartbeats 4000000 in
theorem yi_n (X : Nat × (Nat → Int32)) (a b : Int32) (h0 : ¬ a = 0) (h1 : ¬ a = 1) : rt_ X 999 167 0 [some (.ref 23), some (.int a), some (.int b), none, none, none, none, none, none] [] hp_0 (fun v h' => v = some (.int (-1)) ∧ h' = hp_0) := by
  refine rt_n rfl ?_
  refine rt_if rfl (fun _ => ?_) (fun h => ?_)
  · show rt_ X 999 167 9 [some (.ref 23), some (.int a), some (.int b), none, none, none, none, none, none] [] hp_0 _
    refine rt_k (k := 1) (pc' := 10) (L' := [some (.ref 23), some (.int a), some (.int b), none, none, none, none, none, none]) (st' := [.int (-1)]) (h' := hp_0) (fun _ => rfl) ?_
    exact rt_r (v := some (.int (-1))) rfl rfl ⟨rfl, rfl⟩
  · refine rt_k (k := 2) (pc' := 6) (L' := [some (.ref 23), some (.int a), some (.int b), none, none, none, none, none, none]) (st' := [.int 1, .int a]) (h' := hp_0) (fun _ => rfl) ?_
    refine rt_ic rfl (fun h2 => ?_) (fun _ => ?_)
    · exfalso
      simp only [ab_cd, decide_eq_true_eq, decide_eq_false_iff_not, Int32.lt_iff_toInt_lt, Int32.le_iff_toInt_le, ← Int32.toInt_inj, k_0, k_1] at h0 h1 h h2
      omega
    · refine rt_k (k := 1) (pc' := 10) (L' := [some (.ref 23), some (.int a), some (.int b), none, none, none, none, none, none]) (st' := [.int (-1)]) (h' := hp_0) (fun _ => rfl) ?_
      exact rt_r (v := some (.int (-1))) rfl rfl ⟨rfl, rfl⟩
set_option maxRecDepth 100000 in
set_option maxHeartbeats 4000000 in
theorem lc_6 (xs : Nat → Int32) : rt_ (6, xs) 1000 182 256 [some (.retAddr 1000), some (.ref 0), some (.ref 23), some (.int 0)] [] hp_0 lp_Q := by
  refine rt_k (k := 11) (pc' := 267) (L' := [some (.retAddr 1000), some (.ref 0), some (.ref 23), some (.int 0)]) (st' := [.int (xs 2), .int (xs 1), .ref 0]) (h' := hp_0) (fun _ => rfl) ?_
  by_cases ha : xs 1 = 0
  · rw [ha]
    cases hb : ab_cd .lt (xs 2) 0 with
    | true =>
      refine rt_c (M' := 72) (as := [.ref 0, .int 0, .int (xs 2)]) (rest := []) rfl rfl (xi_0p (6, xs) (xs 2) hb) ?_
      rintro v1 g1 ⟨rfl, rfl⟩
      refine rt_k (k := 11) (pc' := 281) (L' := [some (.retAddr 1000), some (.ref 0), some (.ref 23), some (.int 0)]) (st' := [.int (xs 2), .int (xs 1), .ref 23, .int 0]) (h' := hp_p) (fun _ => rfl) ?_
      rw [ha]
      refine rt_c (M' := 167) (as := [.ref 23, .int 0, .int (xs 2)]) (rest := [.int 0]) rfl rfl (yi_0p (6, xs) (xs 2) _ _ _ _ _ _ _ _ _ _ _ _ _ _ _ _ _ _ _ _ _ _ _ hb) ?_
      rintro v1 g1 ⟨rfl, rfl⟩
      refine rt_n rfl ?_
      refine lp_9 ?_
      exact ⟨rfl, Nat.le_of_ble_eq_true rfl, Nat.le_of_ble_eq_true rfl⟩
    | false =>
      refine rt_c (M' := 72) (as := [.ref 0, .int 0, .int (xs 2)]) (rest := []) rfl rfl (xi_0c (6, xs) (xs 2) hb) ?_
      rintro v1 g1 ⟨rfl, rfl⟩
      refine rt_k (k := 11) (pc' := 281) (L' := [some (.retAddr 1000), some (.ref 0), some (.ref 23), some (.int 0)]) (st' := [.int (xs 2), .int (xs 1), .ref 23, .int (-5)]) (h' := hp_s) (fun _ => rfl) ?_
      rw [ha]
      refine rt_c (M' := 167) (as := [.ref 23, .int 0, .int (xs 2)]) (rest := [.int (-5)]) rfl rfl (yi_0c (6, xs) (xs 2) _ _ _ _ _ _ _ _ _ _ _ _ _ _ _ _ _ _ _ _ _ _ _ hb) ?_
      rintro v1 g1 ⟨rfl, rfl⟩
      refine rt_n rfl ?_
      refine lp_9 ?_
      exact ⟨rfl, Nat.le_of_ble_eq_true rfl, Nat.le_of_ble_eq_true rfl⟩
  by_cases ha1 : xs 1 = 1
  · have ha := ha1
    rw [ha]
    cases hb : ab_cd .lt (xs 2) 0 with
    | true =>
      refine rt_c (M' := 72) (as := [.ref 0, .int 1, .int (xs 2)]) (rest := []) rfl rfl (xi_1p (6, xs) (xs 2) hb) ?_
      rintro v1 g1 ⟨rfl, rfl⟩
      refine rt_k (k := 11) (pc' := 281) (L' := [some (.retAddr 1000), some (.ref 0), some (.ref 23), some (.int 0)]) (st' := [.int (xs 2), .int (xs 1), .ref 23, .int 0]) (h' := hp_r) (fun _ => rfl) ?_
      rw [ha]
      refine rt_c (M' := 167) (as := [.ref 23, .int 1, .int (xs 2)]) (rest := [.int 0]) rfl rfl (yi_1p (6, xs) (xs 2) _ _ _ _ _ _ _ _ _ _ _ _ _ _ _ _ _ _ _ _ _ _ _ _ _ _ _ _ hb) ?_
      rintro v1 g1 ⟨rfl, rfl⟩
      refine rt_n rfl ?_
      refine lp_9 ?_
      exact ⟨rfl, Nat.le_of_ble_eq_true rfl, Nat.le_of_ble_eq_true rfl⟩
    | false =>
      refine rt_c (M' := 72) (as := [.ref 0, .int 1, .int (xs 2)]) (rest := []) rfl rfl (xi_1c (6, xs) (xs 2) hb) ?_
      rintro v1 g1 ⟨rfl, rfl⟩
      refine rt_k (k := 11) (pc' := 281) (L' := [some (.retAddr 1000), some (.ref 0), some (.ref 23), some (.int 0)]) (st' := [.int (xs 2), .int (xs 1), .ref 23, .int (-5)]) (h' := hp_b) (fun _ => rfl) ?_
      rw [ha]
      refine rt_c (M' := 167) (as := [.ref 23, .int 1, .int (xs 2)]) (rest := [.int (-5)]) rfl rfl (yi_1c (6, xs) (xs 2) _ _ _ _ _ _ _ _ _ _ _ _ _ _ _ _ _ _ _ _ _ _ _ _ _ _ _ _ hb) ?_
      rintro v1 g1 ⟨rfl, rfl⟩
      refine rt_n rfl ?_
      refine lp_9 ?_
      exact ⟨rfl, Nat.le_of_ble_eq_true rfl, Nat.le_of_ble_eq_true rfl⟩
  refine rt_c (M' := 72) (as := [.ref 0, .int (xs 1), .int (xs 2)]) (rest := []) rfl rfl (xi_n (6, xs) (xs 1) (xs 2) ha ha1) ?_
  rintro v1 g1 ⟨rfl, rfl⟩
  refine rt_k (k := 11) (pc' := 281) (L' := [some (.retAddr 1000), some (.ref 0), some (.ref 23), some (.int 0)]) (st' := [.int (xs 2), .int (xs 1), .ref 23, .int (-1)]) (h' := hp_0) (fun _ => rfl) ?_
  refine rt_c (M' := 167) (as := [.ref 23, .int (xs 1), .int (xs 2)]) (rest := [.int (-1)]) rfl rfl (yi_n (6, xs) (xs 1) (xs 2) ha ha1) ?_
  rintro v1 g1 ⟨rfl, rfl⟩
  refine rt_n rfl ?_
  refine lp_9 ?_
  exact lp_h0
set_option maxRecDepth 100000 in
set_option maxHeartbeats 4000000 in
theorem lp_2 (xs : Nat → Int32) : rt_ (6, xs) 1000 182 18 [some (.retAddr 1000), some (.ref 0), some (.ref 23), some (.int 0)] [] hp_0 lp_Q := by
  refine lp_1 ?_
  obtain ⟨j, hj, ej⟩ := pk_andE (xs 0) (m := 15) 4 (by decide +kernel)
  rw [ej]
  have hj16 : j = 0 ∨ j = 1 ∨ j = 2 ∨ j = 3 ∨ j = 4 ∨ j = 5 ∨ j = 6 ∨ j = 7 ∨ j = 8 ∨ j = 9 ∨ j = 10 ∨ j = 11 ∨ j = 12 ∨ j = 13 ∨ j = 14 ∨ j = 15 := by omega
  clear ej hj
  rcases hj16 with rfl | rfl | rfl | rfl | rfl | rfl | rfl | rfl | rfl | rfl | rfl | rfl | rfl | rfl | rfl | rfl
  · refine rt_k (k := 1) (pc' := 108) (L' := [some (.retAddr 1000), some (.ref 0), some (.ref 23), some (.int 0)]) (st' := []) (h' := hp_0) (fun _ => rfl) ?_
    exact lc_0 xs
  · refine rt_k (k := 1) (pc' := 171) (L' := [some (.retAddr 1000), some (.ref 0), some (.ref 23), some (.int 0)]) (st' := []) (h' := hp_0) (fun _ => rfl) ?_
    exact lc_1 xs
  · refine rt_k (k := 1) (pc' := 194) (L' := [some (.retAddr 1000), some (.ref 0), some (.ref 23), some (.int 0)]) (st' := []) (h' := hp_0) (fun _ => rfl) ?_
    exact lc_2 xs
  · refine rt_k (k := 1) (pc' := 207) (L' := [some (.retAddr 1000), some (.ref 0), some (.ref 23), some (.int 0)]) (st' := []) (h' := hp_0) (fun _ => rfl) ?_
    exact lc_3 xs
  · refine rt_k (k := 1) (pc' := 230) (L' := [some (.retAddr 1000), some (.ref 0), some (.ref 23), some (.int 0)]) (st' := []) (h' := hp_0) (fun _ => rfl) ?_
    exact lc_4 xs
  · refine rt_k (k := 1) (pc' := 243) (L' := [some (.retAddr 1000), some (.ref 0), some (.ref 23), some (.int 0)]) (st' := []) (h' := hp_0) (fun _ => rfl) ?_
    exact lc_5 xs
  · refine rt_k (k := 1) (pc' := 256) (L' := [some (.retAddr 1000), some (.ref 0), some (.ref 23), some (.int 0)]) (st' := []) (h' := hp_0) (fun _ => rfl) ?_
    exact lc_6 xs
  · refine rt_k (k := 1) (pc' := 289) (L' := [some (.retAddr 1000), some (.ref 0), some (.ref 23), some (.int 0)]) (st' := []) (h' := hp_0) (fun _ => rfl) ?_
    exact lc_7 xs
  · refine rt_k (k := 1) (pc' := 312) (L' := [some (.retAddr 1000), some (.ref 0), some (.ref 23), some (.int 0)]) (st' := []) (h' := hp_0) (fun _ => rfl) ?_
    exact lc_8 xs
  · refine rt_k (k := 1) (pc' := 335) (L' := [some (.retAddr 1000), some (.ref 0), some (.ref 23), some (.int 0)]) (st' := []) (h' := hp_0) (fun _ => rfl) ?_
    exact lc_9 xs
  · refine rt_k (k := 1) (pc' := 368) (L' := [some (.retAddr 1000), some (.ref 0), some (.ref 23), some (.int 0)]) (st' := []) (h' := hp_0) (fun _ => rfl) ?_
    exact lc_10 xs
  · refine rt_k (k := 1) (pc' := 401) (L' := [some (.retAddr 1000), some (.ref 0), some (.ref 23), some (.int 0)]) (st' := []) (h' := hp_0) (fun _ => rfl) ?_
    exact lc_11 xs
  · refine rt_k (k := 1) (pc' := 414) (L' := [some (.retAddr 1000), some (.ref 0), some (.ref 23), some (.int 0)]) (st' := []) (h' := hp_0) (fun _ => rfl) ?_
    exact lc_12 xs
  · refine rt_k (k := 1) (pc' := 427) (L' := [some (.retAddr 1000), some (.ref 0), some (.ref 23), some (.int 0)]) (st' := []) (h' := hp_0) (fun _ => rfl) ?_
    exact lc_13 xs
  · refine rt_k (k := 1) (pc' := 440) (L' := [some (.retAddr 1000), some (.ref 0), some (.ref 23), some (.int 0)]) (st' := []) (h' := hp_0) (fun _ => rfl) ?_
    exact lc_14 xs
  · refine rt_k (k := 1) (pc' := 463) (L' := [some (.retAddr 1000), some (.ref 0), some (.ref 23), some (.int 0)]) (st' := []) (h' := hp_0) (fun _ => rfl) ?_
    exact lp_9 lp_h0
set_option maxRecDepth 100000 in
set_option maxHeartbeats 4000000 in
theorem lp_all (L : Nat) (hL : L ≤ 6) (xs : Nat → Int32) : rt_ (L, xs) 1000 182 0 [some (.retAddr 1000), none, none, none] [] [] lp_Q := by
  refine lp_0 ?_
  have h7 : L = 0 ∨ L = 1 ∨ L = 2 ∨ L = 3 ∨ L = 4 ∨ L = 5 ∨ L = 6 := by omega
  clear hL
  rcases h7 with rfl | rfl | rfl | rfl | rfl | rfl | rfl
  · refine rt_k (k := 3) (pc' := 21) (L' := [some (.retAddr 1000), some (.ref 0), some (.ref 23), some (.int 0)]) (st' := [.int 0, .int 0]) (h' := hp_0) (fun _ => rfl) ?_
    refine rt_k (k := 4) (pc' := 470) (L' := [some (.retAddr 1000), some (.ref 0), some (.ref 23), some (.int 0)]) (st' := [.int 1]) (h' := hp_0) (fun _ => rfl) ?_
    exact rt_r (v := some (.int 1)) rfl rfl lp_h0
  · refine rt_k (k := 3) (pc' := 21) (L' := [some (.retAddr 1000), some (.ref 0), some (.ref 23), some (.int 0)]) (st' := [.int 1, .int 0]) (h' := hp_0) (fun _ => rfl) ?_
    refine rt_k (k := 4) (pc' := 470) (L' := [some (.retAddr 1000), some (.ref 0), some (.ref 23), some (.int 0)]) (st' := [.int 1]) (h' := hp_0) (fun _ => rfl) ?_
    exact rt_r (v := some (.int 1)) rfl rfl lp_h0
  · refine rt_k (k := 3) (pc' := 21) (L' := [some (.retAddr 1000), some (.ref 0), some (.ref 23), some (.int 0)]) (st' := [.int 2, .int 0]) (h' := hp_0) (fun _ => rfl) ?_
    refine rt_k (k := 4) (pc' := 470) (L' := [some (.retAddr 1000), some (.ref 0), some (.ref 23), some (.int 0)]) (st' := [.int 1]) (h' := hp_0) (fun _ => rfl) ?_
    exact rt_r (v := some (.int 1)) rfl rfl lp_h0
  · refine rt_k (k := 3) (pc' := 21) (L' := [some (.retAddr 1000), some (.ref 0), some (.ref 23), some (.int 0)]) (st' := [.int 3, .int 0]) (h' := hp_0) (fun _ => rfl) ?_
    refine rt_k (k := 4) (pc' := 470) (L' := [some (.retAddr 1000), some (.ref 0), some (.ref 23), some (.int 0)]) (st' := [.int 1]) (h' := hp_0) (fun _ => rfl) ?_
    exact rt_r (v := some (.int 1)) rfl rfl lp_h0
  · refine rt_k (k := 3) (pc' := 21) (L' := [some (.retAddr 1000), some (.ref 0), some (.ref 23), some (.int 0)]) (st' := [.int 4, .int 0]) (h' := hp_0) (fun _ => rfl) ?_
    refine rt_k (k := 4) (pc' := 470) (L' := [some (.retAddr 1000), some (.ref 0), some (.ref 23), some (.int 0)]) (st' := [.int 1]) (h' := hp_0) (fun _ => rfl) ?_
    exact rt_r (v := some (.int 1)) rfl rfl lp_h0
  · refine rt_k (k := 3) (pc' := 21) (L' := [some (.retAddr 1000), some (.ref 0), some (.ref 23), some (.int 0)]) (st' := [.int 5, .int 0]) (h' := hp_0) (fun _ => rfl) ?_
    refine rt_k (k := 4) (pc' := 470) (L' := [some (.retAddr 1000), some (.ref 0), some (.ref 23), some (.int 0)]) (st' := [.int 1]) (h' := hp_0) (fun _ => rfl) ?_
    exact rt_r (v := some (.int 1)) rfl rfl lp_h0
  · exact lp_2 xs
end
section
theorem whole_start {p : Program} {e : Env} {s : State} {m : MethodId} {below : List Frame} {meth : Method} {c : Code} (l : Launch) {b L : Nat} {xs : Nat → Int32} (hL : L ≤ 6) (C0 : lw_At p s m meth c b L xs) : W p l e room_1 s m #[Value.ref b] below meth c s.heap [] 0 0 (lw_Z below #[Value.ref b] s) (entryFrame m ([Value.ref b] : List Value).toArray 4) := by
  obtain ⟨n, v, h', hg, hv, hc, hs⟩ := lp_all L hL xs
  subst hv
  exact st_go l C0 hg hc hs
set_option maxHeartbeats 4000000 in
theorem lw_walk (l : Launch) (b : Addr) (xs : List Int32) : MetFree l x (headSpec (Jvm.Cond.code x code maxLocals ret :: tables_1) room_1) (lw_P b xs) (fun _ _ _ _ _ => True) lw_Q := by
  refine MetFree.of_bodyS (code := code) (maxLocals := maxLocals) (ret := ret) (by decide) ?_ ?_
  · intro args s m h hn
    obtain ⟨meth, c, h1, h2, h3, h4, h5, h6, -, -⟩ := Cond.code_spec hn (atoms_spec (ws := Jvm.Cond.code x code maxLocals ret :: tables_1) h _ List.mem_cons_self)
    exact ⟨meth, c, h1, h2, h3, h4, h5, h6⟩
  · intro p e s m args below meth c s₁ B hml0 hP _
    obtain ⟨rfl, hx, hbd, hgv⟩ := hP
    obtain ⟨scr, harrAt, hlist, hof, hsmall⟩ := hx
    obtain ⟨hcb, hkn, -, -⟩ := State.arrayAt?_spec harrAt
    have hown : s.vm.findClass R_law = some m.cls := findClass_of_methodNamed B.named
    have hts0 : ∀ c ∈ (Jvm.Cond.code x code maxLocals ret :: tables_1), c.before #[Value.ref b] s = true := atoms_spec (ws := Jvm.Cond.code x code maxLocals ret :: tables_1) B.pre
    have hts : ∀ w ∈ lw_tbl, w.before #[Value.ref b] s = true := k2_hts_sels lw_privs (fun w hw => hts0 w (List.mem_cons_of_mem _ hw)) lw_privs_ok
    have hml : c.maxLocals = 4 := B.maxLocals_eq (hts0 _ List.mem_cons_self)
    have X₀ : Stand p l e room_1 s m #[Value.ref b] below meth c s₁ [] 0 0 := Stand.of_body B
    have hh0 : s₁.heap = s.heap := by rw [B.state]; rfl
    have hsz : scr.slots.size = xs.length := by rw [← Array.length_toList, hlist, List.length_map]
    have hval : ∀ j : Nat, j < xs.length → scr.slots[j]? = some (.int (xs.getD j 0)) := fun j hj => by
      rw [← Array.getElem?_toList, hlist]
      simp [hj]
    have hbl : b < s.heap.size := (Array.getElem?_eq_some_iff.mp hcb).1
    have hX : va_X b xs.length (fun j => xs.getD j 0) s s.heap := ⟨scr, hcb, hof, hkn, hsz, hval⟩
    have K : W p l e room_1 s m #[Value.ref b] below meth c s₁.heap [] 0 0 (lw_Z below #[Value.ref b] s) (entryFrame m ([Value.ref b] : List Value).toArray 4) := by
      rw [hh0]
      exact whole_start l hbd ⟨B.exec, B.bytes, B.returns, hml, hown, hts, hX, hbl, B.notSynchronized, hgv⟩
    obtain ⟨t, a1, o, b1, b2, b3⟩ := K s₁ rfl X₀
    exact ⟨t, o, a1, b1, b2, b3⟩
theorem lw_pre_spec {args : Array Value} {s : State} (h : (Jvm.Cond.and given_1 narrow_1).before args s = true) (hr : rest_1_c.before args s = true) : ∃ (b : Addr) (xs : List Int32), lw_P b xs args s := by
  have hs := flat_of_before _ h
  have hq := flat_of_before _ hr
  have hc : (Cond.count 1).before args s = true := hs _ (by decide +kernel)
  have harr : (Cond.arrayOf (.arg 0) .int).before args s = true := hs _ (by decide +kernel)
  have hle : (Cond.le (.length (.arg 0)) (.int 6)).before args s = true := hs _ (by decide +kernel)
  have hlen : (Cond.isInt (.length (.arg 0))).before args s = true := hq _ (by decide +kernel)
  have hall : (Cond.all (.arg 0) (.isInt (.elem (.arg 0) (.index 0)))).before args s = true := hq _ (by decide +kernel)
  obtain ⟨b, xs, hb, hx⟩ := State.ints_of_pre rfl harr hlen hall
  have hsm : xs.length < 2 ^ 31 := hx.choose_spec.2.2.2
  have hev : (Term.length (.arg 0)).eval args s none [] s = some (.int xs.length.toInt32) := hx.length_eval hb
  have hv := Cond.le_ints hev (show (Term.int 6).eval args s none [] s = some (.int 6) from rfl)
  have hd : xs.length.toInt32 ≤ 6 := by
    simpa [Cond.before, Cond.holds, hv] using hle
  have hN : xs.length ≤ 6 := (Int32.ofNat_le_ofNat hsm (by decide)).mp (show Int32.ofNat xs.length ≤ Int32.ofNat 6 from hd)
  exact ⟨b, xs, Cond.one_arg hc (show args[0]? = some (.ref b) from hb), hx, hN, h⟩
theorem lw_comes (l : Launch) : Comes l x (Jvm.Cond.code x code maxLocals ret :: tables_1) room_1 (fun tb e args s => Calls_1 tb e args s ∧ rest_1 tb e args s ∧ Pre_1 tb e args s)
    (fun _ _ args s o t => lw_Q args s o t) := by
  intro p e ha hc hk s m args below hf hfit hheap happ hpre
  obtain ⟨b, xs, hP⟩ := lw_pre_spec hpre.2.2 hpre.2.1
  obtain ⟨k, o, h1, h2, h3, hQ⟩ := lw_walk l b xs p e ha hc hk s m args below hf ((Spec.applies_iff_loose hf).mp happ).1 hP trivial
  exact ⟨k, o, h1, h2, h3, hQ⟩
theorem lw_frame {s t : State} {o : Outcome} {args : Array Value} (h : Framed s o t [] 600000 7302250) :
    Framed s o t (fieldLocs frame_1_writes args s ++ arrayLocs frame_1_arrays args s ++ staticLocs frame_1_statics s) 600000 7302250 := h
theorem lw_limb (L : Cond) (hL : ∀ (args : Array Value) (s t : State), L.after args s (.returned (some (.int 1))) t = true) :
    ArmFor flags0 classFile x code maxLocals ret World_1 tables_1 room_1 Calls_1 rest_1 Pre_1
      (fun tb e a s o t => postC L tb e a s o t ∧ Framed s o t (fieldLocs frame_1_writes a s ++ arrayLocs frame_1_arrays a s ++ staticLocs frame_1_statics s) 600000 7302250) := by
  intro l _ _ _ p e ha hc hk s m args below hf hfit hheap happ hpre
  obtain ⟨k, o, h1, h2, h3, rfl, hF⟩ := lw_comes l p e ha hc hk s m args below hf hfit hheap happ hpre
  exact ⟨k, _, h1, h2, h3, hL args s _, lw_frame hF⟩
theorem i_vc : Claimed_1_1 ∧ Claimed_1_2 := ⟨lw_limb limb_1_1 (fun args s t => by simp [limb_1_1, Cond.after, Cond.holds, Cond.value]), lw_limb limb_1_2 (fun args s t => Cond.after_iff.mpr (by
  first | (rw [show limb_1_2 = Cond.eq .result (.int 1) from rfl, Cond.eq_ints (x := 1) (y := 1) rfl rfl]; simp; done) | (simp [limb_1_2, Cond.value, Term.eval]; done)))⟩
end
