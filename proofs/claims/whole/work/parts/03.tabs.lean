/-! the tables of the small machine: printed by wip/whole/gen03.py out of the Statement -/
def mj_cls : Nat → String := fun c => match c with
  | 0 => "WivesQuarrels$Books"
  | 1 => "WivesQuarrels$Circle"
  | 2 => "WivesQuarrels$Fate"
  | 3 => "WivesQuarrels$Folk"
  | 4 => "WivesQuarrels$Guesses"
  | 5 => "WivesQuarrels$Reader"
  | 6 => "WivesQuarrels$Rules"
  | 7 => "WivesQuarrels$Tokens"
  | 8 => "WivesQuarrels"
  | 9 => "WivesQuarrelsModel"
  | 10 => "WivesQuarrels$Game"
  | 11 => "WivesQuarrelsLaw"
  | 12 => "java/lang/String"
  | 13 => "java/lang/StringLatin1"
  | 14 => "java/lang/Math"
  | 15 => "java/lang/Integer"
  | 16 => "java/lang/Long"
  | 17 => "java/util/Arrays"
  | _ => "jdk/internal/util/Preconditions"
def mj_T : Nat → u_T := fun c => match c with
  | 0 => TX0
  | 1 => TX1
  | 2 => TX2
  | 3 => TX3
  | 4 => TX5
  | 5 => TX6
  | 6 => TX7
  | 7 => TX8
  | 8 => TX9
  | _ => TX10
def mj_ty : Nat → Nat → FieldType := fun c => match c with
  | 0 => tyX0
  | 1 => tyX1
  | 2 => tyX2
  | 3 => tyX3
  | 4 => tyX5
  | 5 => tyX6
  | 6 => tyX7
  | 7 => tyX8
  | 8 => tyX9
  | _ => tyX10
def mj_N : Nat → Nat := fun c => match c with
  | 0 => 9
  | 1 => 3
  | 2 => 1
  | 3 => 1
  | 4 => 3
  | 5 => 5
  | 6 => 8
  | 7 => 6
  | 8 => 12
  | _ => 57
def mj_def : Nat → List Value := fun c => match c with
  | 0 => [.null, .null, .int 0, .int 0, .null, .null, .null, .int 0, .null]
  | 1 => [.null, .null, .int 0]
  | 2 => [.int 0]
  | 3 => [.null]
  | 4 => [.null, .null, .null]
  | 5 => [.null, .null, .null, .int 0, .int 0]
  | 6 => [.null, .int 0, .int 0, .int 0, .int 0, .int 0, .null, .null]
  | 7 => [.null, .int 0, .int 0, .int 0, .int 0, .int 0]
  | 8 => [.null, .null, .null, .null, .null, .null, .null, .null, .null, .int 0, .int 0, .int 0]
  | _ => [.null, .null, .int 0, .null, .null, .null, .null, .null, .null, .null, .null, .null, .null, .null, .null, .int 0, .int 0, .int 0, .int 0, .int 0, .int 0, .int 0, .int 0, .int 0, .int 0, .int 0, .null, .null, .null, .null, .null, .null, .int 0, .int 0, .int 0, .int 0, .null, .null, .null, .null, .null, .null, .null, .null, .null, .null, .int 0, .int 0, .int 0, .int 0, .int 0, .null, .null, .null, .null, .null, .null]
def mj_fin : Nat → Nat → Bool := fun c k => (mj_T c k).2.2.2
abbrev mj_M : Type := MethodName × ByteArray × Nat × Option FieldType × Nat × Nat × Bool × List (Nat × Nat × Nat × Nat)
def mj_ms0 : List mj_M := [
  (⟨"WivesQuarrels$Books", "<init>", "()V"⟩, prog_2_method_1_code, 1, none, 0, 0, true, []),
  (⟨"WivesQuarrels$Books", "folk", "()LWivesQuarrels$Folk;"⟩, prog_2_method_2_code, 1, some (.object "WivesQuarrels$Folk"), 0, 0, false, []),
  (⟨"WivesQuarrels$Books", "refuse", "(I)I"⟩, prog_2_method_6_code, 2, some .int, 1, 0, false, []),
  (⟨"WivesQuarrels$Books", "keepAct", "()V"⟩, prog_2_method_9_code, 1, none, 0, 0, false, []),
  (⟨"WivesQuarrels$Books", "takeBackAct", "()I"⟩, prog_2_method_10_code, 1, some .int, 0, 0, false, []),
  (⟨"WivesQuarrels$Books", "dropSights", "()V"⟩, prog_2_method_12_code, 1, none, 0, 0, false, []),
  (⟨"WivesQuarrels$Books", "copyFrom", "(LWivesQuarrels$Books;)V"⟩, prog_2_method_8_code, 2, none, 1, 0, false, []),
  (⟨"WivesQuarrels$Books", "beginAnew", "(LWivesQuarrels$Folk;)V"⟩, prog_2_method_7_code, 2, none, 1, 0, false, []),
  (⟨"WivesQuarrels$Books", "acts", "()I"⟩, prog_2_method_3_code, 1, some .int, 0, 0, false, []),
  (⟨"WivesQuarrels$Books", "sights", "()I"⟩, prog_2_method_4_code, 1, some .int, 0, 0, false, []),
  (⟨"WivesQuarrels$Books", "refusals", "(I)I"⟩, prog_2_method_5_code, 2, some .int, 1, 0, false, []),
  (⟨"WivesQuarrels$Books", "addSight", "(III)I"⟩, prog_2_method_11_code, 4, some .int, 3, 0, false, []),
  (⟨"WivesQuarrels$Books", "lastSeenWeek", "()I"⟩, prog_2_method_13_code, 3, some .int, 0, 0, false, []),
  (⟨"WivesQuarrels$Books", "fits", "(LWivesQuarrels$Folk;I)Z"⟩, prog_2_method_14_code, 4, some .boolean, 2, 0, false, []),
  (⟨"WivesQuarrels$Circle", "<init>", "()V"⟩, prog_3_method_1_code, 1, none, 0, 1, true, []),
  (⟨"WivesQuarrels$Circle", "gather", "(LWivesQuarrels$Folk;)V"⟩, prog_3_method_2_code, 3, none, 1, 1, false, []),
  (⟨"WivesQuarrels$Circle", "oneCamp", "()I"⟩, prog_3_method_9_code, 5, some .int, 0, 1, false, []),
  (⟨"WivesQuarrels$Circle", "tiesOfAny", "(I)I"⟩, prog_3_method_3_code, 4, some .int, 1, 1, false, []),
  (⟨"WivesQuarrels$Circle", "threes", "()I"⟩, prog_3_method_13_code, 5, some .int, 0, 1, false, []),
  (⟨"WivesQuarrels$Circle", "foesOfAll", "()I"⟩, prog_3_method_14_code, 4, some .int, 0, 1, false, []),
  (⟨"WivesQuarrels$Circle", "fewestTables", "()I"⟩, prog_3_method_7_code, 2, some .int, 0, 1, false, []),
  (⟨"WivesQuarrels$Circle", "allLive", "(I)Z"⟩, prog_3_method_5_code, 2, some .boolean, 1, 1, false, []),
  (⟨"WivesQuarrels$Circle", "tablesFor", "(I)I"⟩, prog_3_method_8_code, 6, some .int, 1, 1, false, []),
  (⟨"WivesQuarrels$Circle", "isPeaceful", "(I)Z"⟩, prog_3_method_4_code, 2, some .boolean, 1, 1, false, []),
  (⟨"WivesQuarrels$Circle", "mostAsked", "()I"⟩, prog_3_method_6_code, 4, some .int, 0, 1, false, []),
  (⟨"WivesQuarrels$Circle", "steps", "(II)I"⟩, prog_3_method_10_code, 5, some .int, 2, 1, false, []),
  (⟨"WivesQuarrels$Circle", "oneStepFrom", "(I)I"⟩, prog_3_method_11_code, 4, some .int, 1, 1, false, []),
  (⟨"WivesQuarrels$Circle", "friendsOf", "(I)I"⟩, prog_3_method_12_code, 3, some .int, 1, 1, false, []),
  (⟨"WivesQuarrels$Fate", "<init>", "()V"⟩, prog_4_method_1_code, 1, none, 0, 2, true, []),
  (⟨"WivesQuarrels$Fate", "run", "(LWivesQuarrels$Folk;LWivesQuarrels$Rules;II)V"⟩, prog_4_method_3_code, 7, none, 4, 2, false, []),
  (⟨"WivesQuarrels$Fate", "draw", "(I)I"⟩, prog_4_method_2_code, 2, some .int, 1, 2, false, []),
  (⟨"WivesQuarrels$Fate", "strike", "(LWivesQuarrels$Folk;I)V"⟩, prog_4_method_4_code, 5, none, 2, 2, false, []),
  (⟨"WivesQuarrels$Fate", "strikeUpQuarrel", "(LWivesQuarrels$Folk;)V"⟩, prog_4_method_5_code, 6, none, 1, 2, false, []),
  (⟨"WivesQuarrels$Folk", "<init>", "()V"⟩, prog_5_method_1_code, 1, none, 0, 3, true, []),
  (⟨"WivesQuarrels$Folk", "week", "()I"⟩, prog_5_method_9_code, 1, some .int, 0, 3, false, []),
  (⟨"WivesQuarrels$Folk", "saveTo", "([II)V"⟩, prog_5_method_4_code, 3, none, 2, 3, false, []),
  (⟨"WivesQuarrels$Folk", "hasQuarrel", "(I)Z"⟩, prog_5_method_18_code, 2, some .boolean, 1, 3, false, []),
  (⟨"WivesQuarrels$Folk", "heat", "(I)I"⟩, prog_5_method_19_code, 2, some .int, 1, 3, false, []),
  (⟨"WivesQuarrels$Folk", "nerve", "(I)I"⟩, prog_5_method_12_code, 2, some .int, 1, 3, false, []),
  (⟨"WivesQuarrels$Folk", "isPlace", "(I)Z"⟩, prog_5_method_6_code, 1, some .boolean, 1, 3, false, [])]
def mj_ms1 : List mj_M := [
  (⟨"WivesQuarrels$Folk", "ties", "(I)I"⟩, prog_5_method_26_code, 2, some .int, 1, 3, false, []),
  (⟨"WivesQuarrels$Folk", "cut", "(I)I"⟩, prog_5_method_21_code, 2, some .int, 1, 3, false, []),
  (⟨"WivesQuarrels$Folk", "end", "(I)V"⟩, prog_5_method_23_code, 2, none, 1, 3, false, []),
  (⟨"WivesQuarrels$Folk", "setHeat", "(II)V"⟩, prog_5_method_24_code, 3, none, 2, 3, false, []),
  (⟨"WivesQuarrels$Folk", "addCut", "(I)V"⟩, prog_5_method_25_code, 2, none, 1, 3, false, []),
  (⟨"WivesQuarrels$Folk", "endWeek", "()V"⟩, prog_5_method_10_code, 1, none, 0, 3, false, []),
  (⟨"WivesQuarrels$Folk", "loadFrom", "([II)V"⟩, prog_5_method_5_code, 3, none, 2, 3, false, []),
  (⟨"WivesQuarrels$Folk", "copyFrom", "(LWivesQuarrels$Folk;)V"⟩, prog_5_method_3_code, 2, none, 1, 3, false, []),
  (⟨"WivesQuarrels$Folk", "quarrels", "()I"⟩, prog_5_method_28_code, 3, some .int, 0, 3, false, []),
  (⟨"WivesQuarrels$Folk", "living", "()I"⟩, prog_5_method_8_code, 1, some .int, 0, 3, false, []),
  (⟨"WivesQuarrels$Folk", "fewestDrawers", "()I"⟩, prog_5_method_33_code, 6, some .int, 0, 3, false, []),
  (⟨"WivesQuarrels$Folk", "neededWords", "()I"⟩, prog_5_method_30_code, 3, some .int, 0, 3, false, []),
  (⟨"WivesQuarrels$Folk", "reason", "(I)I"⟩, prog_5_method_20_code, 2, some .int, 1, 3, false, []),
  (⟨"WivesQuarrels$Folk", "wordsOf", "(I)I"⟩, prog_5_method_32_code, 4, some .int, 1, 3, false, []),
  (⟨"WivesQuarrels$Folk", "bury", "(I)V"⟩, prog_5_method_39_code, 5, none, 1, 3, false, []),
  (⟨"WivesQuarrels$Folk", "spouse", "(I)I"⟩, prog_5_method_15_code, 2, some .int, 1, 3, false, []),
  (⟨"WivesQuarrels$Folk", "inherit", "(II)V"⟩, prog_5_method_40_code, 3, none, 2, 3, false, []),
  (⟨"WivesQuarrels$Folk", "begin", "(III)V"⟩, prog_5_method_22_code, 4, none, 3, 3, false, []),
  (⟨"WivesQuarrels$Folk", "canSettle", "(I)Z"⟩, prog_5_method_31_code, 3, some .boolean, 1, 3, false, []),
  (⟨"WivesQuarrels$Folk", "lives", "(I)Z"⟩, prog_5_method_16_code, 2, some .boolean, 1, 3, false, []),
  (⟨"WivesQuarrels$Folk", "clear", "()V"⟩, prog_5_method_2_code, 1, none, 0, 3, false, []),
  (⟨"WivesQuarrels$Folk", "people", "()I"⟩, prog_5_method_7_code, 1, some .int, 0, 3, false, []),
  (⟨"WivesQuarrels$Folk", "add", "(IIZ)V"⟩, prog_5_method_11_code, 5, none, 3, 3, false, []),
  (⟨"WivesQuarrels$Folk", "canMarry", "(II)Z"⟩, prog_5_method_34_code, 3, some .boolean, 2, 3, false, []),
  (⟨"WivesQuarrels$Folk", "isSingle", "(I)Z"⟩, prog_5_method_35_code, 2, some .boolean, 1, 3, false, []),
  (⟨"WivesQuarrels$Folk", "join", "(II)V"⟩, prog_5_method_36_code, 3, none, 2, 3, false, []),
  (⟨"WivesQuarrels$Folk", "allHeat", "()I"⟩, prog_5_method_29_code, 3, some .int, 0, 3, false, []),
  (⟨"WivesQuarrels$Folk", "drawer", "(I)I"⟩, prog_5_method_14_code, 2, some .int, 1, 3, false, []),
  (⟨"WivesQuarrels$Folk", "isLawyer", "(I)Z"⟩, prog_5_method_17_code, 2, some .boolean, 1, 3, false, []),
  (⟨"WivesQuarrels$Folk", "heatAround", "(I)I"⟩, prog_5_method_27_code, 4, some .int, 1, 3, false, []),
  (⟨"WivesQuarrels$Folk", "marry", "(II)V"⟩, prog_5_method_37_code, 3, none, 2, 3, false, []),
  (⟨"WivesQuarrels$Folk", "canQuarrel", "(II)Z"⟩, prog_5_method_38_code, 3, some .boolean, 2, 3, false, []),
  (⟨"WivesQuarrels$Folk", "hottest", "()I"⟩, prog_5_method_41_code, 3, some .int, 0, 3, false, []),
  (⟨"WivesQuarrels$Folk", "mostBitter", "()I"⟩, prog_5_method_42_code, 4, some .int, 0, 3, false, []),
  (⟨"WivesQuarrels$Folk", "bestMatch", "(I)I"⟩, prog_5_method_45_code, 6, some .int, 1, 3, false, []),
  (⟨"WivesQuarrels$Folk", "mostCutting", "()I"⟩, prog_5_method_43_code, 4, some .int, 0, 3, false, []),
  (⟨"WivesQuarrels$Folk", "cutAround", "(I)I"⟩, prog_5_method_44_code, 4, some .int, 1, 3, false, []),
  (⟨"WivesQuarrels$Folk", "changeNerve", "(II)V"⟩, prog_5_method_13_code, 3, none, 2, 3, false, []),
  (⟨"WivesQuarrels$Guesses", "<init>", "()V"⟩, prog_7_method_1_code, 1, none, 0, 4, true, []),
  (⟨"WivesQuarrels$Guesses", "holds", "(LWivesQuarrels$Books;LWivesQuarrels$Rules;I)Z"⟩, prog_7_method_3_code, 6, some .boolean, 3, 4, false, [])]
def mj_ms2 : List mj_M := [
  (⟨"WivesQuarrels$Guesses", "suppose", "(LWivesQuarrels$Folk;I)V"⟩, prog_7_method_4_code, 3, none, 2, 4, false, []),
  (⟨"WivesQuarrels$Guesses", "weigh", "(LWivesQuarrels$Books;LWivesQuarrels$Rules;)V"⟩, prog_7_method_2_code, 7, none, 2, 4, false, []),
  (⟨"WivesQuarrels$Guesses", "howMany", "()I"⟩, prog_7_method_5_code, 3, some .int, 0, 4, false, []),
  (⟨"WivesQuarrels$Guesses", "first", "()I"⟩, prog_7_method_6_code, 2, some .int, 0, 4, false, []),
  (⟨"WivesQuarrels$Guesses", "collectHeats", "(LWivesQuarrels$Folk;LWivesQuarrels$Rules;)V"⟩, prog_7_method_7_code, 4, none, 2, 4, false, []),
  (⟨"WivesQuarrels$Guesses", "noteHeats", "()V"⟩, prog_7_method_8_code, 3, none, 0, 4, false, []),
  (⟨"WivesQuarrels$Guesses", "mostUnlike", "(LWivesQuarrels$Folk;)I"⟩, prog_7_method_10_code, 4, some .int, 1, 4, false, []),
  (⟨"WivesQuarrels$Guesses", "unlike", "(I)I"⟩, prog_7_method_9_code, 2, some .int, 1, 4, false, []),
  (⟨"WivesQuarrels$Reader", "<init>", "()V"⟩, prog_8_method_1_code, 1, none, 0, 5, true, []),
  (⟨"WivesQuarrels$Reader", "readTown", "([BI)V"⟩, prog_8_method_6_code, 4, none, 2, 5, false, []),
  (⟨"WivesQuarrels$Reader", "readLine", "()Z"⟩, prog_8_method_9_code, 1, some .boolean, 0, 5, false, []),
  (⟨"WivesQuarrels$Reader", "readPerson", "(Z)Z"⟩, prog_8_method_11_code, 4, some .boolean, 1, 5, false, []),
  (⟨"WivesQuarrels$Reader", "refuse", "(I)Z"⟩, prog_8_method_7_code, 2, some .boolean, 1, 5, false, []),
  (⟨"WivesQuarrels$Reader", "takeNumber", "(II)I"⟩, prog_8_method_10_code, 4, some .int, 2, 5, false, []),
  (⟨"WivesQuarrels$Reader", "readWed", "()Z"⟩, prog_8_method_13_code, 3, some .boolean, 0, 5, false, []),
  (⟨"WivesQuarrels$Reader", "lookAtPerson", "()I"⟩, prog_8_method_12_code, 1, some .int, 0, 5, false, []),
  (⟨"WivesQuarrels$Reader", "readQuarrel", "()Z"⟩, prog_8_method_14_code, 6, some .boolean, 0, 5, false, []),
  (⟨"WivesQuarrels$Reader", "readHeats", "()Z"⟩, prog_8_method_15_code, 2, some .boolean, 0, 5, false, []),
  (⟨"WivesQuarrels$Reader", "readExpr", "(I)Z"⟩, prog_8_method_17_code, 4, some .boolean, 1, 5, false, []),
  (⟨"WivesQuarrels$Reader", "readAnd", "(I)Z"⟩, prog_8_method_18_code, 4, some .boolean, 1, 5, false, []),
  (⟨"WivesQuarrels$Reader", "readNot", "(I)Z"⟩, prog_8_method_19_code, 5, some .boolean, 1, 5, false, []),
  (⟨"WivesQuarrels$Reader", "readTest", "(I)Z"⟩, prog_8_method_20_code, 4, some .boolean, 1, 5, false, []),
  (⟨"WivesQuarrels$Reader", "readSum", "(I)Z"⟩, prog_8_method_21_code, 5, some .boolean, 1, 5, false, []),
  (⟨"WivesQuarrels$Reader", "readProduct", "(I)Z"⟩, prog_8_method_22_code, 5, some .boolean, 1, 5, false, []),
  (⟨"WivesQuarrels$Reader", "readPart", "(I)Z"⟩, prog_8_method_23_code, 2, some .boolean, 1, 5, false, []),
  (⟨"WivesQuarrels$Reader", "readCuts", "()Z"⟩, prog_8_method_16_code, 2, some .boolean, 0, 5, false, []),
  (⟨"WivesQuarrels$Reader", "take", "(I)Z"⟩, prog_8_method_8_code, 2, some .boolean, 1, 5, false, []),
  (⟨"WivesQuarrels$Reader", "place", "()I"⟩, prog_8_method_5_code, 1, some .int, 0, 5, false, []),
  (⟨"WivesQuarrels$Reader", "found", "()I"⟩, prog_8_method_4_code, 1, some .int, 0, 5, false, []),
  (⟨"WivesQuarrels$Reader", "folk", "()LWivesQuarrels$Folk;"⟩, prog_8_method_2_code, 1, some (.object "WivesQuarrels$Folk"), 0, 5, false, []),
  (⟨"WivesQuarrels$Reader", "rules", "()LWivesQuarrels$Rules;"⟩, prog_8_method_3_code, 1, some (.object "WivesQuarrels$Rules"), 0, 5, false, []),
  (⟨"WivesQuarrels$Rules", "<init>", "()V"⟩, prog_9_method_1_code, 1, none, 0, 6, true, []),
  (⟨"WivesQuarrels$Rules", "letPass", "(LWivesQuarrels$Folk;I)V"⟩, prog_9_method_11_code, 5, none, 2, 6, false, []),
  (⟨"WivesQuarrels$Rules", "letWork", "(LWivesQuarrels$Folk;I)V"⟩, prog_9_method_12_code, 4, none, 2, 6, false, []),
  (⟨"WivesQuarrels$Rules", "setValues", "(LWivesQuarrels$Folk;I)V"⟩, prog_9_method_16_code, 5, none, 2, 6, false, []),
  (⟨"WivesQuarrels$Rules", "change", "()I"⟩, prog_9_method_14_code, 1, some .int, 0, 6, false, []),
  (⟨"WivesQuarrels$Rules", "hasHeats", "()Z"⟩, prog_9_method_4_code, 1, some .boolean, 0, 6, false, []),
  (⟨"WivesQuarrels$Rules", "worth", "(II)I"⟩, prog_9_method_17_code, 6, some .int, 2, 6, false, []),
  (⟨"WivesQuarrels$Rules", "joined", "(III)I"⟩, prog_9_method_18_code, 3, some .int, 3, 6, false, []),
  (⟨"WivesQuarrels$Rules", "cutsNow", "()Z"⟩, prog_9_method_15_code, 1, some .boolean, 0, 6, false, [])]
def mj_ms3 : List mj_M := [
  (⟨"WivesQuarrels$Rules", "hasCuts", "()Z"⟩, prog_9_method_5_code, 1, some .boolean, 0, 6, false, []),
  (⟨"WivesQuarrels$Rules", "clear", "()V"⟩, prog_9_method_2_code, 1, none, 0, 6, false, []),
  (⟨"WivesQuarrels$Rules", "beginHeats", "()V"⟩, prog_9_method_6_code, 1, none, 0, 6, false, []),
  (⟨"WivesQuarrels$Rules", "add", "(I)V"⟩, prog_9_method_10_code, 2, none, 1, 6, false, []),
  (⟨"WivesQuarrels$Rules", "endHeats", "()V"⟩, prog_9_method_7_code, 1, none, 0, 6, false, []),
  (⟨"WivesQuarrels$Rules", "beginCuts", "()V"⟩, prog_9_method_8_code, 1, none, 0, 6, false, []),
  (⟨"WivesQuarrels$Rules", "endCuts", "()V"⟩, prog_9_method_9_code, 1, none, 0, 6, false, []),
  (⟨"WivesQuarrels$Rules", "copyFrom", "(LWivesQuarrels$Rules;)V"⟩, prog_9_method_3_code, 2, none, 1, 6, false, []),
  (⟨"WivesQuarrels$Rules", "wouldCut", "(LWivesQuarrels$Folk;I)Z"⟩, prog_9_method_13_code, 3, some .boolean, 2, 6, false, []),
  (⟨"WivesQuarrels$Tokens", "<init>", "()V"⟩, prog_10_method_1_code, 1, none, 0, 7, true, []),
  (⟨"WivesQuarrels$Tokens", "open", "([BI)V"⟩, prog_10_method_2_code, 3, none, 2, 7, false, []),
  (⟨"WivesQuarrels$Tokens", "advance", "()V"⟩, prog_10_method_9_code, 1, none, 0, 7, false, []),
  (⟨"WivesQuarrels$Tokens", "readWord", "()V"⟩, prog_10_method_12_code, 4, none, 0, 7, false, []),
  (⟨"WivesQuarrels$Tokens", "readNumber", "()V"⟩, prog_10_method_11_code, 1, none, 0, 7, false, []),
  (⟨"WivesQuarrels$Tokens", "readSign", "()V"⟩, prog_10_method_10_code, 2, none, 0, 7, false, []),
  (⟨"WivesQuarrels$Tokens", "kind", "()I"⟩, prog_10_method_3_code, 1, some .int, 0, 7, false, []),
  (⟨"WivesQuarrels$Tokens", "start", "()I"⟩, prog_10_method_4_code, 1, some .int, 0, 7, false, []),
  (⟨"WivesQuarrels$Tokens", "number", "()I"⟩, prog_10_method_5_code, 1, some .int, 0, 7, false, []),
  (⟨"WivesQuarrels$Tokens", "hasTooManyDigits", "()Z"⟩, prog_10_method_6_code, 1, some .boolean, 0, 7, false, []),
  (⟨"WivesQuarrels$Tokens", "isWord", "()Z"⟩, prog_10_method_7_code, 1, some .boolean, 0, 7, false, []),
  (⟨"WivesQuarrels$Tokens", "isValue", "()Z"⟩, prog_10_method_8_code, 1, some .boolean, 0, 7, false, []),
  (⟨"WivesQuarrels", "<init>", "()V"⟩, prog_1_method_1_code, 1, none, 0, 8, true, []),
  (⟨"WivesQuarrels", "feed", "(IIIII)I"⟩, prog_1_method_2_code, 6, some .int, 5, 8, false, []),
  (⟨"WivesQuarrels", "write", "(I)V"⟩, prog_1_method_3_code, 3, none, 1, 8, false, []),
  (⟨"WivesQuarrels", "fault", "()I"⟩, prog_1_method_5_code, 1, some .int, 0, 8, false, []),
  (⟨"WivesQuarrels", "weeks", "(I)I"⟩, prog_1_method_9_code, 3, some .int, 1, 8, false, []),
  (⟨"WivesQuarrels", "undo", "()I"⟩, prog_1_method_14_code, 1, some .int, 0, 8, false, []),
  (⟨"WivesQuarrels", "peace", "()I"⟩, prog_1_method_17_code, 2, some .int, 0, 8, false, []),
  (⟨"WivesQuarrels", "camps", "()I"⟩, prog_1_method_20_code, 1, some .int, 0, 8, false, []),
  (⟨"WivesQuarrels", "isIn", "(II)Z"⟩, prog_1_method_52_code, 2, some .boolean, 2, 8, false, []),
  (⟨"WivesQuarrels", "drawers", "()I"⟩, prog_1_method_22_code, 1, some .int, 0, 8, false, []),
  (⟨"WivesQuarrels", "deaths", "()I"⟩, prog_1_method_23_code, 5, some .int, 0, 8, false, []),
  (⟨"WivesQuarrels", "bringsPeace", "(I)Z"⟩, prog_1_method_24_code, 3, some .boolean, 1, 8, false, []),
  (⟨"WivesQuarrels", "pairOf", "(II)I"⟩, prog_1_method_51_code, 4, some .int, 2, 8, false, []),
  (⟨"WivesQuarrels", "ready", "()I"⟩, prog_1_method_28_code, 4, some .int, 0, 8, false, []),
  (⟨"WivesQuarrels", "mildest", "()I"⟩, prog_1_method_29_code, 5, some .int, 0, 8, false, []),
  (⟨"WivesQuarrels", "triples", "()I"⟩, prog_1_method_31_code, 1, some .int, 0, 8, false, []),
  (⟨"WivesQuarrels", "alone", "()I"⟩, prog_1_method_32_code, 1, some .int, 0, 8, false, []),
  (⟨"WivesQuarrels", "single", "()I"⟩, prog_1_method_35_code, 4, some .int, 0, 8, false, []),
  (⟨"WivesQuarrels", "cuts", "()I"⟩, prog_1_method_36_code, 4, some .int, 0, 8, false, [])]
def mj_ms4 : List mj_M := [
  (⟨"WivesQuarrels", "forget", "()V"⟩, prog_1_method_40_code, 1, none, 0, 8, false, []),
  (⟨"WivesQuarrels", "image", "()V"⟩, prog_1_method_43_code, 1, none, 0, 8, false, []),
  (⟨"WivesQuarrels", "restore", "()Z"⟩, prog_1_method_44_code, 1, some .boolean, 0, 8, false, []),
  (⟨"WivesQuarrels", "town", "(I)I"⟩, prog_1_method_4_code, 2, some .int, 1, 8, false, []),
  (⟨"WivesQuarrels", "count", "(I)I"⟩, prog_1_method_6_code, 3, some .int, 1, 8, false, []),
  (⟨"WivesQuarrels", "person", "(II)I"⟩, prog_1_method_7_code, 4, some .int, 2, 8, false, []),
  (⟨"WivesQuarrels", "mustBePerson", "(I)V"⟩, prog_1_method_45_code, 2, none, 1, 8, false, []),
  (⟨"WivesQuarrels", "quarrel", "(III)I"⟩, prog_1_method_8_code, 6, some .int, 3, 8, false, []),
  (⟨"WivesQuarrels", "mustBePeople", "(II)V"⟩, prog_1_method_46_code, 3, none, 2, 8, false, []),
  (⟨"WivesQuarrels", "mustBeWhat", "(II)V"⟩, prog_1_method_47_code, 2, none, 2, 8, false, []),
  (⟨"WivesQuarrels", "die", "(I)I"⟩, prog_1_method_10_code, 3, some .int, 1, 8, false, []),
  (⟨"WivesQuarrels", "wed", "(II)Z"⟩, prog_1_method_11_code, 4, some .boolean, 2, 8, false, []),
  (⟨"WivesQuarrels", "settle", "(II)I"⟩, prog_1_method_12_code, 6, some .int, 2, 8, false, []),
  (⟨"WivesQuarrels", "pick", "(IIII)I"⟩, prog_1_method_13_code, 7, some .int, 4, 8, false, []),
  (⟨"WivesQuarrels", "then", "(IIII)I"⟩, prog_1_method_15_code, 7, some .int, 4, 8, false, []),
  (⟨"WivesQuarrels", "mustBeWeeksAhead", "(I)V"⟩, prog_1_method_48_code, 1, none, 1, 8, false, []),
  (⟨"WivesQuarrels", "behind", "(I)LWivesQuarrels$Folk;"⟩, prog_1_method_49_code, 2, some (.object "WivesQuarrels$Folk"), 1, 8, false, []),
  (⟨"WivesQuarrels", "over", "(II)I"⟩, prog_1_method_16_code, 5, some .int, 2, 8, false, []),
  (⟨"WivesQuarrels", "later", "(II)I"⟩, prog_1_method_18_code, 4, some .int, 2, 8, false, []),
  (⟨"WivesQuarrels", "nameOf", "(I)I"⟩, prog_1_method_50_code, 1, some .int, 1, 8, false, []),
  (⟨"WivesQuarrels", "comesInto", "(II)I"⟩, prog_1_method_19_code, 5, some .int, 2, 8, false, []),
  (⟨"WivesQuarrels", "between", "(II)I"⟩, prog_1_method_21_code, 3, some .int, 2, 8, false, []),
  (⟨"WivesQuarrels", "friends", "(I)I"⟩, prog_1_method_25_code, 2, some .int, 1, 8, false, []),
  (⟨"WivesQuarrels", "spared", "(I)I"⟩, prog_1_method_26_code, 3, some .int, 1, 8, false, []),
  (⟨"WivesQuarrels", "match", "(I)I"⟩, prog_1_method_27_code, 2, some .int, 1, 8, false, []),
  (⟨"WivesQuarrels", "coldest", "(I)I"⟩, prog_1_method_30_code, 2, some .int, 1, 8, false, []),
  (⟨"WivesQuarrels", "foes", "(II)I"⟩, prog_1_method_33_code, 4, some .int, 2, 8, false, []),
  (⟨"WivesQuarrels", "word", "(I)I"⟩, prog_1_method_34_code, 5, some .int, 1, 8, false, []),
  (⟨"WivesQuarrels", "see", "(IIII)I"⟩, prog_1_method_37_code, 6, some .int, 4, 8, false, []),
  (⟨"WivesQuarrels", "nerved", "(I)I"⟩, prog_1_method_38_code, 2, some .int, 1, 8, false, []),
  (⟨"WivesQuarrels", "look", "(I)I"⟩, prog_1_method_39_code, 3, some .int, 1, 8, false, []),
  (⟨"WivesQuarrels", "game", "(III)I"⟩, prog_1_method_41_code, 6, some .int, 3, 8, false, []),
  (⟨"WivesQuarrels", "years", "(III)I"⟩, prog_1_method_42_code, 4, some .int, 3, 8, false, []),
  (⟨"WivesQuarrelsModel", "<init>", "()V"⟩, prog_12_method_1_code, 1, none, 0, 9, true, []),
  (⟨"WivesQuarrelsModel", "thrown", "()I"⟩, prog_12_method_2_code, 1, some .int, 0, 9, false, []),
  (⟨"WivesQuarrelsModel", "feed", "(IIIII)I"⟩, prog_12_method_10_code, 8, some .int, 5, 9, false, []),
  (⟨"WivesQuarrelsModel", "town", "(I)I"⟩, prog_12_method_35_code, 3, some .int, 1, 9, false, []),
  (⟨"WivesQuarrelsModel", "fail", "(I)I"⟩, prog_12_method_3_code, 2, some .int, 1, 9, false, []),
  (⟨"WivesQuarrelsModel", "stepOn", "()V"⟩, prog_12_method_15_code, 2, none, 0, 9, false, []),
  (⟨"WivesQuarrelsModel", "byteAt", "(I)I"⟩, prog_12_method_11_code, 2, some .int, 1, 9, false, [])]
def mj_ms5 : List mj_M := [
  (⟨"WivesQuarrelsModel", "isLetter", "(I)Z"⟩, prog_12_method_12_code, 1, some .boolean, 1, 9, false, []),
  (⟨"WivesQuarrelsModel", "isDigit", "(I)Z"⟩, prog_12_method_13_code, 1, some .boolean, 1, 9, false, []),
  (⟨"WivesQuarrelsModel", "isMark", "(I)Z"⟩, prog_12_method_14_code, 1, some .boolean, 1, 9, false, []),
  (⟨"WivesQuarrelsModel", "readLine", "(I)I"⟩, prog_12_method_34_code, 4, some .int, 1, 9, false, []),
  (⟨"WivesQuarrelsModel", "which", "([Ljava/lang/String;)I"⟩, prog_12_method_18_code, 3, some .int, 1, 9, false, []),
  (⟨"WivesQuarrelsModel", "is", "(Ljava/lang/String;)Z"⟩, prog_12_method_17_code, 4, some .boolean, 1, 9, false, []),
  (⟨"WivesQuarrelsModel", "wrong", "(I)V"⟩, prog_12_method_16_code, 2, none, 1, 9, false, []),
  (⟨"WivesQuarrelsModel", "readExpression", "(I)V"⟩, prog_12_method_30_code, 3, none, 1, 9, false, []),
  (⟨"WivesQuarrelsModel", "isMarked", "(I)Z"⟩, prog_12_method_19_code, 2, some .boolean, 1, 9, false, []),
  (⟨"WivesQuarrelsModel", "readAnd", "(I)V"⟩, prog_12_method_29_code, 2, none, 1, 9, false, []),
  (⟨"WivesQuarrelsModel", "readNot", "(I)V"⟩, prog_12_method_28_code, 4, none, 1, 9, false, []),
  (⟨"WivesQuarrelsModel", "readSum", "(I)V"⟩, prog_12_method_27_code, 3, none, 1, 9, false, []),
  (⟨"WivesQuarrelsModel", "readProduct", "(I)V"⟩, prog_12_method_26_code, 3, none, 1, 9, false, []),
  (⟨"WivesQuarrelsModel", "readPart", "(I)V"⟩, prog_12_method_25_code, 3, none, 1, 9, false, []),
  (⟨"WivesQuarrelsModel", "readNumber", "(II)I"⟩, prog_12_method_22_code, 4, some .int, 2, 9, false, []),
  (⟨"WivesQuarrelsModel", "numberNow", "(II)I"⟩, prog_12_method_21_code, 3, some .int, 2, 9, false, []),
  (⟨"WivesQuarrelsModel", "lay", "(I)V"⟩, prog_12_method_24_code, 4, none, 1, 9, false, []),
  (⟨"WivesQuarrelsModel", "mark", "(I)V"⟩, prog_12_method_20_code, 2, none, 1, 9, false, []),
  (⟨"WivesQuarrelsModel", "sayPerson", "(I)V"⟩, prog_12_method_31_code, 3, none, 1, 9, false, []),
  (⟨"WivesQuarrelsModel", "sayWed", "()V"⟩, prog_12_method_32_code, 3, none, 0, 9, false, []),
  (⟨"WivesQuarrelsModel", "personNow", "()I"⟩, prog_12_method_23_code, 2, some .int, 0, 9, false, []),
  (⟨"WivesQuarrelsModel", "sayQuarrel", "()V"⟩, prog_12_method_33_code, 3, none, 0, 9, false, []),
  (⟨"WivesQuarrelsModel", "pairOf", "(II)I"⟩, prog_12_method_9_code, 2, some .int, 2, 9, false, []),
  (⟨"WivesQuarrelsModel", "takeOver", "()V"⟩, prog_12_method_37_code, 3, none, 0, 9, false, []),
  (⟨"WivesQuarrelsModel", "takeHalf", "([I)V"⟩, prog_12_method_36_code, 2, none, 1, 9, false, []),
  (⟨"WivesQuarrelsModel", "fault", "()I"⟩, prog_12_method_38_code, 1, some .int, 0, 9, false, []),
  (⟨"WivesQuarrelsModel", "count", "(I)I"⟩, prog_12_method_66_code, 2, some .int, 1, 9, false, []),
  (⟨"WivesQuarrelsModel", "manyNow", "()I"⟩, prog_12_method_44_code, 3, some .int, 0, 9, false, []),
  (⟨"WivesQuarrelsModel", "withWhom", "(I)I"⟩, prog_12_method_42_code, 4, some .int, 1, 9, false, []),
  (⟨"WivesQuarrelsModel", "quarrels", "(II)Z"⟩, prog_12_method_41_code, 3, some .boolean, 2, 9, false, []),
  (⟨"WivesQuarrelsModel", "bitsOf", "(I)I"⟩, prog_12_method_7_code, 3, some .int, 1, 9, false, []),
  (⟨"WivesQuarrelsModel", "allHeat", "()I"⟩, prog_12_method_45_code, 3, some .int, 0, 9, false, []),
  (⟨"WivesQuarrelsModel", "heatOf", "(I)I"⟩, prog_12_method_43_code, 4, some .int, 1, 9, false, []),
  (⟨"WivesQuarrelsModel", "needed", "()I"⟩, prog_12_method_62_code, 3, some .int, 0, 9, false, []),
  (⟨"WivesQuarrelsModel", "tables", "()I"⟩, prog_12_method_65_code, 3, some .int, 0, 9, false, []),
  (⟨"WivesQuarrelsModel", "isQuiet", "(I)Z"⟩, prog_12_method_63_code, 4, some .boolean, 1, 9, false, []),
  (⟨"WivesQuarrelsModel", "isOf", "(II)Z"⟩, prog_12_method_6_code, 2, some .boolean, 2, 9, false, []),
  (⟨"WivesQuarrelsModel", "mostAsked", "()I"⟩, prog_12_method_64_code, 3, some .int, 0, 9, false, []),
  (⟨"WivesQuarrelsModel", "person", "(II)I"⟩, prog_12_method_67_code, 3, some .int, 2, 9, false, []),
  (⟨"WivesQuarrelsModel", "isPerson", "(I)Z"⟩, prog_12_method_8_code, 2, some .boolean, 1, 9, false, [])]
def mj_ms6 : List mj_M := [
  (⟨"WivesQuarrelsModel", "isIn", "(JJJ)Z"⟩, prog_12_method_5_code, 6, some .boolean, 3, 9, false, []),
  (⟨"WivesQuarrelsModel", "lives", "(I)Z"⟩, prog_12_method_56_code, 2, some .boolean, 1, 9, false, []),
  (⟨"WivesQuarrelsModel", "quarrel", "(III)I"⟩, prog_12_method_68_code, 5, some .int, 3, 9, false, []),
  (⟨"WivesQuarrelsModel", "maySettle", "(II)Z"⟩, prog_12_method_59_code, 6, some .boolean, 2, 9, false, []),
  (⟨"WivesQuarrelsModel", "wouldCut", "(II)Z"⟩, prog_12_method_51_code, 3, some .boolean, 2, 9, false, []),
  (⟨"WivesQuarrelsModel", "ask", "(II)V"⟩, prog_12_method_49_code, 4, none, 2, 9, false, []),
  (⟨"WivesQuarrelsModel", "valueNow", "([II)I"⟩, prog_12_method_48_code, 6, some .int, 2, 9, false, []),
  (⟨"WivesQuarrelsModel", "reckon", "(III)I"⟩, prog_12_method_47_code, 3, some .int, 3, 9, false, []),
  (⟨"WivesQuarrelsModel", "weeks", "(I)I"⟩, prog_12_method_71_code, 2, some .int, 1, 9, false, []),
  (⟨"WivesQuarrelsModel", "refuse", "(I)I"⟩, prog_12_method_69_code, 2, some .int, 1, 9, false, []),
  (⟨"WivesQuarrelsModel", "keep", "()V"⟩, prog_12_method_70_code, 2, none, 0, 9, false, []),
  (⟨"WivesQuarrelsModel", "pack", "([II)V"⟩, prog_12_method_39_code, 5, none, 2, 9, false, []),
  (⟨"WivesQuarrelsModel", "goOn", "(I)V"⟩, prog_12_method_53_code, 3, none, 1, 9, false, []),
  (⟨"WivesQuarrelsModel", "aWeek", "()V"⟩, prog_12_method_52_code, 4, none, 0, 9, false, []),
  (⟨"WivesQuarrelsModel", "heatsOf", "(II)I"⟩, prog_12_method_50_code, 4, some .int, 2, 9, false, []),
  (⟨"WivesQuarrelsModel", "end", "(I)V"⟩, prog_12_method_46_code, 2, none, 1, 9, false, []),
  (⟨"WivesQuarrelsModel", "die", "(I)I"⟩, prog_12_method_72_code, 2, some .int, 1, 9, false, []),
  (⟨"WivesQuarrelsModel", "dies", "(I)V"⟩, prog_12_method_55_code, 4, none, 1, 9, false, []),
  (⟨"WivesQuarrelsModel", "inherit", "(III)V"⟩, prog_12_method_54_code, 6, none, 3, 9, false, []),
  (⟨"WivesQuarrelsModel", "wed", "(II)Z"⟩, prog_12_method_73_code, 3, some .boolean, 2, 9, false, []),
  (⟨"WivesQuarrelsModel", "failing", "(I)Z"⟩, prog_12_method_4_code, 2, some .boolean, 1, 9, false, []),
  (⟨"WivesQuarrelsModel", "mayWed", "(II)Z"⟩, prog_12_method_57_code, 3, some .boolean, 2, 9, false, []),
  (⟨"WivesQuarrelsModel", "areWed", "(II)V"⟩, prog_12_method_58_code, 3, none, 2, 9, false, []),
  (⟨"WivesQuarrelsModel", "settle", "(II)I"⟩, prog_12_method_74_code, 4, some .int, 2, 9, false, []),
  (⟨"WivesQuarrelsModel", "pick", "(IIII)I"⟩, prog_12_method_75_code, 5, some .int, 4, 9, false, []),
  (⟨"WivesQuarrelsModel", "mayPick", "(II)Z"⟩, prog_12_method_60_code, 3, some .boolean, 2, 9, false, []),
  (⟨"WivesQuarrelsModel", "doPick", "(IIII)V"⟩, prog_12_method_61_code, 6, none, 4, 9, false, []),
  (⟨"WivesQuarrelsModel", "undo", "()I"⟩, prog_12_method_76_code, 1, some .int, 0, 9, false, []),
  (⟨"WivesQuarrelsModel", "unpack", "([II)V"⟩, prog_12_method_40_code, 5, none, 2, 9, false, []),
  (⟨"WivesQuarrelsModel", "then", "(IIII)I"⟩, prog_12_method_77_code, 6, some .int, 4, 9, false, []),
  (⟨"WivesQuarrelsModel", "over", "(II)I"⟩, prog_12_method_78_code, 5, some .int, 2, 9, false, []),
  (⟨"WivesQuarrelsModel", "peace", "()I"⟩, prog_12_method_79_code, 3, some .int, 0, 9, false, []),
  (⟨"WivesQuarrelsModel", "later", "(II)I"⟩, prog_12_method_82_code, 4, some .int, 2, 9, false, []),
  (⟨"WivesQuarrelsModel", "hottest", "()I"⟩, prog_12_method_80_code, 5, some .int, 0, 9, false, []),
  (⟨"WivesQuarrelsModel", "bitter", "()I"⟩, prog_12_method_81_code, 3, some .int, 0, 9, false, []),
  (⟨"WivesQuarrelsModel", "coldest", "(I)I"⟩, prog_12_method_84_code, 4, some .int, 1, 9, false, []),
  (⟨"WivesQuarrelsModel", "cutsOf", "(I)I"⟩, prog_12_method_83_code, 4, some .int, 1, 9, false, []),
  (⟨"WivesQuarrelsModel", "comesInto", "(II)I"⟩, prog_12_method_85_code, 5, some .int, 2, 9, false, []),
  (⟨"WivesQuarrelsModel", "spared", "(I)I"⟩, prog_12_method_86_code, 4, some .int, 1, 9, false, []),
  (⟨"WivesQuarrelsModel", "deaths", "()I"⟩, prog_12_method_87_code, 5, some .int, 0, 9, false, [])]
def mj_ms7 : List mj_M := [
  (⟨"WivesQuarrelsModel", "camps", "()I"⟩, prog_12_method_88_code, 6, some .int, 0, 9, false, []),
  (⟨"WivesQuarrelsModel", "between", "(II)I"⟩, prog_12_method_89_code, 7, some .int, 2, 9, false, []),
  (⟨"WivesQuarrelsModel", "drawers", "()I"⟩, prog_12_method_90_code, 5, some .int, 0, 9, false, []),
  (⟨"WivesQuarrelsModel", "friends", "(I)I"⟩, prog_12_method_91_code, 5, some .int, 1, 9, false, []),
  (⟨"WivesQuarrelsModel", "match", "(I)I"⟩, prog_12_method_92_code, 6, some .int, 1, 9, false, []),
  (⟨"WivesQuarrelsModel", "ready", "()I"⟩, prog_12_method_93_code, 4, some .int, 0, 9, false, []),
  (⟨"WivesQuarrelsModel", "mildest", "()I"⟩, prog_12_method_94_code, 3, some .int, 0, 9, false, []),
  (⟨"WivesQuarrelsModel", "triples", "()I"⟩, prog_12_method_95_code, 4, some .int, 0, 9, false, []),
  (⟨"WivesQuarrelsModel", "alone", "()I"⟩, prog_12_method_96_code, 3, some .int, 0, 9, false, []),
  (⟨"WivesQuarrelsModel", "foes", "(II)I"⟩, prog_12_method_97_code, 3, some .int, 2, 9, false, []),
  (⟨"WivesQuarrelsModel", "word", "(I)I"⟩, prog_12_method_98_code, 4, some .int, 1, 9, false, []),
  (⟨"WivesQuarrelsModel", "single", "()I"⟩, prog_12_method_99_code, 3, some .int, 0, 9, false, []),
  (⟨"WivesQuarrelsModel", "cuts", "()I"⟩, prog_12_method_100_code, 3, some .int, 0, 9, false, []),
  (⟨"WivesQuarrelsModel", "see", "(IIII)I"⟩, prog_12_method_101_code, 5, some .int, 4, 9, false, []),
  (⟨"WivesQuarrelsModel", "nerved", "(I)I"⟩, prog_12_method_104_code, 2, some .int, 1, 9, false, []),
  (⟨"WivesQuarrelsModel", "isAsSeen", "()Z"⟩, prog_12_method_102_code, 5, some .boolean, 0, 9, false, []),
  (⟨"WivesQuarrelsModel", "tellFits", "()V"⟩, prog_12_method_103_code, 4, none, 0, 9, false, []),
  (⟨"WivesQuarrelsModel", "look", "(I)I"⟩, prog_12_method_106_code, 7, some .int, 1, 9, false, []),
  (⟨"WivesQuarrelsModel", "unlike", "(I)I"⟩, prog_12_method_105_code, 6, some .int, 1, 9, false, []),
  (⟨"WivesQuarrelsModel", "forget", "()V"⟩, prog_12_method_107_code, 1, none, 0, 9, false, []),
  (⟨"WivesQuarrelsModel", "game", "(III)I"⟩, prog_12_method_110_code, 10, some .int, 3, 9, false, []),
  (⟨"WivesQuarrelsModel", "heatSoon", "(I)I"⟩, prog_12_method_108_code, 3, some .int, 1, 9, false, []),
  (⟨"WivesQuarrelsModel", "gainOf", "(IIII)I"⟩, prog_12_method_109_code, 5, some .int, 4, 9, false, []),
  (⟨"WivesQuarrelsModel", "years", "(III)I"⟩, prog_12_method_113_code, 5, some .int, 3, 9, false, []),
  (⟨"WivesQuarrelsModel", "something", "()V"⟩, prog_12_method_112_code, 6, none, 0, 9, false, []),
  (⟨"WivesQuarrelsModel", "drawOf", "(I)I"⟩, prog_12_method_111_code, 2, some .int, 1, 9, false, []),
  (⟨"WivesQuarrelsModel", "image", "()V"⟩, prog_12_method_115_code, 1, none, 0, 9, false, []),
  (⟨"WivesQuarrelsModel", "copyTo", "([I[I)V"⟩, prog_12_method_114_code, 3, none, 2, 9, false, []),
  (⟨"WivesQuarrelsModel", "restore", "()Z"⟩, prog_12_method_116_code, 1, some .boolean, 0, 9, false, []),
  (⟨"WivesQuarrels$Game", "answer", "(IIII)I"⟩, prog_6_method_2_code, 8, some .int, 4, 10, false, []),
  (⟨"WivesQuarrels$Game", "isBest", "(IIII)Z"⟩, prog_6_method_3_code, 4, some .boolean, 4, 10, false, []),
  (⟨"WivesQuarrels$Game", "gain", "(IIII)I"⟩, prog_6_method_4_code, 4, some .int, 4, 10, false, []),
  (⟨"WivesQuarrelsLaw", "town", "(LWivesQuarrels;I[J)I"⟩, method_3_code, 4, some .int, 3, 11, false, [(0, 9, 12, 13)]),
  (⟨"WivesQuarrelsLaw", "count", "(LWivesQuarrels;I[J)I"⟩, method_4_code, 4, some .int, 3, 11, false, [(0, 9, 12, 18)]),
  (⟨"WivesQuarrelsLaw", "person", "(LWivesQuarrels;II[J)I"⟩, method_5_code, 5, some .int, 4, 11, false, [(0, 10, 13, 18)]),
  (⟨"WivesQuarrelsLaw", "quarrel", "(LWivesQuarrels;III[J)I"⟩, method_6_code, 6, some .int, 5, 11, false, [(0, 12, 15, 18)]),
  (⟨"WivesQuarrelsLaw", "die", "(LWivesQuarrels;I[J)I"⟩, method_7_code, 4, some .int, 3, 11, false, [(0, 9, 12, 18)]),
  (⟨"WivesQuarrelsLaw", "wed", "(LWivesQuarrels;II[J)I"⟩, method_8_code, 5, some .int, 4, 11, false, [(0, 17, 20, 18)]),
  (⟨"WivesQuarrelsLaw", "settle", "(LWivesQuarrels;II[J)I"⟩, method_9_code, 5, some .int, 4, 11, false, [(0, 10, 13, 18)]),
  (⟨"WivesQuarrelsLaw", "pick", "(LWivesQuarrels;IIII[J)I"⟩, method_10_code, 7, some .int, 6, 11, false, [(0, 14, 17, 18)])]
def mj_ms8 : List mj_M := [
  (⟨"WivesQuarrelsLaw", "then", "(LWivesQuarrels;IIII[J)I"⟩, method_11_code, 7, some .int, 6, 11, false, [(0, 14, 17, 18), (0, 14, 21, 13)]),
  (⟨"WivesQuarrelsLaw", "over", "(LWivesQuarrels;II[J)I"⟩, method_12_code, 5, some .int, 4, 11, false, [(0, 10, 13, 18)]),
  (⟨"WivesQuarrelsLaw", "later", "(LWivesQuarrels;II[J)I"⟩, method_13_code, 5, some .int, 4, 11, false, [(0, 10, 13, 18), (0, 10, 17, 13)]),
  (⟨"WivesQuarrelsLaw", "comesInto", "(LWivesQuarrels;II[J)I"⟩, method_14_code, 5, some .int, 4, 11, false, [(0, 10, 13, 18)]),
  (⟨"WivesQuarrelsLaw", "between", "(LWivesQuarrels;II[J)I"⟩, method_15_code, 5, some .int, 4, 11, false, [(0, 10, 13, 18)]),
  (⟨"WivesQuarrelsLaw", "friends", "(LWivesQuarrels;I[J)I"⟩, method_16_code, 4, some .int, 3, 11, false, [(0, 9, 12, 18)]),
  (⟨"WivesQuarrelsLaw", "spared", "(LWivesQuarrels;I[J)I"⟩, method_17_code, 4, some .int, 3, 11, false, [(0, 9, 12, 18)]),
  (⟨"WivesQuarrelsLaw", "match", "(LWivesQuarrels;I[J)I"⟩, method_18_code, 4, some .int, 3, 11, false, [(0, 9, 12, 18)]),
  (⟨"WivesQuarrelsLaw", "coldest", "(LWivesQuarrels;I[J)I"⟩, method_19_code, 4, some .int, 3, 11, false, [(0, 9, 12, 13)]),
  (⟨"WivesQuarrelsLaw", "foes", "(LWivesQuarrels;II[J)I"⟩, method_20_code, 5, some .int, 4, 11, false, [(0, 10, 13, 18)]),
  (⟨"WivesQuarrelsLaw", "word", "(LWivesQuarrels;I[J)I"⟩, method_21_code, 4, some .int, 3, 11, false, [(0, 9, 12, 18)]),
  (⟨"WivesQuarrelsLaw", "see", "(LWivesQuarrels;IIII[J)I"⟩, method_22_code, 7, some .int, 6, 11, false, [(0, 14, 17, 18)]),
  (⟨"WivesQuarrelsLaw", "nerved", "(LWivesQuarrels;I[J)I"⟩, method_23_code, 4, some .int, 3, 11, false, [(0, 9, 12, 18)]),
  (⟨"WivesQuarrelsLaw", "look", "(LWivesQuarrels;I[J)I"⟩, method_24_code, 4, some .int, 3, 11, false, [(0, 9, 12, 18)]),
  (⟨"WivesQuarrelsLaw", "game", "(LWivesQuarrels;III[J)I"⟩, method_25_code, 6, some .int, 5, 11, false, [(0, 12, 15, 18), (0, 12, 19, 13)]),
  (⟨"WivesQuarrelsLaw", "years", "(LWivesQuarrels;III[J)I"⟩, method_26_code, 6, some .int, 5, 11, false, [(0, 12, 15, 18), (0, 12, 19, 13)]),
  (⟨"WivesQuarrelsLaw", "law", "([I)Z"⟩, code, 7, some .boolean, 1, 11, false, []),
  (⟨"java/lang/String", "length", "()I"⟩, prog_23_method_54_code, 1, some .int, 0, 12, false, []),
  (⟨"java/lang/String", "coder", "()B"⟩, prog_23_method_152_code, 1, some .byte, 0, 12, false, []),
  (⟨"java/lang/String", "charAt", "(I)C"⟩, prog_23_method_56_code, 2, some .char, 1, 12, false, []),
  (⟨"java/lang/String", "isLatin1", "()Z"⟩, prog_23_method_154_code, 1, some .boolean, 0, 12, false, []),
  (⟨"java/lang/String", "checkIndex", "(II)V"⟩, prog_23_method_155_code, 2, none, 2, 12, false, []),
  (⟨"java/lang/String", "indexOf", "(I)I"⟩, prog_23_method_79_code, 2, some .int, 1, 12, false, []),
  (⟨"java/lang/String", "indexOf", "(II)I"⟩, prog_23_method_80_code, 3, some .int, 2, 12, false, []),
  (⟨"java/lang/StringLatin1", "charAt", "([BI)C"⟩, prog_24_method_2_code, 2, some .char, 2, 13, false, []),
  (⟨"java/lang/StringLatin1", "indexOf", "([BIII)I"⟩, prog_24_method_22_code, 4, some .int, 4, 13, false, []),
  (⟨"java/lang/StringLatin1", "canEncode", "(I)Z"⟩, prog_24_method_4_code, 1, some .boolean, 1, 13, false, []),
  (⟨"java/lang/StringLatin1", "indexOfChar", "([BIII)I"⟩, prog_24_method_23_code, 6, some .int, 4, 13, false, []),
  (⟨"java/lang/Integer", "bitCount", "(I)I"⟩, prog_19_method_49_code, 1, some .int, 1, 15, false, []),
  (⟨"java/lang/Long", "bitCount", "(J)I"⟩, prog_20_method_50_code, 2, some .int, 1, 16, false, []),
  (⟨"java/util/Arrays", "fill", "([II)V"⟩, prog_30_method_103_code, 4, none, 2, 17, false, []),
  (⟨"java/util/Arrays", "fill", "([JJ)V"⟩, prog_30_method_101_code, 5, none, 2, 17, false, []),
  (⟨"jdk/internal/util/Preconditions", "checkIndex", "(IILjava/util/function/BiFunction;)I"⟩, prog_32_method_11_code, 3, some .int, 3, 18, false, [])]
def mj_meth (y : Nat) : Option mj_M := match y / 40 with
  | 0 => mj_ms0[y % 40]?
  | 1 => mj_ms1[y % 40]?
  | 2 => mj_ms2[y % 40]?
  | 3 => mj_ms3[y % 40]?
  | 4 => mj_ms4[y % 40]?
  | 5 => mj_ms5[y % 40]?
  | 6 => mj_ms6[y % 40]?
  | 7 => mj_ms7[y % 40]?
  | 8 => mj_ms8[y % 40]?
  | _ => none
def mj_find : List (Nat × Nat × Nat × Nat) → Nat → Option (Nat × Nat × Nat)
  | [], _ => none
  | q :: r, i => if q.1 = i then some q.2 else mj_find r i
def mj_pl0 : List (Nat × Nat × Nat × Nat) := [(3, 3, 0, 0), (9, 8, 3, 0), (11, 13, 33, 2), (12, 0, 0, 0), (18, 0, 0, 1), (22, 0, 0, 2), (26, 0, 0, 3), (29, 0, 0, 4), (32, 0, 0, 5), (35, 0, 0, 6), (38, 0, 0, 7), (41, 0, 0, 8), (44, 2, 47, 1), (48, 4, 0, 0), (54, 2, 35, 1), (58, 2, 46, 1), (61, 15, 1, 0), (67, 2, 37, 1)]
def mj_pl1 : List (Nat × Nat × Nat × Nat) := [(3, 3, 0, 0), (9, 0, 1, 0), (15, 0, 1, 1), (18, 0, 1, 2), (22, 2, 49, 1), (27, 2, 40, 1), (30, 13, 149, 0), (34, 2, 17, 1), (37, 2, 348, 0), (42, 2, 21, 1), (46, 2, 23, 1), (49, 2, 22, 1), (52, 15, 0, 0), (58, 2, 26, 1), (61, 12, 0, 0), (64, 12, 0, 1)]
def mj_pl2 : List (Nat × Nat × Nat × Nat) := [(1, 3, 0, 0), (7, 0, 2, 0), (13, 5, 1103515245, 0), (14, 2, 30, 1), (18, 2, 61, 1), (24, 2, 31, 1), (28, 2, 112, 1), (33, 2, 59, 1), (37, 2, 54, 1), (41, 2, 32, 1), (45, 2, 63, 1), (49, 2, 70, 1), (53, 2, 71, 1), (56, 13, 153, 0), (62, 2, 57, 1)]
def mj_pl3 : List (Nat × Nat × Nat × Nat) := [(3, 3, 0, 0), (11, 0, 3, 0), (15, 2, 350, 0), (21, 4, 0, 0), (27, 2, 39, 0), (31, 13, 149, 0), (35, 2, 37, 1), (39, 12, 0, 0), (42, 12, 0, 1), (45, 2, 41, 1), (48, 13, 153, 0), (52, 2, 36, 1), (55, 2, 52, 1), (58, 2, 53, 1), (61, 2, 51, 1), (65, 2, 348, 0), (70, 2, 64, 1), (73, 2, 59, 1), (76, 2, 55, 1), (79, 2, 65, 1), (83, 2, 42, 1), (87, 2, 56, 1), (90, 15, 0, 0), (95, 2, 43, 1), (98, 2, 57, 1), (102, 2, 69, 1), (105, 2, 76, 1), (108, 5, 2147483647, 0), (109, 2, 63, 1)]
def mj_pl4 : List (Nat × Nat × Nat × Nat) := [(3, 3, 0, 0), (9, 8, 3, 0), (11, 13, 33, 2), (12, 0, 4, 0), (18, 0, 4, 1), (22, 0, 4, 2), (26, 2, 1, 1), (32, 2, 59, 1), (36, 2, 38, 1), (40, 2, 79, 1), (44, 2, 80, 1), (48, 2, 12, 1), (52, 2, 112, 1), (57, 2, 13, 1), (61, 2, 47, 1), (65, 2, 77, 1), (69, 2, 351, 0), (75, 2, 85, 1), (78, 2, 37, 1), (81, 2, 349, 0), (87, 2, 36, 1), (90, 2, 87, 1)]
def mj_pl5 : List (Nat × Nat × Nat × Nat) := [(3, 3, 0, 0), (9, 8, 7, 0), (11, 13, 129, 2), (12, 0, 5, 0), (18, 8, 3, 0), (20, 13, 33, 2), (21, 0, 5, 1), (25, 8, 6, 0), (27, 13, 111, 2), (28, 0, 5, 2), (32, 0, 5, 3), (36, 0, 5, 4), (39, 2, 60, 1), (42, 2, 121, 1), (43, 2, 130, 1), (47, 2, 135, 1), (51, 2, 90, 1), (55, 2, 106, 1), (59, 2, 136, 1), (62, 2, 92, 1), (65, 2, 131, 1), (68, 2, 91, 1), (72, 2, 94, 1), (75, 2, 96, 1), (78, 2, 97, 1), (81, 2, 105, 1), (84, 2, 137, 1), (87, 2, 138, 1), (90, 2, 61, 1), (93, 2, 93, 1), (97, 2, 62, 1), (101, 2, 95, 1), (104, 2, 55, 1), (108, 2, 63, 1), (112, 2, 65, 1), (116, 13, 153, 0), (119, 2, 36, 1), (122, 2, 57, 1), (126, 2, 116, 1), (129, 2, 122, 1), (132, 2, 98, 1), (135, 2, 124, 1), (138, 2, 120, 1), (141, 2, 125, 1), (144, 2, 126, 1), (147, 2, 139, 1), (150, 2, 99, 1), (153, 2, 123, 1), (156, 2, 100, 1), (159, 2, 101, 1), (162, 2, 102, 1), (165, 2, 103, 1), (168, 2, 104, 1), (171, 2, 140, 1)]
def mj_pl6 : List (Nat × Nat × Nat × Nat) := [(3, 3, 0, 0), (9, 0, 6, 0), (15, 0, 6, 1), (19, 0, 6, 2), (22, 0, 6, 3), (25, 0, 6, 4), (28, 0, 6, 5), (31, 0, 6, 6), (34, 0, 6, 7), (37, 4, 0, 0), (43, 2, 36, 1), (49, 2, 113, 1), (53, 2, 45, 1), (56, 2, 114, 1), (59, 2, 115, 1), (63, 15, 0, 0), (69, 2, 42, 1), (73, 2, 43, 1), (77, 2, 119, 1), (81, 2, 44, 1), (84, 2, 116, 1), (87, 2, 117, 1), (90, 15, 1, 0), (93, 2, 120, 1), (96, 12, 0, 0), (99, 12, 0, 1), (102, 2, 37, 1), (106, 2, 38, 1), (109, 15, 2, 0), (112, 2, 40, 1), (115, 2, 348, 0), (120, 2, 41, 1), (123, 2, 34, 1), (126, 2, 118, 0)]
def mj_pl7 : List (Nat × Nat × Nat × Nat) := [(3, 3, 0, 0), (9, 0, 7, 0), (15, 0, 7, 1), (19, 0, 7, 2), (22, 0, 7, 3), (25, 0, 7, 4), (28, 0, 7, 5), (31, 15, 0, 0), (37, 15, 1, 0), (40, 4, 0, 0), (46, 2, 131, 1), (49, 2, 132, 1), (52, 2, 133, 1), (55, 2, 134, 1), (58, 7, 2, 0), (60, 2, 342, 1), (66, 7, 1, 0), (68, 2, 337, 1), (71, 2, 339, 1)]
def mj_pl8 : List (Nat × Nat × Nat × Nat) := [(1, 3, 0, 0), (9, 0, 8, 0), (13, 8, 0, 0), (15, 13, 0, 2), (16, 0, 8, 1), (20, 0, 8, 2), (23, 8, 6, 0), (25, 13, 111, 2), (26, 0, 8, 3), (30, 8, 5, 0), (32, 13, 88, 2), (33, 0, 8, 4), (37, 8, 1, 0), (39, 13, 14, 2), (40, 0, 8, 5), (44, 8, 4, 0), (46, 13, 78, 2), (47, 0, 8, 6), (51, 8, 2, 0), (53, 13, 28, 2), (54, 0, 8, 7), (58, 8, 3, 0), (60, 13, 33, 2), (61, 0, 8, 8), (65, 0, 8, 9), (69, 0, 8, 10), (72, 0, 8, 11), (76, 2, 143, 1), (80, 9, 1, 0), (82, 7, 0, 0), (84, 14, 1, 0), (87, 2, 89, 1), (91, 2, 107, 1), (95, 2, 2, 1), (99, 2, 108, 1), (102, 2, 109, 1), (106, 2, 7, 1), (110, 2, 110, 1), (113, 2, 127, 1), (117, 2, 1, 1), (118, 2, 61, 1), (121, 2, 49, 1), (124, 2, 34, 1), (127, 2, 48, 1), (130, 2, 66, 1), (133, 2, 51, 1), (136, 2, 15, 1), (139, 2, 20, 1), (142, 2, 24, 1), (145, 2, 8, 1), (148, 2, 9, 1), (151, 2, 10, 1), (154, 9, 0, 0), (156, 7, 3, 0), (158, 14, 0, 0), (159, 2, 166, 1), (162, 2, 38, 1), (165, 2, 67, 1), (168, 2, 55, 1), (171, 2, 59, 1), (175, 2, 68, 1), (178, 2, 40, 1), (181, 2, 69, 1), (184, 2, 168, 1), (188, 2, 169, 0), (191, 2, 153, 0), (195, 2, 36, 1), (198, 2, 37, 1), (201, 2, 52, 1), (204, 2, 41, 1), (207, 2, 58, 1), (210, 2, 128, 1), (214, 2, 3, 1), (217, 2, 112, 1), (221, 2, 54, 1), (224, 2, 63, 1), (228, 2, 70, 1), (231, 2, 42, 1), (234, 2, 71, 1), (237, 2, 57, 1), (241, 2, 4, 1), (244, 2, 175, 0), (247, 2, 176, 1), (251, 2, 47, 1), (253, 2, 72, 1), (256, 2, 179, 0), (259, 2, 73, 1), (262, 2, 348, 0), (267, 2, 16, 1), (270, 2, 25, 1), (273, 2, 50, 1), (276, 2, 152, 1), (279, 2, 149, 0), (282, 2, 27, 1), (285, 2, 74, 1), (288, 2, 75, 1), (291, 2, 18, 1), (294, 2, 19, 1), (297, 7, 6, 0), (299, 2, 11, 1), (303, 2, 79, 1), (307, 2, 81, 1), (311, 2, 82, 1), (314, 2, 83, 1), (317, 2, 84, 1), (321, 2, 86, 1), (325, 2, 87, 1), (328, 2, 5, 1), (331, 7, 7, 0), (333, 2, 309, 0), (339, 2, 29, 1), (343, 2, 6, 1), (346, 7, 4, 0), (348, 7, 5, 0), (350, 1, 0, 0), (354, 1, 0, 1), (357, 15, 0, 0), (362, 15, 1, 0)]
def mj_pl9 : List (Nat × Nat × Nat × Nat) := [(3, 3, 0, 0), (9, 10, 0, 0), (11, 7, 8, 0), (13, 7, 9, 0), (15, 0, 9, 0), (19, 7, 10, 0), (21, 7, 11, 0), (23, 7, 12, 0), (25, 7, 13, 0), (27, 7, 14, 0), (29, 7, 15, 0), (31, 0, 9, 1), (34, 0, 9, 3), (38, 0, 9, 4), (40, 0, 9, 5), (43, 0, 9, 6), (46, 0, 9, 7), (49, 0, 9, 8), (52, 0, 9, 9), (55, 0, 9, 10), (58, 0, 9, 11), (61, 0, 9, 12), (64, 0, 9, 13), (67, 0, 9, 14), (70, 0, 9, 24), (74, 0, 9, 26), (77, 0, 9, 27), (80, 0, 9, 28), (82, 0, 9, 29), (85, 0, 9, 30), (88, 0, 9, 31), (91, 0, 9, 36), (94, 0, 9, 37), (97, 0, 9, 38), (100, 0, 9, 39), (103, 0, 9, 40), (106, 0, 9, 41), (109, 0, 9, 42), (112, 0, 9, 43), (115, 0, 9, 44), (118, 0, 9, 45), (121, 0, 9, 51), (124, 0, 9, 52), (127, 0, 9, 53), (130, 0, 9, 54), (133, 0, 9, 55), (136, 0, 9, 56), (139, 0, 9, 2), (142, 2, 240, 0), (146, 15, 0, 0), (152, 15, 1, 0), (155, 0, 9, 15), (158, 0, 9, 17), (161, 0, 9, 16), (164, 2, 199, 1), (168, 0, 9, 20), (171, 0, 9, 18), (174, 2, 200, 0), (178, 2, 201, 0), (181, 0, 9, 19), (184, 5, 100000, 0), (185, 2, 202, 0), (188, 0, 9, 21), (191, 0, 9, 22), (194, 0, 9, 23), (197, 2, 337, 1), (201, 2, 339, 1), (205, 2, 205, 1), (209, 2, 208, 1), (212, 2, 206, 1), (216, 2, 198, 1), (219, 2, 215, 1), (222, 0, 9, 25), (226, 2, 214, 1), (229, 2, 216, 1), (232, 2, 204, 1), (236, 2, 217, 1), (239, 2, 207, 1), (242, 2, 213, 1), (245, 2, 212, 1), (248, 7, 18, 0), (250, 2, 211, 1), (253, 2, 210, 1), (256, 7, 19, 0), (258, 2, 209, 1), (261, 7, 20, 0), (263, 2, 220, 1), (266, 2, 222, 0), (269, 7, 16, 0), (271, 7, 17, 0), (272, 2, 218, 1), (275, 7, 21, 0), (277, 2, 219, 1), (280, 7, 22, 0), (282, 2, 221, 1), (285, 2, 197, 1), (288, 2, 203, 1), (291, 2, 223, 1), (294, 2, 224, 0), (298, 0, 9, 32), (300, 0, 9, 33), (303, 0, 9, 34), (306, 0, 9, 35), (309, 0, 9, 48), (312, 2, 229, 1), (316, 2, 228, 1), (319, 2, 230, 0), (322, 2, 232, 1), (325, 2, 247, 0), (329, 15, 2, 0), (332, 2, 245, 1), (336, 2, 246, 1), (340, 2, 254, 1), (343, 2, 255, 1), (346, 2, 244, 1), (349, 2, 253, 1), (352, 2, 258, 1), (356, 2, 236, 0), (359, 2, 241, 1), (362, 2, 235, 1), (365, 2, 227, 1), (368, 2, 231, 1), (371, 2, 233, 1), (374, 2, 234, 1), (377, 2, 237, 1), (380, 2, 239, 1), (383, 6, 4, 0), (385, 2, 243, 1), (388, 2, 251, 1), (392, 6, 20, 0), (394, 2, 249, 1), (397, 2, 250, 1), (400, 2, 252, 1), (403, 2, 257, 1), (406, 2, 260, 1), (409, 2, 261, 1), (412, 2, 262, 1), (415, 2, 265, 1), (418, 6, 99, 0), (420, 6, 9, 0), (422, 2, 266, 1), (426, 2, 268, 1), (429, 6, 60, 0), (431, 6, 2, 0), (433, 2, 273, 1), (436, 2, 274, 1), (439, 2, 276, 1), (442, 0, 9, 46), (445, 2, 295, 1), (449, 2, 296, 1), (452, 2, 298, 1), (454, 2, 301, 1), (457, 2, 302, 1), (461, 0, 9, 47), (464, 5, 1103515245, 0), (465, 2, 305, 1), (468, 2, 304, 1), (471, 0, 9, 49), (474, 0, 9, 50), (477, 2, 307, 0)]
def mj_pl10 : List (Nat × Nat × Nat × Nat) := [(9, 2, 310, 0), (15, 2, 311, 0)]
def mj_pl11 : List (Nat × Nat × Nat × Nat) := [(7, 2, 163, 1), (8, 8, 8, 0), (13, 9, 1, 0), (15, 2, 164, 1), (18, 9, 0, 0), (20, 2, 165, 1), (24, 2, 167, 1), (28, 2, 170, 1), (31, 2, 171, 1), (35, 2, 172, 1), (38, 2, 173, 1), (42, 2, 174, 1), (45, 2, 177, 1), (48, 2, 178, 1), (51, 2, 180, 1), (54, 2, 181, 1), (57, 2, 182, 1), (60, 2, 183, 1), (63, 2, 184, 1), (66, 2, 185, 1), (69, 2, 186, 1), (72, 2, 187, 1), (75, 2, 188, 1), (78, 2, 189, 1), (81, 2, 190, 1), (84, 2, 191, 1), (87, 2, 192, 1), (90, 2, 141, 2), (91, 8, 9, 0), (93, 2, 193, 2), (94, 2, 142, 1), (98, 2, 195, 1), (99, 2, 312, 0), (104, 2, 196, 1), (105, 2, 194, 1), (109, 2, 144, 1), (112, 2, 225, 1), (113, 2, 313, 0), (115, 2, 226, 1), (116, 2, 314, 0), (119, 2, 238, 1), (120, 2, 315, 0), (123, 2, 242, 1), (124, 2, 145, 1), (127, 2, 248, 1), (128, 2, 316, 0), (130, 2, 256, 1), (131, 2, 317, 0), (133, 2, 259, 1), (134, 2, 318, 0), (136, 2, 263, 1), (137, 2, 319, 0), (140, 2, 264, 1), (141, 2, 146, 1), (144, 2, 267, 1), (145, 2, 320, 0), (147, 2, 269, 1), (148, 2, 321, 0), (150, 2, 270, 1), (151, 2, 147, 1), (154, 2, 271, 1), (155, 2, 322, 0), (157, 2, 272, 1), (158, 2, 323, 0), (160, 2, 277, 1), (161, 2, 148, 1), (164, 2, 280, 1), (165, 2, 324, 0), (167, 2, 281, 1), (168, 2, 150, 1), (171, 2, 282, 1), (172, 2, 151, 1), (175, 2, 279, 1), (176, 2, 325, 0), (178, 2, 283, 1), (179, 2, 326, 0), (181, 2, 278, 1), (182, 2, 327, 0), (184, 2, 284, 1), (185, 2, 154, 1), (188, 2, 285, 1), (189, 2, 155, 1), (192, 2, 286, 1), (193, 2, 328, 0), (195, 2, 275, 1), (196, 2, 156, 1), (199, 2, 287, 1), (200, 2, 157, 1), (203, 2, 288, 1), (204, 2, 329, 0), (206, 2, 289, 1), (207, 2, 330, 0), (209, 2, 290, 1), (210, 2, 158, 1), (213, 2, 291, 1), (214, 2, 159, 1), (217, 2, 292, 1), (218, 2, 331, 0), (220, 2, 293, 1), (221, 2, 332, 0), (223, 2, 294, 1), (224, 2, 333, 0), (226, 2, 297, 1), (227, 2, 160, 1), (230, 2, 299, 1), (231, 2, 334, 0), (233, 2, 300, 1), (234, 2, 335, 0), (236, 2, 303, 1), (237, 2, 161, 1), (240, 2, 306, 1), (241, 2, 162, 1), (245, 2, 308, 1)]
def mj_pl12 : List (Nat × Nat × Nat × Nat) := [(9, 11, 0, 0), (15, 11, 0, 1), (38, 1, 1, 1), (335, 2, 338, 1), (492, 2, 340, 1), (495, 2, 344, 0), (505, 2, 337, 1), (633, 2, 343, 1), (637, 2, 345, 0), (1053, 1, 0, 300), (1059, 2, 352, 0)]
def mj_pl13 : List (Nat × Nat × Nat × Nat) := [(9, 2, 341, 0), (38, 15, 0, 0), (88, 2, 346, 0), (92, 15, 1, 0), (95, 2, 347, 0)]
def mj_pl14 : List (Nat × Nat × Nat × Nat) := []
def mj_pl15 : List (Nat × Nat × Nat × Nat) := [(265, 5, 1431655765, 0), (266, 5, 858993459, 0), (267, 5, 252645135, 0)]
def mj_pl16 : List (Nat × Nat × Nat × Nat) := [(314, 6, 6148914691236517205, 0), (316, 6, 3689348814741910323, 0), (318, 6, 1085102592571150095, 0)]
def mj_pl17 : List (Nat × Nat × Nat × Nat) := []
def mj_pl18 : List (Nat × Nat × Nat × Nat) := []
def mj_pool (c i : Nat) : Option (Nat × Nat × Nat) := match c with
  | 0 => mj_find mj_pl0 i
  | 1 => mj_find mj_pl1 i
  | 2 => mj_find mj_pl2 i
  | 3 => mj_find mj_pl3 i
  | 4 => mj_find mj_pl4 i
  | 5 => mj_find mj_pl5 i
  | 6 => mj_find mj_pl6 i
  | 7 => mj_find mj_pl7 i
  | 8 => mj_find mj_pl8 i
  | 9 => mj_find mj_pl9 i
  | 10 => mj_find mj_pl10 i
  | 11 => mj_find mj_pl11 i
  | 12 => mj_find mj_pl12 i
  | 13 => mj_find mj_pl13 i
  | 14 => mj_find mj_pl14 i
  | 15 => mj_find mj_pl15 i
  | 16 => mj_find mj_pl16 i
  | 17 => mj_find mj_pl17 i
  | 18 => mj_find mj_pl18 i
  | _ => none
def mj_str : List (List Int32) := [[116, 104, 101, 32, 116, 97, 112, 101, 32, 104, 97, 115, 32, 110, 111, 116, 32, 115, 111, 32, 109, 97, 110, 121, 32, 98, 121, 116, 101, 115], [104, 101, 97, 116, 32, 110, 101, 114, 118, 101, 32, 117, 110, 108, 105, 107, 101, 32, 109, 97, 110, 121, 32, 99, 117, 116, 32, 119, 101, 101, 107, 32, 111, 114, 32, 97, 110, 100, 32, 110, 111, 116, 32, 112, 101, 114, 115, 111, 110, 32, 108, 97, 119, 121, 101, 114, 32, 119, 101, 100, 32, 113, 117, 97, 114, 114, 101, 108, 32, 104, 101, 97, 116, 115, 32, 99, 117, 116, 115, 32], [59, 40, 41, 43, 45, 42, 47, 60, 61], [110, 111, 32, 115, 117, 99, 104, 32, 119, 104, 97, 116], [110, 111, 32, 115, 117, 99, 104, 32, 112, 101, 114, 115, 111, 110], [110, 111, 116, 32, 48, 32, 116, 111, 32, 54, 48, 32, 119, 101, 101, 107, 115], [110, 111, 32, 115, 117, 99, 104, 32, 119, 111, 114, 100], [98, 111, 116, 104, 32, 97, 114, 101, 32, 111, 110, 101], [112, 101, 114, 115, 111, 110], [108, 97, 119, 121, 101, 114], [104, 101, 97, 116], [110, 101, 114, 118, 101], [117, 110, 108, 105, 107, 101], [109, 97, 110, 121], [99, 117, 116], [119, 101, 101, 107], [104, 101, 97, 116, 115], [99, 117, 116, 115], [110, 111, 116], [97, 110, 100], [111, 114], [119, 101, 100], [113, 117, 97, 114, 114, 101, 108]]
def mj_les : List Int32 := [0, 0, 0, 0, 0, 0, 0, 1, 1, 1, 1, 1, 1, 2, 2, 2, 2, 2, 3, 3, 3, 3, 4, 4, 4, 5, 5, 6]
def mj_gre : List Int32 := [1, 2, 3, 4, 5, 6, 7, 2, 3, 4, 5, 6, 7, 3, 4, 5, 6, 7, 4, 5, 6, 7, 5, 6, 7, 6, 7, 7]
