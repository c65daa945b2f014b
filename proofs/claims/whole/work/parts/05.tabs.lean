/-! classes, methods of the claim, by number (written by program out of the printed names and tables) -/
def mv_T0 : u_T := fun k => match k with
  | 0 => ("TurnedTablets$Cloth", "stands", "[I", true)
  | 1 => ("TurnedTablets$Cloth", "band", "[I", true)
  | _ => ("TurnedTablets$Cloth", "rows", "I", false)
def mv_Y0 : Nat → FieldType := fun k => match k with
  | 0 => .array .int
  | 1 => .array .int
  | _ => .int
def mv_T1 : u_T := fun k => match k with
  | 0 => ("TurnedTablets$Loom", "tablets", "I", false)
  | 1 => ("TurnedTablets$Loom", "packs", "I", false)
  | 2 => ("TurnedTablets$Loom", "picks", "I", false)
  | 3 => ("TurnedTablets$Loom", "limit", "I", false)
  | 4 => ("TurnedTablets$Loom", "kinds", "[I", true)
  | 5 => ("TurnedTablets$Loom", "threadings", "[I", true)
  | 6 => ("TurnedTablets$Loom", "threads", "[I", true)
  | 7 => ("TurnedTablets$Loom", "firstAlike", "[I", true)
  | 8 => ("TurnedTablets$Loom", "packSets", "[I", true)
  | _ => ("TurnedTablets$Loom", "draftPicks", "[I", true)
def mv_Y1 : Nat → FieldType := fun k => match k with
  | 0 => .int
  | 1 => .int
  | 2 => .int
  | 3 => .int
  | 4 => .array .int
  | 5 => .array .int
  | 6 => .array .int
  | 7 => .array .int
  | 8 => .array .int
  | _ => .array .int
def mv_T2 : u_T := fun k => match k with
  | 0 => ("TurnedTablets$Reader", "letters", "Ljava/lang/StringBuilder;", true)
  | 1 => ("TurnedTablets$Reader", "told", "LTurnedTablets$Loom;", true)
  | _ => ("TurnedTablets$Reader", "place", "I", false)
def mv_Y2 : Nat → FieldType := fun k => match k with
  | 0 => .object "java/lang/StringBuilder"
  | 1 => .object "TurnedTablets$Loom"
  | _ => .int
def mv_T3 : u_T := fun k => match k with
  | 0 => ("TurnedTablets$Search", "list", "[I", true)
  | 1 => ("TurnedTablets$Search", "marks", "[I", true)
  | 2 => ("TurnedTablets$Search", "steps", "[I", true)
  | _ => ("TurnedTablets$Search", "listed", "I", false)
def mv_Y3 : Nat → FieldType := fun k => match k with
  | 0 => .array .int
  | 1 => .array .int
  | 2 => .array .int
  | _ => .int
def mv_T4 : u_T := fun k => match k with
  | 0 => ("TurnedTablets", "text", "Ljava/lang/StringBuilder;", true)
  | 1 => ("TurnedTablets", "loom", "LTurnedTablets$Loom;", true)
  | 2 => ("TurnedTablets", "reader", "LTurnedTablets$Reader;", true)
  | 3 => ("TurnedTablets", "cloth", "LTurnedTablets$Cloth;", true)
  | 4 => ("TurnedTablets", "trial", "LTurnedTablets$Cloth;", true)
  | 5 => ("TurnedTablets", "undoable", "[LTurnedTablets$Cloth;", true)
  | 6 => ("TurnedTablets", "undoEnd", "I", false)
  | 7 => ("TurnedTablets", "undoCount", "I", false)
  | 8 => ("TurnedTablets", "kept", "[LTurnedTablets$Cloth;", true)
  | 9 => ("TurnedTablets", "keptCount", "I", false)
  | 10 => ("TurnedTablets", "seen", "[I", true)
  | 11 => ("TurnedTablets", "seenCount", "I", false)
  | _ => ("TurnedTablets", "search", "LTurnedTablets$Search;", true)
def mv_Y4 : Nat → FieldType := fun k => match k with
  | 0 => .object "java/lang/StringBuilder"
  | 1 => .object "TurnedTablets$Loom"
  | 2 => .object "TurnedTablets$Reader"
  | 3 => .object "TurnedTablets$Cloth"
  | 4 => .object "TurnedTablets$Cloth"
  | 5 => .array (.object "TurnedTablets$Cloth")
  | 6 => .int
  | 7 => .int
  | 8 => .array (.object "TurnedTablets$Cloth")
  | 9 => .int
  | 10 => .array .int
  | 11 => .int
  | _ => .object "TurnedTablets$Search"
def mv_T5 : u_T := fun k => match k with
  | 0 => ("TurnedTabletsModel", "row", "[I", true)
  | 1 => ("TurnedTabletsModel", "undos", "I", false)
  | 2 => ("TurnedTabletsModel", "keptMany", "I", false)
  | 3 => ("TurnedTabletsModel", "tablets", "I", false)
  | 4 => ("TurnedTabletsModel", "kinds", "[I", true)
  | 5 => ("TurnedTabletsModel", "threads", "[I", true)
  | 6 => ("TurnedTabletsModel", "begun", "[I", true)
  | 7 => ("TurnedTabletsModel", "packs", "I", false)
  | 8 => ("TurnedTabletsModel", "packed", "[I", true)
  | 9 => ("TurnedTabletsModel", "most", "I", false)
  | 10 => ("TurnedTabletsModel", "drafted", "I", false)
  | 11 => ("TurnedTabletsModel", "drafts", "[I", true)
  | 12 => ("TurnedTabletsModel", "text", "[I", true)
  | 13 => ("TurnedTabletsModel", "length", "I", false)
  | 14 => ("TurnedTabletsModel", "seen", "I", false)
  | 15 => ("TurnedTabletsModel", "seenColours", "[I", true)
  | 16 => ("TurnedTabletsModel", "firstText", "[I", true)
  | 17 => ("TurnedTabletsModel", "at", "I", false)
  | 18 => ("TurnedTabletsModel", "number", "I", false)
  | 19 => ("TurnedTabletsModel", "readTablets", "I", false)
  | 20 => ("TurnedTabletsModel", "readKinds", "[I", true)
  | 21 => ("TurnedTabletsModel", "readBegun", "[I", true)
  | 22 => ("TurnedTabletsModel", "readThreads", "[I", true)
  | 23 => ("TurnedTabletsModel", "readPacks", "I", false)
  | 24 => ("TurnedTabletsModel", "readPacked", "[I", true)
  | 25 => ("TurnedTabletsModel", "readMost", "I", false)
  | 26 => ("TurnedTabletsModel", "readDrafted", "I", false)
  | 27 => ("TurnedTabletsModel", "readDrafts", "[I", true)
  | 28 => ("TurnedTabletsModel", "adds", "[I", true)
  | 29 => ("TurnedTabletsModel", "shows", "[I", true)
  | 30 => ("TurnedTabletsModel", "alike", "[I", true)
  | 31 => ("TurnedTabletsModel", "isTold", "[Z", true)
  | 32 => ("TurnedTabletsModel", "all", "I", false)
  | 33 => ("TurnedTabletsModel", "cameFrom", "[I", true)
  | 34 => ("TurnedTabletsModel", "cameBy", "[I", true)
  | 35 => ("TurnedTabletsModel", "line", "[I", true)
  | 36 => ("TurnedTabletsModel", "lineEnd", "I", false)
  | 37 => ("TurnedTabletsModel", "ways", "[I", true)
  | _ => ("TurnedTabletsModel", "then", "[I", true)
def mv_Y5 : Nat → FieldType := fun k => match k with
  | 0 => .array .int
  | 1 => .int
  | 2 => .int
  | 3 => .int
  | 4 => .array .int
  | 5 => .array .int
  | 6 => .array .int
  | 7 => .int
  | 8 => .array .int
  | 9 => .int
  | 10 => .int
  | 11 => .array .int
  | 12 => .array .int
  | 13 => .int
  | 14 => .int
  | 15 => .array .int
  | 16 => .array .int
  | 17 => .int
  | 18 => .int
  | 19 => .int
  | 20 => .array .int
  | 21 => .array .int
  | 22 => .array .int
  | 23 => .int
  | 24 => .array .int
  | 25 => .int
  | 26 => .int
  | 27 => .array .int
  | 28 => .array .int
  | 29 => .array .int
  | 30 => .array .int
  | 31 => .array .boolean
  | 32 => .int
  | 33 => .array .int
  | 34 => .array .int
  | 35 => .array .int
  | 36 => .int
  | 37 => .array .int
  | _ => .array .int
def mv_T6 : u_T := fun k => match k with
  | 0 => ("java/lang/AbstractStringBuilder", "value", "[B", false)
  | 1 => ("java/lang/AbstractStringBuilder", "coder", "B", false)
  | 2 => ("java/lang/AbstractStringBuilder", "maybeLatin1", "Z", false)
  | _ => ("java/lang/AbstractStringBuilder", "count", "I", false)
def mv_Y6 : Nat → FieldType := fun k => match k with
  | 0 => .array .byte
  | 1 => .byte
  | 2 => .boolean
  | _ => .int
def mv_cl : List vw_C := [("TurnedTablets$Cloth", mv_T0, 3), ("TurnedTablets$Loom", mv_T1, 10), ("TurnedTablets$Reader", mv_T2, 3), ("TurnedTablets$Search", mv_T3, 4), ("TurnedTablets", mv_T4, 13), ("TurnedTabletsModel", mv_T5, 39), ("java/lang/StringBuilder", mv_T6, 4)]
def mv_ty : List (Nat → FieldType) := [mv_Y0, mv_Y1, mv_Y2, mv_Y3, mv_Y4, mv_Y5, mv_Y6]
def mv_DF : mv_Cls := [[some .null, some .null, none], [none, none, none, none, some .null, some .null, some .null, some .null, some .null, some .null], [some .null, some .null, none], [some .null, some .null, some .null, none], [some .null, some .null, some .null, some .null, some .null, some .null, none, none, some .null, none, some .null, none, some .null], [some .null, none, none, none, some .null, some .null, some .null, none, some .null, none, none, some .null, some .null, none, none, some .null, some .null, none, none, none, some .null, some .null, some .null, none, some .null, none, none, some .null, some .null, some .null, some .null, some .null, none, some .null, some .null, some .null, none, some .null, some .null], [some .null, none, none, none]]
abbrev mv_Mt : Type := MethodName × ByteArray × Nat × Option FieldType × Jvm.Room
def mv_m0 : List mv_Mt := [
  (⟨"java/lang/AbstractStringBuilder", "<init>", "(I)V"⟩, prog_8_method_2_code, 2, none, { frames := 1, cells := 1, slots := 16, locals := 26 }),
  (⟨"java/lang/StringBuilder", "<init>", "()V"⟩, prog_13_method_1_code, 1, none, { frames := 2, cells := 1, slots := 16, locals := 47 }),
  (⟨"TurnedTablets$Loom", "<init>", "()V"⟩, prog_3_method_1_code, 1, none, { frames := 1, cells := 6, slots := 74, locals := 26 }),
  (⟨"TurnedTablets$Reader", "<init>", "(Ljava/lang/StringBuilder;)V"⟩, prog_4_method_1_code, 2, none, { frames := 2, cells := 7, slots := 84, locals := 46 }),
  (⟨"TurnedTablets$Cloth", "<init>", "()V"⟩, prog_2_method_1_code, 1, none, { frames := 1, cells := 2, slots := 798, locals := 26 }),
  (⟨"TurnedTablets$Search", "<init>", "()V"⟩, prog_5_method_1_code, 1, none, { frames := 1, cells := 3, slots := 8204, locals := 26 }),
  (⟨"java/lang/String", "coder", "()B"⟩, prog_12_method_152_code, 1, (some .byte), { frames := 0, cells := 0, slots := 0, locals := 0 }),
  (⟨"java/lang/String", "length", "()I"⟩, prog_12_method_54_code, 1, (some .int), { frames := 1, cells := 0, slots := 0, locals := 20 }),
  (⟨"java/lang/Math", "max", "(II)I"⟩, prog_11_method_65_code, 2, (some .int), { frames := 0, cells := 0, slots := 0, locals := 0 }),
  (⟨"jdk/internal/util/ArraysSupport", "newLength", "(III)I"⟩, prog_18_method_27_code, 4, (some .int), { frames := 1, cells := 0, slots := 0, locals := 21 }),
  (⟨"java/lang/AbstractStringBuilder", "newCapacity", "(I)I"⟩, prog_8_method_10_code, 6, (some .int), { frames := 2, cells := 0, slots := 0, locals := 44 }),
  (⟨"java/util/Arrays", "copyOf", "([BI)[B"⟩, prog_17_method_121_code, 3, (some (.array .byte)), { frames := 1, cells := 1, slots := 96, locals := 26 }),
  (⟨"java/lang/AbstractStringBuilder", "ensureCapacityInternal", "(I)V"⟩, prog_8_method_9_code, 3, none, { frames := 3, cells := 1, slots := 96, locals := 69 }),
  (⟨"java/lang/AbstractStringBuilder", "inflateIfNeededFor", "(Ljava/lang/String;)V"⟩, prog_8_method_71_code, 2, none, { frames := 1, cells := 0, slots := 0, locals := 20 }),
  (⟨"java/lang/String", "getBytes", "([BIB)V"⟩, prog_12_method_147_code, 4, none, { frames := 1, cells := 0, slots := 0, locals := 26 }),
  (⟨"java/lang/AbstractStringBuilder", "putStringAt", "(ILjava/lang/String;)V"⟩, prog_8_method_73_code, 3, none, { frames := 2, cells := 0, slots := 0, locals := 49 }),
  (⟨"java/lang/AbstractStringBuilder", "append", "(Ljava/lang/String;)Ljava/lang/AbstractStringBuilder;"⟩, prog_8_method_22_code, 3, (some (.object "java/lang/AbstractStringBuilder")), { frames := 4, cells := 1, slots := 96, locals := 91 }),
  (⟨"java/lang/StringBuilder", "append", "(Ljava/lang/String;)Ljava/lang/StringBuilder;"⟩, prog_13_method_7_code, 2, (some (.object "java/lang/StringBuilder")), { frames := 5, cells := 1, slots := 96, locals := 113 }),
  (⟨"TurnedTablets$Loom", "clear", "()V"⟩, prog_3_method_2_code, 1, none, { frames := 0, cells := 0, slots := 0, locals := 0 }),
  (⟨"java/lang/AbstractStringBuilder", "length", "()I"⟩, prog_8_method_6_code, 1, (some .int), { frames := 0, cells := 0, slots := 0, locals := 0 }),
  (⟨"java/lang/StringBuilder", "length", "()I"⟩, prog_13_method_93_code, 1, (some .int), { frames := 1, cells := 0, slots := 0, locals := 20 }),
  (⟨"jdk/internal/util/Preconditions", "checkIndex", "(IILjava/util/function/BiFunction;)I"⟩, prog_19_method_11_code, 3, (some .int), { frames := 0, cells := 0, slots := 0, locals := 0 }),
  (⟨"java/lang/String", "checkIndex", "(II)V"⟩, prog_12_method_155_code, 2, none, { frames := 1, cells := 0, slots := 0, locals := 22 }),
  (⟨"java/lang/AbstractStringBuilder", "charAt", "(I)C"⟩, prog_8_method_14_code, 5, (some .char), { frames := 2, cells := 0, slots := 0, locals := 43 }),
  (⟨"java/lang/StringBuilder", "charAt", "(I)C"⟩, prog_13_method_88_code, 2, (some .char), { frames := 3, cells := 0, slots := 0, locals := 67 }),
  (⟨"TurnedTablets$Reader", "letterHere", "()I"⟩, prog_4_method_9_code, 1, (some .int), { frames := 4, cells := 0, slots := 0, locals := 88 }),
  (⟨"TurnedTablets$Reader", "nextLetter", "()I"⟩, prog_4_method_10_code, 2, (some .int), { frames := 5, cells := 0, slots := 0, locals := 108 }),
  (⟨"TurnedTablets$Reader", "readFigure", "()I"⟩, prog_4_method_11_code, 2, (some .int), { frames := 5, cells := 0, slots := 0, locals := 108 }),
  (⟨"TurnedTablets$Reader", "readNumber", "()I"⟩, prog_4_method_12_code, 3, (some .int), { frames := 6, cells := 0, slots := 0, locals := 129 }),
  (⟨"TurnedTablets$Loom", "colour", "(II)I"⟩, prog_3_method_6_code, 3, (some .int), { frames := 0, cells := 0, slots := 0, locals := 0 })]
def mv_m1 : List mv_Mt := [
  (⟨"TurnedTablets$Loom", "findFirstAlike", "(II)I"⟩, prog_3_method_13_code, 4, (some .int), { frames := 1, cells := 0, slots := 0, locals := 22 }),
  (⟨"TurnedTablets$Loom", "addTablet", "(III)Z"⟩, prog_3_method_12_code, 6, (some .boolean), { frames := 2, cells := 0, slots := 0, locals := 45 }),
  (⟨"TurnedTablets$Reader", "readTablet", "()Z"⟩, prog_4_method_4_code, 6, (some .boolean), { frames := 7, cells := 0, slots := 0, locals := 151 }),
  (⟨"TurnedTablets$Loom", "addPack", "(I)Z"⟩, prog_3_method_14_code, 2, (some .boolean), { frames := 0, cells := 0, slots := 0, locals := 0 }),
  (⟨"TurnedTablets$Reader", "readPack", "()Z"⟩, prog_4_method_5_code, 4, (some .boolean), { frames := 6, cells := 0, slots := 0, locals := 129 }),
  (⟨"TurnedTablets$Reader", "readLimit", "()Z"⟩, prog_4_method_6_code, 2, (some .boolean), { frames := 7, cells := 0, slots := 0, locals := 151 }),
  (⟨"TurnedTablets$Reader", "wayOf", "(I)I"⟩, prog_4_method_8_code, 1, (some .int), { frames := 0, cells := 0, slots := 0, locals := 0 }),
  (⟨"TurnedTablets$Loom", "addPick", "(II)Z"⟩, prog_3_method_15_code, 3, (some .boolean), { frames := 0, cells := 0, slots := 0, locals := 0 }),
  (⟨"TurnedTablets$Reader", "readDraft", "()Z"⟩, prog_4_method_7_code, 4, (some .boolean), { frames := 6, cells := 0, slots := 0, locals := 129 }),
  (⟨"TurnedTablets$Reader", "readItem", "()Z"⟩, prog_4_method_3_code, 1, (some .boolean), { frames := 8, cells := 0, slots := 0, locals := 176 }),
  (⟨"TurnedTablets$Reader", "readText", "()I"⟩, prog_4_method_2_code, 3, (some .int), { frames := 9, cells := 0, slots := 0, locals := 196 }),
  (⟨"TurnedTablets$Loom", "copyFrom", "(LTurnedTablets$Loom;)V"⟩, prog_3_method_3_code, 2, none, { frames := 1, cells := 0, slots := 0, locals := 26 }),
  (⟨"java/util/Arrays", "fill", "([II)V"⟩, prog_17_method_103_code, 4, none, { frames := 0, cells := 0, slots := 0, locals := 0 }),
  (⟨"TurnedTablets$Loom", "threading", "(I)I"⟩, prog_3_method_5_code, 2, (some .int), { frames := 0, cells := 0, slots := 0, locals := 0 }),
  (⟨"TurnedTablets$Cloth", "set", "(III)V"⟩, prog_2_method_5_code, 4, none, { frames := 0, cells := 0, slots := 0, locals := 0 }),
  (⟨"TurnedTablets$Cloth", "start", "(LTurnedTablets$Loom;)V"⟩, prog_2_method_2_code, 3, none, { frames := 1, cells := 0, slots := 0, locals := 23 }),
  (⟨"TurnedTablets", "lay", "()I"⟩, prog_1_method_5_code, 1, (some .int), { frames := 10, cells := 0, slots := 0, locals := 218 }),
  (⟨"java/lang/AbstractStringBuilder", "isLatin1", "()Z"⟩, prog_8_method_68_code, 1, (some .boolean), { frames := 0, cells := 0, slots := 0, locals := 0 }),
  (⟨"java/lang/AbstractStringBuilder", "setLength", "(I)V"⟩, prog_8_method_13_code, 2, none, { frames := 4, cells := 1, slots := 96, locals := 91 }),
  (⟨"java/lang/StringBuilder", "setLength", "(I)V"⟩, prog_13_method_89_code, 2, none, { frames := 5, cells := 1, slots := 96, locals := 112 }),
  (⟨"TurnedTablets", "<init>", "()V"⟩, prog_1_method_1_code, 2, none, { frames := 11, cells := 62, slots := 18219, locals := 238 }),
  (⟨"TurnedTablets", "addTops", "(II)I"⟩, prog_1_method_44_code, 2, (some .int), { frames := 0, cells := 0, slots := 0, locals := 0 }),
  (⟨"TurnedTablets$Cloth", "copyFrom", "(LTurnedTablets$Cloth;)V"⟩, prog_2_method_3_code, 2, none, { frames := 1, cells := 0, slots := 0, locals := 26 }),
  (⟨"TurnedTablets", "remember", "()V"⟩, prog_1_method_40_code, 1, none, { frames := 2, cells := 0, slots := 0, locals := 47 }),
  (⟨"TurnedTablets$Loom", "pick", "(I)I"⟩, prog_3_method_9_code, 2, (some .int), { frames := 0, cells := 0, slots := 0, locals := 0 }),
  (⟨"TurnedTablets$Loom", "pickPack", "(I)I"⟩, prog_3_method_10_code, 2, (some .int), { frames := 1, cells := 0, slots := 0, locals := 21 }),
  (⟨"TurnedTablets$Loom", "pickWay", "(I)I"⟩, prog_3_method_11_code, 2, (some .int), { frames := 1, cells := 0, slots := 0, locals := 21 }),
  (⟨"TurnedTablets$Loom", "members", "(I)I"⟩, prog_3_method_7_code, 2, (some .int), { frames := 0, cells := 0, slots := 0, locals := 0 }),
  (⟨"TurnedTablets$Loom", "isMember", "(II)Z"⟩, prog_3_method_8_code, 3, (some .boolean), { frames := 1, cells := 0, slots := 0, locals := 21 }),
  (⟨"TurnedTablets$Loom", "kind", "(I)I"⟩, prog_3_method_4_code, 2, (some .int), { frames := 0, cells := 0, slots := 0, locals := 0 })]
def mv_m2 : List mv_Mt := [
  (⟨"TurnedTablets$Loom", "quarters", "(II)I"⟩, prog_3_method_16_code, 4, (some .int), { frames := 1, cells := 0, slots := 0, locals := 21 }),
  (⟨"TurnedTablets$Cloth", "get", "(II)I"⟩, prog_2_method_4_code, 3, (some .int), { frames := 0, cells := 0, slots := 0, locals := 0 }),
  (⟨"TurnedTablets$Cloth", "outcome", "(LTurnedTablets$Loom;II)I"⟩, prog_2_method_10_code, 5, (some .int), { frames := 2, cells := 0, slots := 0, locals := 44 }),
  (⟨"TurnedTablets$Cloth", "turnTablet", "(LTurnedTablets$Loom;II)I"⟩, prog_2_method_12_code, 6, (some .int), { frames := 3, cells := 0, slots := 0, locals := 68 }),
  (⟨"TurnedTablets$Cloth", "turnPack", "(LTurnedTablets$Loom;II)I"⟩, prog_2_method_13_code, 7, (some .int), { frames := 4, cells := 0, slots := 0, locals := 93 }),
  (⟨"TurnedTablets", "topOf", "(II)I"⟩, prog_1_method_45_code, 2, (some .int), { frames := 0, cells := 0, slots := 0, locals := 0 }),
  (⟨"TurnedTablets$Cloth", "tops", "()I"⟩, prog_2_method_8_code, 3, (some .int), { frames := 1, cells := 0, slots := 0, locals := 22 }),
  (⟨"TurnedTablets$Loom", "coloursOf", "(I)I"⟩, prog_3_method_18_code, 4, (some .int), { frames := 1, cells := 0, slots := 0, locals := 22 }),
  (⟨"TurnedTablets$Cloth", "slant", "(I)I"⟩, prog_2_method_6_code, 3, (some .int), { frames := 1, cells := 0, slots := 0, locals := 22 }),
  (⟨"TurnedTablets$Cloth", "slants", "(I)I"⟩, prog_2_method_7_code, 4, (some .int), { frames := 2, cells := 0, slots := 0, locals := 44 }),
  (⟨"TurnedTablets$Cloth", "weavePick", "(LTurnedTablets$Loom;II)I"⟩, prog_2_method_14_code, 6, (some .int), { frames := 5, cells := 0, slots := 0, locals := 119 }),
  (⟨"TurnedTablets", "again", "()I"⟩, prog_1_method_13_code, 3, (some .int), { frames := 6, cells := 0, slots := 0, locals := 144 }),
  (⟨"TurnedTablets", "allPacks", "()I"⟩, prog_1_method_39_code, 1, (some .int), { frames := 0, cells := 0, slots := 0, locals := 0 }),
  (⟨"TurnedTablets$Loom", "areColours", "(I)Z"⟩, prog_3_method_20_code, 4, (some .boolean), { frames := 0, cells := 0, slots := 0, locals := 0 }),
  (⟨"TurnedTablets$Loom", "shows", "(II)Z"⟩, prog_3_method_19_code, 5, (some .boolean), { frames := 1, cells := 0, slots := 0, locals := 22 }),
  (⟨"TurnedTablets", "amiss", "(I)I"⟩, prog_1_method_30_code, 5, (some .int), { frames := 2, cells := 0, slots := 0, locals := 46 }),
  (⟨"TurnedTablets", "back", "()I"⟩, prog_1_method_34_code, 1, (some .int), { frames := 2, cells := 0, slots := 0, locals := 47 }),
  (⟨"TurnedTablets", "drawOf", "(II)I"⟩, prog_1_method_41_code, 4, (some .int), { frames := 0, cells := 0, slots := 0, locals := 0 }),
  (⟨"TurnedTablets", "combDrawn", "(I)V"⟩, prog_1_method_42_code, 2, none, { frames := 1, cells := 0, slots := 0, locals := 23 }),
  (⟨"TurnedTablets", "bands", "(III)I"⟩, prog_1_method_32_code, 8, (some .int), { frames := 6, cells := 0, slots := 0, locals := 144 }),
  (⟨"TurnedTablets$Loom", "step", "(II)I"⟩, prog_3_method_17_code, 5, (some .int), { frames := 2, cells := 0, slots := 0, locals := 44 }),
  (⟨"TurnedTablets$Search", "takeSteps", "(LTurnedTablets$Loom;)I"⟩, prog_5_method_2_code, 3, (some .int), { frames := 3, cells := 0, slots := 0, locals := 68 }),
  (⟨"TurnedTablets$Search", "enlist", "(II)V"⟩, prog_5_method_6_code, 3, none, { frames := 0, cells := 0, slots := 0, locals := 0 }),
  (⟨"TurnedTablets$Search", "startList", "(II)V"⟩, prog_5_method_5_code, 3, none, { frames := 1, cells := 0, slots := 0, locals := 23 }),
  (⟨"TurnedTablets$Search", "onBy", "(II)I"⟩, prog_5_method_4_code, 3, (some .int), { frames := 1, cells := 0, slots := 0, locals := 21 }),
  (⟨"TurnedTablets$Search", "markOf", "(I)I"⟩, prog_5_method_7_code, 2, (some .int), { frames := 0, cells := 0, slots := 0, locals := 0 }),
  (⟨"TurnedTablets$Search", "spread", "(II)V"⟩, prog_5_method_12_code, 7, none, { frames := 1, cells := 0, slots := 0, locals := 22 }),
  (⟨"TurnedTablets$Search", "reach", "(LTurnedTablets$Loom;II)V"⟩, prog_5_method_11_code, 6, none, { frames := 4, cells := 0, slots := 0, locals := 90 }),
  (⟨"TurnedTablets$Loom", "firstAlikeOf", "(I)I"⟩, prog_3_method_21_code, 4, (some .int), { frames := 1, cells := 0, slots := 0, locals := 21 }),
  (⟨"TurnedTablets$Search", "countRows", "(LTurnedTablets$Loom;)I"⟩, prog_5_method_14_code, 4, (some .int), { frames := 2, cells := 0, slots := 0, locals := 44 })]
def mv_m3 : List mv_Mt := [
  (⟨"TurnedTablets", "can", "()I"⟩, prog_1_method_24_code, 1, (some .int), { frames := 5, cells := 0, slots := 0, locals := 115 }),
  (⟨"TurnedTablets", "isTablet", "(I)Z"⟩, prog_1_method_36_code, 2, (some .boolean), { frames := 0, cells := 0, slots := 0, locals := 0 }),
  (⟨"TurnedTablets", "comb", "(I)I"⟩, prog_1_method_17_code, 3, (some .int), { frames := 3, cells := 0, slots := 0, locals := 67 }),
  (⟨"TurnedTablets", "commonDivisor", "(II)I"⟩, prog_1_method_43_code, 6, (some .int), { frames := 0, cells := 0, slots := 0, locals := 0 }),
  (⟨"TurnedTablets$Cloth", "longFloats", "(I)I"⟩, prog_2_method_9_code, 4, (some .int), { frames := 1, cells := 0, slots := 0, locals := 22 }),
  (⟨"TurnedTablets", "count", "(I)I"⟩, prog_1_method_35_code, 2, (some .int), { frames := 2, cells := 0, slots := 0, locals := 45 }),
  (⟨"TurnedTablets", "cut", "()I"⟩, prog_1_method_18_code, 2, (some .int), { frames := 3, cells := 0, slots := 0, locals := 67 }),
  (⟨"TurnedTablets", "draft", "(I)I"⟩, prog_1_method_9_code, 2, (some .int), { frames := 1, cells := 0, slots := 0, locals := 21 }),
  (⟨"TurnedTablets", "fault", "()I"⟩, prog_1_method_4_code, 1, (some .int), { frames := 10, cells := 0, slots := 0, locals := 218 }),
  (⟨"TurnedTablets$Search", "seek", "(LTurnedTablets$Loom;II)I"⟩, prog_5_method_3_code, 8, (some .int), { frames := 4, cells := 0, slots := 0, locals := 90 }),
  (⟨"TurnedTablets$Search", "comesFrom", "(I)I"⟩, prog_5_method_8_code, 3, (some .int), { frames := 1, cells := 0, slots := 0, locals := 21 }),
  (⟨"TurnedTablets$Search", "stepsTo", "(I)I"⟩, prog_5_method_9_code, 4, (some .int), { frames := 2, cells := 0, slots := 0, locals := 43 }),
  (⟨"TurnedTablets$Search", "pickAt", "(II)I"⟩, prog_5_method_10_code, 5, (some .int), { frames := 2, cells := 0, slots := 0, locals := 43 }),
  (⟨"TurnedTablets", "fewest", "(II)I"⟩, prog_1_method_23_code, 5, (some .int), { frames := 5, cells := 0, slots := 0, locals := 117 }),
  (⟨"TurnedTablets", "flip", "(I)I"⟩, prog_1_method_16_code, 2, (some .int), { frames := 3, cells := 0, slots := 0, locals := 67 }),
  (⟨"TurnedTablets", "forget", "()I"⟩, prog_1_method_27_code, 2, (some .int), { frames := 0, cells := 0, slots := 0, locals := 0 }),
  (⟨"TurnedTablets", "hole", "(II)I"⟩, prog_1_method_7_code, 3, (some .int), { frames := 1, cells := 0, slots := 0, locals := 22 }),
  (⟨"TurnedTablets", "isPack", "(I)Z"⟩, prog_1_method_37_code, 2, (some .boolean), { frames := 0, cells := 0, slots := 0, locals := 0 }),
  (⟨"TurnedTablets", "isWay", "(I)Z"⟩, prog_1_method_38_code, 1, (some .boolean), { frames := 0, cells := 0, slots := 0, locals := 0 }),
  (⟨"TurnedTablets", "jammed", "()I"⟩, prog_1_method_22_code, 3, (some .int), { frames := 5, cells := 0, slots := 0, locals := 119 }),
  (⟨"TurnedTablets", "keep", "()I"⟩, prog_1_method_33_code, 1, (some .int), { frames := 2, cells := 0, slots := 0, locals := 47 }),
  (⟨"TurnedTablets$Search", "keepThose", "(LTurnedTablets$Loom;I)V"⟩, prog_5_method_18_code, 4, none, { frames := 2, cells := 0, slots := 0, locals := 46 }),
  (⟨"TurnedTablets$Search", "goBack", "(I)V"⟩, prog_5_method_20_code, 5, none, { frames := 2, cells := 0, slots := 0, locals := 43 }),
  (⟨"TurnedTablets$Search", "sumOfMarks", "()I"⟩, prog_5_method_16_code, 3, (some .int), { frames := 0, cells := 0, slots := 0, locals := 0 }),
  (⟨"TurnedTablets$Search", "countStarts", "(LTurnedTablets$Loom;[II)I"⟩, prog_5_method_19_code, 7, (some .int), { frames := 4, cells := 0, slots := 0, locals := 90 }),
  (⟨"TurnedTablets", "lies", "()I"⟩, prog_1_method_29_code, 1, (some .int), { frames := 5, cells := 0, slots := 0, locals := 116 }),
  (⟨"TurnedTablets$Search", "reaches", "(LTurnedTablets$Loom;III)Z"⟩, prog_5_method_13_code, 6, (some .boolean), { frames := 5, cells := 0, slots := 0, locals := 115 }),
  (⟨"java/lang/Integer", "bitCount", "(I)I"⟩, prog_10_method_49_code, 1, (some .int), { frames := 0, cells := 0, slots := 0, locals := 0 }),
  (⟨"TurnedTablets", "needs", "(I)I"⟩, prog_1_method_25_code, 5, (some .int), { frames := 6, cells := 0, slots := 0, locals := 140 }),
  (⟨"TurnedTablets", "pack", "(I)I"⟩, prog_1_method_8_code, 2, (some .int), { frames := 1, cells := 0, slots := 0, locals := 21 })]
def mv_m4 : List mv_Mt := [
  (⟨"TurnedTablets", "round", "()I"⟩, prog_1_method_20_code, 3, (some .int), { frames := 3, cells := 0, slots := 0, locals := 68 }),
  (⟨"TurnedTablets$Cloth", "rowColours", "(I)I"⟩, prog_2_method_16_code, 2, (some .int), { frames := 0, cells := 0, slots := 0, locals := 0 }),
  (⟨"TurnedTablets$Cloth", "rowSlants", "(I)I"⟩, prog_2_method_17_code, 2, (some .int), { frames := 0, cells := 0, slots := 0, locals := 0 }),
  (⟨"TurnedTablets", "row", "(II)I"⟩, prog_1_method_11_code, 3, (some .int), { frames := 1, cells := 0, slots := 0, locals := 21 }),
  (⟨"TurnedTablets", "see", "(I)I"⟩, prog_1_method_26_code, 2, (some .int), { frames := 1, cells := 0, slots := 0, locals := 23 }),
  (⟨"TurnedTablets$Cloth", "showsTurn", "(LTurnedTablets$Loom;II)Z"⟩, prog_2_method_11_code, 6, (some .boolean), { frames := 3, cells := 0, slots := 0, locals := 68 }),
  (⟨"TurnedTablets", "slips", "(IIII)I"⟩, prog_1_method_31_code, 8, (some .int), { frames := 4, cells := 0, slots := 0, locals := 93 }),
  (⟨"TurnedTablets", "tablet", "(II)I"⟩, prog_1_method_6_code, 3, (some .int), { frames := 2, cells := 0, slots := 0, locals := 44 }),
  (⟨"TurnedTablets", "top", "(I)I"⟩, prog_1_method_10_code, 2, (some .int), { frames := 3, cells := 0, slots := 0, locals := 67 }),
  (⟨"TurnedTablets", "turn", "(II)I"⟩, prog_1_method_15_code, 3, (some .int), { frames := 4, cells := 0, slots := 0, locals := 93 }),
  (⟨"TurnedTablets", "twist", "(I)I"⟩, prog_1_method_21_code, 4, (some .int), { frames := 2, cells := 0, slots := 0, locals := 44 }),
  (⟨"TurnedTablets", "undo", "()I"⟩, prog_1_method_19_code, 1, (some .int), { frames := 2, cells := 0, slots := 0, locals := 47 }),
  (⟨"TurnedTablets$Cloth", "unweaveRow", "()V"⟩, prog_2_method_15_code, 1, none, { frames := 1, cells := 0, slots := 0, locals := 26 }),
  (⟨"TurnedTablets", "unweave", "()I"⟩, prog_1_method_14_code, 1, (some .int), { frames := 3, cells := 0, slots := 0, locals := 67 }),
  (⟨"TurnedTablets$Search", "goOn", "(I)V"⟩, prog_5_method_17_code, 5, none, { frames := 2, cells := 0, slots := 0, locals := 43 }),
  (⟨"TurnedTablets$Search", "countWays", "(LTurnedTablets$Loom;I[II)I"⟩, prog_5_method_15_code, 7, (some .int), { frames := 4, cells := 0, slots := 0, locals := 90 }),
  (⟨"TurnedTablets", "ways", "()I"⟩, prog_1_method_28_code, 1, (some .int), { frames := 5, cells := 0, slots := 0, locals := 116 }),
  (⟨"TurnedTablets", "weave", "(II)I"⟩, prog_1_method_12_code, 3, (some .int), { frames := 6, cells := 0, slots := 0, locals := 144 }),
  (⟨"TurnedTablets", "wipe", "()I"⟩, prog_1_method_3_code, 2, (some .int), { frames := 6, cells := 1, slots := 96, locals := 133 }),
  (⟨"java/lang/StringLatin1", "canEncode", "(C)Z"⟩, prog_14_method_3_code, 1, (some .boolean), { frames := 0, cells := 0, slots := 0, locals := 0 }),
  (⟨"java/lang/AbstractStringBuilder", "append", "(C)Ljava/lang/AbstractStringBuilder;"⟩, prog_8_method_31_code, 2, (some (.object "java/lang/AbstractStringBuilder")), { frames := 4, cells := 1, slots := 96, locals := 91 }),
  (⟨"java/lang/StringBuilder", "append", "(C)Ljava/lang/StringBuilder;"⟩, prog_13_method_14_code, 2, (some (.object "java/lang/StringBuilder")), { frames := 5, cells := 1, slots := 96, locals := 112 }),
  (⟨"TurnedTablets", "write", "(I)I"⟩, prog_1_method_2_code, 2, (some .int), { frames := 6, cells := 1, slots := 96, locals := 133 }),
  (⟨"TurnedTabletsModel", "sign", "(I)Z"⟩, prog_7_method_8_code, 3, (some .boolean), { frames := 0, cells := 0, slots := 0, locals := 0 }),
  (⟨"TurnedTabletsModel", "in", "(JJJ)Z"⟩, prog_7_method_2_code, 6, (some .boolean), { frames := 0, cells := 0, slots := 0, locals := 0 }),
  (⟨"TurnedTabletsModel", "isFigure", "()Z"⟩, prog_7_method_7_code, 1, (some .boolean), { frames := 1, cells := 0, slots := 0, locals := 25 }),
  (⟨"TurnedTabletsModel", "readsNumber", "(II)Z"⟩, prog_7_method_9_code, 4, (some .boolean), { frames := 2, cells := 0, slots := 0, locals := 45 }),
  (⟨"TurnedTabletsModel", "readsTablet", "()Z"⟩, prog_7_method_10_code, 3, (some .boolean), { frames := 3, cells := 0, slots := 0, locals := 68 }),
  (⟨"TurnedTabletsModel", "has", "(II)Z"⟩, prog_7_method_3_code, 2, (some .boolean), { frames := 0, cells := 0, slots := 0, locals := 0 }),
  (⟨"TurnedTabletsModel", "readsPack", "()Z"⟩, prog_7_method_11_code, 3, (some .boolean), { frames := 2, cells := 0, slots := 0, locals := 45 })]
def mv_m5 : List mv_Mt := [
  (⟨"TurnedTabletsModel", "readsMost", "()Z"⟩, prog_7_method_12_code, 2, (some .boolean), { frames := 3, cells := 0, slots := 0, locals := 68 }),
  (⟨"TurnedTabletsModel", "readsDraft", "()Z"⟩, prog_7_method_13_code, 4, (some .boolean), { frames := 2, cells := 0, slots := 0, locals := 45 }),
  (⟨"TurnedTabletsModel", "readsItem", "()Z"⟩, prog_7_method_14_code, 2, (some .boolean), { frames := 4, cells := 0, slots := 0, locals := 90 }),
  (⟨"TurnedTabletsModel", "faultAt", "()I"⟩, prog_7_method_15_code, 2, (some .int), { frames := 5, cells := 0, slots := 0, locals := 111 }),
  (⟨"TurnedTabletsModel", "lay", "()I"⟩, prog_7_method_17_code, 2, (some .int), { frames := 6, cells := 0, slots := 0, locals := 132 }),
  (⟨"TurnedTabletsModel", "<init>", "()V"⟩, prog_7_method_1_code, 2, none, { frames := 7, cells := 23, slots := 42770, locals := 153 }),
  (⟨"TurnedTabletsModel", "copyLoom", "(II)V"⟩, prog_7_method_35_code, 4, none, { frames := 0, cells := 0, slots := 0, locals := 0 }),
  (⟨"TurnedTabletsModel", "keepPast", "()V"⟩, prog_7_method_36_code, 2, none, { frames := 1, cells := 0, slots := 0, locals := 23 }),
  (⟨"TurnedTabletsModel", "quarters", "(II)I"⟩, prog_7_method_21_code, 3, (some .int), { frames := 0, cells := 0, slots := 0, locals := 0 }),
  (⟨"TurnedTabletsModel", "jams", "(III)Z"⟩, prog_7_method_22_code, 5, (some .boolean), { frames := 1, cells := 0, slots := 0, locals := 25 }),
  (⟨"TurnedTabletsModel", "turns", "(III)Z"⟩, prog_7_method_23_code, 6, (some .boolean), { frames := 2, cells := 0, slots := 0, locals := 49 }),
  (⟨"TurnedTabletsModel", "picks", "(III)I"⟩, prog_7_method_27_code, 9, (some .int), { frames := 3, cells := 0, slots := 0, locals := 74 }),
  (⟨"TurnedTabletsModel", "coloursAt", "(I)I"⟩, prog_7_method_24_code, 4, (some .int), { frames := 0, cells := 0, slots := 0, locals := 0 }),
  (⟨"TurnedTabletsModel", "slantOf", "(II)I"⟩, prog_7_method_25_code, 3, (some .int), { frames := 0, cells := 0, slots := 0, locals := 0 }),
  (⟨"TurnedTabletsModel", "slantsAt", "(I)I"⟩, prog_7_method_26_code, 4, (some .int), { frames := 1, cells := 0, slots := 0, locals := 22 }),
  (⟨"TurnedTabletsModel", "weaves", "(III)I"⟩, prog_7_method_28_code, 6, (some .int), { frames := 4, cells := 0, slots := 0, locals := 102 }),
  (⟨"TurnedTabletsModel", "again", "()I"⟩, prog_7_method_38_code, 2, (some .int), { frames := 5, cells := 0, slots := 0, locals := 127 }),
  (⟨"TurnedTabletsModel", "areColours", "(I)Z"⟩, prog_7_method_56_code, 4, (some .boolean), { frames := 1, cells := 0, slots := 0, locals := 25 }),
  (⟨"TurnedTabletsModel", "firstLike", "(II)I"⟩, prog_7_method_49_code, 4, (some .int), { frames := 0, cells := 0, slots := 0, locals := 0 }),
  (⟨"TurnedTabletsModel", "layHoles", "()V"⟩, prog_7_method_50_code, 5, none, { frames := 1, cells := 0, slots := 0, locals := 23 }),
  (⟨"TurnedTabletsModel", "holesNow", "()I"⟩, prog_7_method_52_code, 3, (some .int), { frames := 0, cells := 0, slots := 0, locals := 0 }),
  (⟨"TurnedTabletsModel", "plus", "(II)I"⟩, prog_7_method_51_code, 2, (some .int), { frames := 0, cells := 0, slots := 0, locals := 0 }),
  (⟨"TurnedTabletsModel", "amiss", "(I)I"⟩, prog_7_method_67_code, 4, (some .int), { frames := 2, cells := 0, slots := 0, locals := 48 }),
  (⟨"TurnedTabletsModel", "back", "()I"⟩, prog_7_method_71_code, 1, (some .int), { frames := 1, cells := 0, slots := 0, locals := 23 }),
  (⟨"TurnedTabletsModel", "bands", "(III)I"⟩, prog_7_method_69_code, 11, (some .int), { frames := 5, cells := 0, slots := 0, locals := 127 }),
  (⟨"TurnedTabletsModel", "bits", "(I)I"⟩, prog_7_method_4_code, 3, (some .int), { frames := 0, cells := 0, slots := 0, locals := 0 }),
  (⟨"TurnedTabletsModel", "everyPack", "()I"⟩, prog_7_method_57_code, 1, (some .int), { frames := 0, cells := 0, slots := 0, locals := 0 }),
  (⟨"TurnedTabletsModel", "comeTo", "(III)V"⟩, prog_7_method_53_code, 4, none, { frames := 0, cells := 0, slots := 0, locals := 0 }),
  (⟨"TurnedTabletsModel", "goOnFrom", "(II)V"⟩, prog_7_method_54_code, 4, none, { frames := 1, cells := 0, slots := 0, locals := 23 }),
  (⟨"TurnedTabletsModel", "goTo", "(II)I"⟩, prog_7_method_55_code, 4, (some .int), { frames := 2, cells := 0, slots := 0, locals := 46 })]
def mv_m6 : List mv_Mt := [
  (⟨"TurnedTabletsModel", "can", "()I"⟩, prog_7_method_59_code, 4, (some .int), { frames := 3, cells := 0, slots := 0, locals := 69 }),
  (⟨"TurnedTabletsModel", "isTablet", "(I)Z"⟩, prog_7_method_18_code, 2, (some .boolean), { frames := 1, cells := 0, slots := 0, locals := 25 }),
  (⟨"TurnedTabletsModel", "comb", "(I)I"⟩, prog_7_method_42_code, 3, (some .int), { frames := 2, cells := 0, slots := 0, locals := 46 }),
  (⟨"TurnedTabletsModel", "floating", "()I"⟩, prog_7_method_72_code, 3, (some .int), { frames := 0, cells := 0, slots := 0, locals := 0 }),
  (⟨"TurnedTabletsModel", "count", "(I)I"⟩, prog_7_method_73_code, 2, (some .int), { frames := 1, cells := 0, slots := 0, locals := 22 }),
  (⟨"TurnedTabletsModel", "cut", "()I"⟩, prog_7_method_43_code, 2, (some .int), { frames := 2, cells := 0, slots := 0, locals := 44 }),
  (⟨"TurnedTabletsModel", "draft", "(I)I"⟩, prog_7_method_32_code, 2, (some .int), { frames := 0, cells := 0, slots := 0, locals := 0 }),
  (⟨"TurnedTabletsModel", "fault", "()I"⟩, prog_7_method_16_code, 1, (some .int), { frames := 6, cells := 0, slots := 0, locals := 132 }),
  (⟨"TurnedTabletsModel", "fewest", "(II)I"⟩, prog_7_method_58_code, 7, (some .int), { frames := 3, cells := 0, slots := 0, locals := 69 }),
  (⟨"TurnedTabletsModel", "flip", "(I)I"⟩, prog_7_method_41_code, 2, (some .int), { frames := 2, cells := 0, slots := 0, locals := 46 }),
  (⟨"TurnedTabletsModel", "forget", "()I"⟩, prog_7_method_62_code, 2, (some .int), { frames := 0, cells := 0, slots := 0, locals := 0 }),
  (⟨"TurnedTabletsModel", "gathers", "(I)I"⟩, prog_7_method_45_code, 4, (some .int), { frames := 1, cells := 0, slots := 0, locals := 22 }),
  (⟨"TurnedTabletsModel", "hole", "(II)I"⟩, prog_7_method_30_code, 3, (some .int), { frames := 2, cells := 0, slots := 0, locals := 46 }),
  (⟨"TurnedTabletsModel", "isPack", "(I)Z"⟩, prog_7_method_19_code, 2, (some .boolean), { frames := 1, cells := 0, slots := 0, locals := 25 }),
  (⟨"TurnedTabletsModel", "isWay", "(I)Z"⟩, prog_7_method_20_code, 1, (some .boolean), { frames := 1, cells := 0, slots := 0, locals := 25 }),
  (⟨"TurnedTabletsModel", "jammed", "()I"⟩, prog_7_method_48_code, 4, (some .int), { frames := 4, cells := 0, slots := 0, locals := 102 }),
  (⟨"TurnedTabletsModel", "keep", "()I"⟩, prog_7_method_70_code, 1, (some .int), { frames := 1, cells := 0, slots := 0, locals := 23 }),
  (⟨"TurnedTabletsModel", "waysOn", "(II)I"⟩, prog_7_method_64_code, 6, (some .int), { frames := 1, cells := 0, slots := 0, locals := 21 }),
  (⟨"TurnedTabletsModel", "layWays", "()V"⟩, prog_7_method_63_code, 3, none, { frames := 2, cells := 0, slots := 0, locals := 47 }),
  (⟨"TurnedTabletsModel", "lies", "()I"⟩, prog_7_method_66_code, 3, (some .int), { frames := 3, cells := 0, slots := 0, locals := 69 }),
  (⟨"TurnedTabletsModel", "needs", "(I)I"⟩, prog_7_method_60_code, 5, (some .int), { frames := 3, cells := 0, slots := 0, locals := 69 }),
  (⟨"TurnedTabletsModel", "pack", "(I)I"⟩, prog_7_method_31_code, 2, (some .int), { frames := 2, cells := 0, slots := 0, locals := 46 }),
  (⟨"TurnedTabletsModel", "round", "()I"⟩, prog_7_method_46_code, 5, (some .int), { frames := 2, cells := 0, slots := 0, locals := 45 }),
  (⟨"TurnedTabletsModel", "row", "(II)I"⟩, prog_7_method_34_code, 3, (some .int), { frames := 1, cells := 0, slots := 0, locals := 25 }),
  (⟨"TurnedTabletsModel", "see", "(I)I"⟩, prog_7_method_61_code, 2, (some .int), { frames := 2, cells := 0, slots := 0, locals := 48 }),
  (⟨"TurnedTabletsModel", "slips", "(IIII)I"⟩, prog_7_method_68_code, 11, (some .int), { frames := 4, cells := 0, slots := 0, locals := 102 }),
  (⟨"TurnedTabletsModel", "tablet", "(II)I"⟩, prog_7_method_29_code, 3, (some .int), { frames := 2, cells := 0, slots := 0, locals := 46 }),
  (⟨"TurnedTabletsModel", "top", "(I)I"⟩, prog_7_method_33_code, 2, (some .int), { frames := 2, cells := 0, slots := 0, locals := 45 }),
  (⟨"TurnedTabletsModel", "turn", "(II)I"⟩, prog_7_method_40_code, 3, (some .int), { frames := 3, cells := 0, slots := 0, locals := 74 }),
  (⟨"TurnedTabletsModel", "twist", "(I)I"⟩, prog_7_method_47_code, 2, (some .int), { frames := 2, cells := 0, slots := 0, locals := 46 })]
def mv_m7 : List mv_Mt := [
  (⟨"TurnedTabletsModel", "undo", "()I"⟩, prog_7_method_44_code, 1, (some .int), { frames := 1, cells := 0, slots := 0, locals := 23 }),
  (⟨"TurnedTabletsModel", "unweave", "()I"⟩, prog_7_method_39_code, 2, (some .int), { frames := 2, cells := 0, slots := 0, locals := 44 }),
  (⟨"TurnedTabletsModel", "ways", "()I"⟩, prog_7_method_65_code, 1, (some .int), { frames := 3, cells := 0, slots := 0, locals := 69 }),
  (⟨"TurnedTabletsModel", "weave", "(II)I"⟩, prog_7_method_37_code, 3, (some .int), { frames := 5, cells := 0, slots := 0, locals := 127 }),
  (⟨"TurnedTabletsModel", "wipe", "()I"⟩, prog_7_method_6_code, 2, (some .int), { frames := 0, cells := 0, slots := 0, locals := 0 }),
  (⟨"TurnedTabletsModel", "write", "(I)I"⟩, prog_7_method_5_code, 2, (some .int), { frames := 1, cells := 0, slots := 0, locals := 25 })]
def mv_meth : List mv_Mt := mv_m0 ++ (mv_m1 ++ (mv_m2 ++ (mv_m3 ++ (mv_m4 ++ (mv_m5 ++ (mv_m6 ++ (mv_m7)))))))
