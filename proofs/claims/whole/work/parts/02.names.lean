/-! names, tables, decode rows: printed by gen.py out of the claim's listing -/
def ex_TX : u_T := fun k => match k with
  | 0 => ("EpochCache", "capacity", "I", true)
  | 1 => ("EpochCache", "store", "[I", true)
  | 2 => ("EpochCache", "numbers", "[I", true)
  | 3 => ("EpochCache", "held", "LEpochCache$Placement;", true)
  | 4 => ("EpochCache", "journal", "LEpochCache$Placement;", true)
  | 5 => ("EpochCache", "r1", "LEpochCache$BlockList;", true)
  | 6 => ("EpochCache", "r2", "LEpochCache$BlockList;", true)
  | 7 => ("EpochCache", "g1", "LEpochCache$BlockList;", true)
  | 8 => ("EpochCache", "g2", "LEpochCache$BlockList;", true)
  | 9 => ("EpochCache", "lists", "[LEpochCache$BlockList;", true)
  | 10 => ("EpochCache", "goal", "I", false)
  | 11 => ("EpochCache", "presentEpoch", "I", false)
  | 12 => ("EpochCache", "drains", "I", false)
  | _ => ("EpochCache", "latestWasHit", "Z", false)
def ex_tX : Nat → FieldType := fun k => match k with
  | 0 => .int
  | 1 => .array .int
  | 2 => .array .int
  | 3 => .object "EpochCache$Placement"
  | 4 => .object "EpochCache$Placement"
  | 5 => .object "EpochCache$BlockList"
  | 6 => .object "EpochCache$BlockList"
  | 7 => .object "EpochCache$BlockList"
  | 8 => .object "EpochCache$BlockList"
  | 9 => .array (.object "EpochCache$BlockList")
  | 10 => .int
  | 11 => .int
  | 12 => .int
  | _ => .boolean
def ex_TP : u_T := fun k => match k with
  | 0 => ("EpochCache$Placement", "blocks", "[I", true)
  | _ => ("EpochCache$Placement", "epochs", "[I", true)
def ex_tP : Nat → FieldType := fun k => match k with
  | 0 => .array .int
  | _ => .array .int
def ex_TB : u_T := fun k => match k with
  | 0 => ("EpochCache$BlockList", "blocks", "[I", true)
  | _ => ("EpochCache$BlockList", "size", "I", false)
def ex_tB : Nat → FieldType := fun k => match k with
  | 0 => .array .int
  | _ => .int
def ex_TM : u_T := fun k => match k with
  | 0 => ("EpochCacheModel", "most", "I", true)
  | 1 => ("EpochCacheModel", "store", "[I", true)
  | 2 => ("EpochCacheModel", "numbers", "[I", true)
  | 3 => ("EpochCacheModel", "slots", "[I", true)
  | 4 => ("EpochCacheModel", "dirty", "[Z", true)
  | 5 => ("EpochCacheModel", "epochs", "[I", true)
  | 6 => ("EpochCacheModel", "lists", "[I", true)
  | 7 => ("EpochCacheModel", "since", "[I", true)
  | 8 => ("EpochCacheModel", "clock", "I", false)
  | 9 => ("EpochCacheModel", "aim", "I", false)
  | 10 => ("EpochCacheModel", "present", "I", false)
  | 11 => ("EpochCacheModel", "wasHit", "Z", false)
  | 12 => ("EpochCacheModel", "drains", "I", false)
  | 13 => ("EpochCacheModel", "named", "[I", true)
  | 14 => ("EpochCacheModel", "namedDirty", "[Z", true)
  | _ => ("EpochCacheModel", "namedEpochs", "[I", true)
def ex_tM : Nat → FieldType := fun k => match k with
  | 0 => .int
  | 1 => .array .int
  | 2 => .array .int
  | 3 => .array .int
  | 4 => .array .boolean
  | 5 => .array .int
  | 6 => .array .int
  | 7 => .array .int
  | 8 => .int
  | 9 => .int
  | 10 => .int
  | 11 => .boolean
  | 12 => .int
  | 13 => .array .int
  | 14 => .array .boolean
  | _ => .array .int
abbrev ex_cl : List vw_C := [("EpochCache", ex_TX, 14), ("EpochCache$Placement", ex_TP, 2), ("EpochCache$BlockList", ex_TB, 2), ("EpochCacheModel", ex_TM, 16)]
def ex_ws : List Cond := lw_tbl.filter goodWord
abbrev ex_BL : String := "EpochCache$BlockList"
abbrev ex_bl : Nat := 2
abbrev ex_ny : Nat := 87
def ex_cn (c : Nat) : String := match c with
  | 0 => "EpochCache"
  | 1 => "EpochCache$Placement"
  | 2 => "EpochCache$BlockList"
  | 3 => "EpochCacheModel"
  | _ => "EpochCacheLaw"
def ex_cod (y : Nat) : ByteArray := match y with
  | 0 => prog_2_method_1_code
  | 1 => prog_2_method_2_code
  | 2 => prog_2_method_3_code
  | 3 => prog_2_method_4_code
  | 4 => prog_2_method_5_code
  | 5 => prog_2_method_6_code
  | 6 => prog_2_method_7_code
  | 7 => prog_3_method_1_code
  | 8 => prog_3_method_2_code
  | 9 => prog_3_method_3_code
  | 10 => prog_3_method_4_code
  | 11 => prog_3_method_5_code
  | 12 => prog_3_method_6_code
  | 13 => prog_3_method_7_code
  | 14 => prog_1_method_1_code
  | 15 => prog_1_method_2_code
  | 16 => prog_1_method_3_code
  | 17 => prog_1_method_4_code
  | 18 => prog_1_method_5_code
  | 19 => prog_1_method_6_code
  | 20 => prog_1_method_7_code
  | 21 => prog_1_method_8_code
  | 22 => prog_1_method_9_code
  | 23 => prog_1_method_10_code
  | 24 => prog_1_method_11_code
  | 25 => prog_1_method_12_code
  | 26 => prog_1_method_13_code
  | 27 => prog_1_method_14_code
  | 28 => prog_1_method_15_code
  | 29 => prog_1_method_16_code
  | 30 => prog_1_method_17_code
  | 31 => prog_1_method_18_code
  | 32 => prog_1_method_19_code
  | 33 => prog_1_method_20_code
  | 34 => prog_1_method_21_code
  | 35 => prog_1_method_22_code
  | 36 => prog_1_method_23_code
  | 37 => prog_1_method_24_code
  | 38 => prog_1_method_25_code
  | 39 => prog_1_method_26_code
  | 40 => prog_1_method_27_code
  | 41 => prog_1_method_28_code
  | 42 => prog_1_method_29_code
  | 43 => prog_1_method_30_code
  | 44 => prog_1_method_31_code
  | 45 => prog_1_method_32_code
  | 46 => prog_1_method_33_code
  | 47 => prog_1_method_34_code
  | 48 => prog_1_method_35_code
  | 49 => prog_5_method_1_code
  | 50 => prog_5_method_2_code
  | 51 => prog_5_method_3_code
  | 52 => prog_5_method_4_code
  | 53 => prog_5_method_5_code
  | 54 => prog_5_method_6_code
  | 55 => prog_5_method_7_code
  | 56 => prog_5_method_8_code
  | 57 => prog_5_method_9_code
  | 58 => prog_5_method_10_code
  | 59 => prog_5_method_11_code
  | 60 => prog_5_method_12_code
  | 61 => prog_5_method_13_code
  | 62 => prog_5_method_14_code
  | 63 => prog_5_method_15_code
  | 64 => prog_5_method_16_code
  | 65 => prog_5_method_17_code
  | 66 => prog_5_method_18_code
  | 67 => prog_5_method_19_code
  | 68 => prog_5_method_20_code
  | 69 => prog_5_method_21_code
  | 70 => prog_5_method_22_code
  | 71 => prog_5_method_23_code
  | 72 => prog_5_method_24_code
  | 73 => prog_5_method_25_code
  | 74 => prog_5_method_26_code
  | 75 => prog_5_method_27_code
  | 76 => prog_5_method_28_code
  | 77 => prog_5_method_29_code
  | 78 => prog_5_method_30_code
  | 79 => prog_5_method_31_code
  | 80 => prog_5_method_32_code
  | 81 => prog_5_method_33_code
  | 82 => prog_5_method_34_code
  | 83 => prog_5_method_35_code
  | 84 => prog_5_method_36_code
  | 85 => prog_5_method_37_code
  | 86 => method_2_code
  | _ => code
def ex_nam (y : Nat) : MethodName := match y with
  | 0 => ⟨"EpochCache$BlockList", "<init>", "()V"⟩
  | 1 => ⟨"EpochCache$BlockList", "size", "()I"⟩
  | 2 => ⟨"EpochCache$BlockList", "at", "(I)I"⟩
  | 3 => ⟨"EpochCache$BlockList", "has", "(I)Z"⟩
  | 4 => ⟨"EpochCache$BlockList", "add", "(I)V"⟩
  | 5 => ⟨"EpochCache$BlockList", "remove", "(I)V"⟩
  | 6 => ⟨"EpochCache$BlockList", "clear", "()V"⟩
  | 7 => ⟨"EpochCache$Placement", "<init>", "(I)V"⟩
  | 8 => ⟨"EpochCache$Placement", "empty", "(I)V"⟩
  | 9 => ⟨"EpochCache$Placement", "clear", "()V"⟩
  | 10 => ⟨"EpochCache$Placement", "become", "(LEpochCache$Placement;)V"⟩
  | 11 => ⟨"EpochCache$Placement", "slotOf", "(I)I"⟩
  | 12 => ⟨"EpochCache$Placement", "dirtyCount", "()I"⟩
  | 13 => ⟨"EpochCache$Placement", "firstDirty", "(I)I"⟩
  | 14 => ⟨"EpochCache", "<init>", "(I)V"⟩
  | 15 => ⟨"EpochCache", "read", "(I)I"⟩
  | 16 => ⟨"EpochCache", "write", "(II)I"⟩
  | 17 => ⟨"EpochCache", "flush", "()I"⟩
  | 18 => ⟨"EpochCache", "tick", "()I"⟩
  | 19 => ⟨"EpochCache", "detach", "()I"⟩
  | 20 => ⟨"EpochCache", "crash", "()I"⟩
  | 21 => ⟨"EpochCache", "lose", "()I"⟩
  | 22 => ⟨"EpochCache", "hit", "()Z"⟩
  | 23 => ⟨"EpochCache", "says", "(I)I"⟩
  | 24 => ⟨"EpochCache", "stored", "(I)I"⟩
  | 25 => ⟨"EpochCache", "slot", "(I)I"⟩
  | 26 => ⟨"EpochCache", "named", "(I)I"⟩
  | 27 => ⟨"EpochCache", "epoch", "(I)I"⟩
  | 28 => ⟨"EpochCache", "list", "(I)I"⟩
  | 29 => ⟨"EpochCache", "member", "(II)I"⟩
  | 30 => ⟨"EpochCache", "target", "()I"⟩
  | 31 => ⟨"EpochCache", "free", "()I"⟩
  | 32 => ⟨"EpochCache", "drained", "()I"⟩
  | 33 => ⟨"EpochCache", "isBlock", "(I)Z"⟩
  | 34 => ⟨"EpochCache", "numberOf", "(I)I"⟩
  | 35 => ⟨"EpochCache", "access", "(I)V"⟩
  | 36 => ⟨"EpochCache", "step", "(II)I"⟩
  | 37 => ⟨"EpochCache", "makeRoomForStranger", "(I)V"⟩
  | 38 => ⟨"EpochCache", "replaceFor", "(I)V"⟩
  | 39 => ⟨"EpochCache", "giveUp", "(I)V"⟩
  | 40 => ⟨"EpochCache", "bringInto", "(LEpochCache$BlockList;I)V"⟩
  | 41 => ⟨"EpochCache", "forgetLists", "()V"⟩
  | 42 => ⟨"EpochCache", "place", "(IIZ)I"⟩
  | 43 => ⟨"EpochCache", "newSlot", "()I"⟩
  | 44 => ⟨"EpochCache", "leastFree", "()I"⟩
  | 45 => ⟨"EpochCache", "isFree", "(I)Z"⟩
  | 46 => ⟨"EpochCache", "endEpoch", "()V"⟩
  | 47 => ⟨"EpochCache", "drainThrough", "(I)I"⟩
  | 48 => ⟨"EpochCache", "drain", "(I)V"⟩
  | 49 => ⟨"EpochCacheModel", "<init>", "(I)V"⟩
  | 50 => ⟨"EpochCacheModel", "isBlock", "(I)Z"⟩
  | 51 => ⟨"EpochCacheModel", "isFree", "(I)Z"⟩
  | 52 => ⟨"EpochCacheModel", "leastFree", "()I"⟩
  | 53 => ⟨"EpochCacheModel", "writeJournal", "()V"⟩
  | 54 => ⟨"EpochCacheModel", "flushed", "()I"⟩
  | 55 => ⟨"EpochCacheModel", "newSlot", "()I"⟩
  | 56 => ⟨"EpochCacheModel", "firstBelow", "(I)I"⟩
  | 57 => ⟨"EpochCacheModel", "drain", "(I)V"⟩
  | 58 => ⟨"EpochCacheModel", "drainBelow", "(I)I"⟩
  | 59 => ⟨"EpochCacheModel", "comes", "(II)V"⟩
  | 60 => ⟨"EpochCacheModel", "sizeOf", "(I)I"⟩
  | 61 => ⟨"EpochCacheModel", "nth", "(II)I"⟩
  | 62 => ⟨"EpochCacheModel", "giveUp", "(II)V"⟩
  | 63 => ⟨"EpochCacheModel", "replaceFor", "(I)V"⟩
  | 64 => ⟨"EpochCacheModel", "missed", "(I)V"⟩
  | 65 => ⟨"EpochCacheModel", "access", "(I)V"⟩
  | 66 => ⟨"EpochCacheModel", "read", "(I)I"⟩
  | 67 => ⟨"EpochCacheModel", "write", "(II)I"⟩
  | 68 => ⟨"EpochCacheModel", "flush", "()I"⟩
  | 69 => ⟨"EpochCacheModel", "tick", "()I"⟩
  | 70 => ⟨"EpochCacheModel", "empty", "()V"⟩
  | 71 => ⟨"EpochCacheModel", "dirties", "()I"⟩
  | 72 => ⟨"EpochCacheModel", "detach", "()I"⟩
  | 73 => ⟨"EpochCacheModel", "crash", "()I"⟩
  | 74 => ⟨"EpochCacheModel", "lose", "()I"⟩
  | 75 => ⟨"EpochCacheModel", "hit", "()Z"⟩
  | 76 => ⟨"EpochCacheModel", "says", "(I)I"⟩
  | 77 => ⟨"EpochCacheModel", "stored", "(I)I"⟩
  | 78 => ⟨"EpochCacheModel", "slot", "(I)I"⟩
  | 79 => ⟨"EpochCacheModel", "named", "(I)I"⟩
  | 80 => ⟨"EpochCacheModel", "epoch", "(I)I"⟩
  | 81 => ⟨"EpochCacheModel", "list", "(I)I"⟩
  | 82 => ⟨"EpochCacheModel", "member", "(II)I"⟩
  | 83 => ⟨"EpochCacheModel", "target", "()I"⟩
  | 84 => ⟨"EpochCacheModel", "free", "()I"⟩
  | 85 => ⟨"EpochCacheModel", "drained", "()I"⟩
  | 86 => ⟨"EpochCacheLaw", "cell", "([II)I"⟩
  | _ => ⟨"EpochCacheLaw", "law", "([I)Z"⟩
def ex_mxl (y : Nat) : Nat := match y with
  | 0 => 1
  | 1 => 1
  | 2 => 2
  | 3 => 3
  | 4 => 2
  | 6 => 1
  | 7 => 3
  | 8 => 2
  | 9 => 2
  | 10 => 3
  | 11 => 3
  | 12 => 3
  | 14 => 2
  | 15 => 2
  | 16 => 3
  | 17 => 1
  | 18 => 2
  | 19 => 2
  | 20 => 2
  | 21 => 2
  | 22 => 1
  | 23 => 2
  | 24 => 2
  | 25 => 2
  | 26 => 2
  | 27 => 3
  | 28 => 3
  | 29 => 3
  | 30 => 1
  | 31 => 3
  | 32 => 1
  | 33 => 1
  | 34 => 3
  | 35 => 2
  | 36 => 2
  | 37 => 5
  | 41 => 2
  | 42 => 6
  | 43 => 2
  | 44 => 2
  | 45 => 2
  | 46 => 1
  | 48 => 2
  | 49 => 3
  | 50 => 1
  | 52 => 2
  | 53 => 2
  | 54 => 1
  | 55 => 3
  | 57 => 2
  | 59 => 3
  | 61 => 6
  | 62 => 5
  | 63 => 3
  | 64 => 7
  | 65 => 3
  | 66 => 2
  | 68 => 1
  | 69 => 3
  | 70 => 2
  | 71 => 3
  | 72 => 3
  | 74 => 2
  | 75 => 1
  | 76 => 2
  | 77 => 2
  | 78 => 2
  | 79 => 2
  | 80 => 2
  | 81 => 2
  | 82 => 3
  | 83 => 1
  | 84 => 3
  | 85 => 1
  | 86 => 2
  | _ => 4
def ex_cix (y : Nat) : Nat := match y with
  | 0 => 2
  | 1 => 2
  | 2 => 2
  | 3 => 2
  | 4 => 2
  | 5 => 2
  | 6 => 2
  | 7 => 1
  | 8 => 1
  | 9 => 1
  | 10 => 1
  | 11 => 1
  | 12 => 1
  | 13 => 1
  | 14 => 0
  | 15 => 0
  | 16 => 0
  | 17 => 0
  | 18 => 0
  | 19 => 0
  | 20 => 0
  | 21 => 0
  | 22 => 0
  | 23 => 0
  | 24 => 0
  | 25 => 0
  | 26 => 0
  | 27 => 0
  | 28 => 0
  | 29 => 0
  | 30 => 0
  | 31 => 0
  | 32 => 0
  | 33 => 0
  | 34 => 0
  | 35 => 0
  | 36 => 0
  | 37 => 0
  | 38 => 0
  | 39 => 0
  | 40 => 0
  | 41 => 0
  | 42 => 0
  | 43 => 0
  | 44 => 0
  | 45 => 0
  | 46 => 0
  | 47 => 0
  | 48 => 0
  | 49 => 3
  | 50 => 3
  | 51 => 3
  | 52 => 3
  | 53 => 3
  | 54 => 3
  | 55 => 3
  | 56 => 3
  | 57 => 3
  | 58 => 3
  | 59 => 3
  | 60 => 3
  | 61 => 3
  | 62 => 3
  | 63 => 3
  | 64 => 3
  | 65 => 3
  | 66 => 3
  | 67 => 3
  | 68 => 3
  | 69 => 3
  | 70 => 3
  | 71 => 3
  | 72 => 3
  | 73 => 3
  | 74 => 3
  | 75 => 3
  | 76 => 3
  | 77 => 3
  | 78 => 3
  | 79 => 3
  | 80 => 3
  | 81 => 3
  | 82 => 3
  | 83 => 3
  | 84 => 3
  | 85 => 3
  | _ => 4
def ex_np (y : Nat) : Nat := match y with
  | 0 => 0
  | 1 => 0
  | 6 => 0
  | 9 => 0
  | 12 => 0
  | 16 => 2
  | 17 => 0
  | 18 => 0
  | 19 => 0
  | 20 => 0
  | 21 => 0
  | 22 => 0
  | 29 => 2
  | 30 => 0
  | 31 => 0
  | 32 => 0
  | 36 => 2
  | 40 => 2
  | 41 => 0
  | 42 => 3
  | 43 => 0
  | 44 => 0
  | 46 => 0
  | 52 => 0
  | 53 => 0
  | 54 => 0
  | 55 => 0
  | 59 => 2
  | 61 => 2
  | 62 => 2
  | 67 => 2
  | 68 => 0
  | 69 => 0
  | 70 => 0
  | 71 => 0
  | 72 => 0
  | 73 => 0
  | 74 => 0
  | 75 => 0
  | 82 => 2
  | 83 => 0
  | 84 => 0
  | 85 => 0
  | 86 => 2
  | _ => 1
def ex_lev (y : Nat) : Nat := match y with
  | 0 => 1
  | 1 => 0
  | 2 => 0
  | 3 => 0
  | 4 => 0
  | 5 => 0
  | 6 => 0
  | 7 => 1
  | 8 => 0
  | 9 => 1
  | 10 => 0
  | 11 => 0
  | 12 => 0
  | 13 => 0
  | 14 => 2
  | 15 => 6
  | 16 => 6
  | 17 => 2
  | 18 => 1
  | 19 => 2
  | 20 => 2
  | 21 => 2
  | 22 => 0
  | 23 => 2
  | 24 => 1
  | 25 => 1
  | 26 => 1
  | 27 => 1
  | 28 => 1
  | 29 => 1
  | 30 => 0
  | 31 => 1
  | 32 => 0
  | 33 => 0
  | 34 => 1
  | 35 => 5
  | 36 => 1
  | 37 => 4
  | 38 => 3
  | 39 => 2
  | 40 => 1
  | 41 => 1
  | 42 => 3
  | 43 => 2
  | 44 => 1
  | 45 => 0
  | 46 => 1
  | 47 => 1
  | 48 => 0
  | 49 => 1
  | 50 => 0
  | 51 => 0
  | 52 => 1
  | 53 => 0
  | 54 => 1
  | 55 => 2
  | 56 => 0
  | 57 => 0
  | 58 => 1
  | 59 => 0
  | 60 => 0
  | 61 => 0
  | 62 => 2
  | 63 => 3
  | 64 => 4
  | 65 => 5
  | 66 => 6
  | 67 => 6
  | 68 => 2
  | 69 => 1
  | 70 => 0
  | 71 => 0
  | 72 => 1
  | 73 => 1
  | 74 => 1
  | 75 => 0
  | 76 => 1
  | 77 => 1
  | 78 => 1
  | 79 => 1
  | 80 => 1
  | 81 => 1
  | 82 => 1
  | 83 => 0
  | 84 => 1
  | 85 => 0
  | 86 => 0
  | _ => 7
def ex_mc (y : Nat) : Nat := match y with
  | 0 => 1
  | 1 => 0
  | 2 => 0
  | 3 => 0
  | 4 => 0
  | 5 => 0
  | 6 => 0
  | 7 => 2
  | 8 => 0
  | 9 => 0
  | 10 => 0
  | 11 => 0
  | 12 => 0
  | 13 => 0
  | 14 => 17
  | 15 => 0
  | 16 => 0
  | 17 => 0
  | 18 => 0
  | 19 => 0
  | 20 => 0
  | 21 => 0
  | 22 => 0
  | 23 => 0
  | 24 => 0
  | 25 => 0
  | 26 => 0
  | 27 => 0
  | 28 => 0
  | 29 => 0
  | 30 => 0
  | 31 => 0
  | 32 => 0
  | 33 => 0
  | 34 => 0
  | 35 => 0
  | 36 => 0
  | 37 => 0
  | 38 => 0
  | 39 => 0
  | 40 => 0
  | 41 => 0
  | 42 => 0
  | 43 => 0
  | 44 => 0
  | 45 => 0
  | 46 => 0
  | 47 => 0
  | 48 => 0
  | 49 => 10
  | 50 => 0
  | 51 => 0
  | 52 => 0
  | 53 => 0
  | 54 => 0
  | 55 => 0
  | 56 => 0
  | 57 => 0
  | 58 => 0
  | 59 => 0
  | 60 => 0
  | 61 => 0
  | 62 => 0
  | 63 => 0
  | 64 => 0
  | 65 => 0
  | 66 => 0
  | 67 => 0
  | 68 => 0
  | 69 => 0
  | 70 => 0
  | 71 => 0
  | 72 => 0
  | 73 => 0
  | 74 => 0
  | 75 => 0
  | 76 => 0
  | 77 => 0
  | 78 => 0
  | 79 => 0
  | 80 => 0
  | 81 => 0
  | 82 => 0
  | 83 => 0
  | 84 => 0
  | 85 => 0
  | 86 => 0
  | _ => 29
def ex_ms (y : Nat) : Nat := match y with
  | 0 => 16
  | 1 => 0
  | 2 => 0
  | 3 => 0
  | 4 => 0
  | 5 => 0
  | 6 => 0
  | 7 => 28
  | 8 => 0
  | 9 => 0
  | 10 => 0
  | 11 => 0
  | 12 => 0
  | 13 => 0
  | 14 => 166
  | 15 => 0
  | 16 => 0
  | 17 => 0
  | 18 => 0
  | 19 => 0
  | 20 => 0
  | 21 => 0
  | 22 => 0
  | 23 => 0
  | 24 => 0
  | 25 => 0
  | 26 => 0
  | 27 => 0
  | 28 => 0
  | 29 => 0
  | 30 => 0
  | 31 => 0
  | 32 => 0
  | 33 => 0
  | 34 => 0
  | 35 => 0
  | 36 => 0
  | 37 => 0
  | 38 => 0
  | 39 => 0
  | 40 => 0
  | 41 => 0
  | 42 => 0
  | 43 => 0
  | 44 => 0
  | 45 => 0
  | 46 => 0
  | 47 => 0
  | 48 => 0
  | 49 => 158
  | 50 => 0
  | 51 => 0
  | 52 => 0
  | 53 => 0
  | 54 => 0
  | 55 => 0
  | 56 => 0
  | 57 => 0
  | 58 => 0
  | 59 => 0
  | 60 => 0
  | 61 => 0
  | 62 => 0
  | 63 => 0
  | 64 => 0
  | 65 => 0
  | 66 => 0
  | 67 => 0
  | 68 => 0
  | 69 => 0
  | 70 => 0
  | 71 => 0
  | 72 => 0
  | 73 => 0
  | 74 => 0
  | 75 => 0
  | 76 => 0
  | 77 => 0
  | 78 => 0
  | 79 => 0
  | 80 => 0
  | 81 => 0
  | 82 => 0
  | 83 => 0
  | 84 => 0
  | 85 => 0
  | 86 => 0
  | _ => 354
def ex_rty (y : Nat) : Option FieldType := match y with
  | 0 => none
  | 1 => some .int
  | 2 => some .int
  | 4 => none
  | 5 => none
  | 6 => none
  | 7 => none
  | 8 => none
  | 9 => none
  | 10 => none
  | 11 => some .int
  | 12 => some .int
  | 13 => some .int
  | 14 => none
  | 15 => some .int
  | 16 => some .int
  | 17 => some .int
  | 18 => some .int
  | 19 => some .int
  | 20 => some .int
  | 21 => some .int
  | 23 => some .int
  | 24 => some .int
  | 25 => some .int
  | 26 => some .int
  | 27 => some .int
  | 28 => some .int
  | 29 => some .int
  | 30 => some .int
  | 31 => some .int
  | 32 => some .int
  | 34 => some .int
  | 35 => none
  | 36 => some .int
  | 37 => none
  | 38 => none
  | 39 => none
  | 40 => none
  | 41 => none
  | 42 => some .int
  | 43 => some .int
  | 44 => some .int
  | 46 => none
  | 47 => some .int
  | 48 => none
  | 49 => none
  | 52 => some .int
  | 53 => none
  | 54 => some .int
  | 55 => some .int
  | 56 => some .int
  | 57 => none
  | 58 => some .int
  | 59 => none
  | 60 => some .int
  | 61 => some .int
  | 62 => none
  | 63 => none
  | 64 => none
  | 65 => none
  | 66 => some .int
  | 67 => some .int
  | 68 => some .int
  | 69 => some .int
  | 70 => none
  | 71 => some .int
  | 72 => some .int
  | 73 => some .int
  | 74 => some .int
  | 76 => some .int
  | 77 => some .int
  | 78 => some .int
  | 79 => some .int
  | 80 => some .int
  | 81 => some .int
  | 82 => some .int
  | 83 => some .int
  | 84 => some .int
  | 85 => some .int
  | 86 => some .int
  | _ => some .boolean
def ex_ini (y : Nat) : Bool := match y with
  | 0 => true
  | 7 => true
  | 14 => true
  | 49 => true
  | _ => false
def ex_own (y : Nat) : String := ex_cn (ex_cix y)
def ex_frL : List ((Nat × Nat) × (Nat × Nat × Nat × Bool)) := [((2, 9), (2, 0, 2, true)), ((2, 15), (2, 1, 0, false)), ((1, 9), (1, 0, 2, true)), ((1, 15), (1, 1, 2, true)), ((0, 18), (0, 0, 0, true)), ((0, 22), (0, 1, 2, true)), ((0, 26), (0, 2, 2, true)), ((0, 34), (0, 3, 2, true)), ((0, 38), (0, 4, 2, true)), ((0, 44), (0, 5, 2, true)), ((0, 48), (0, 6, 2, true)), ((0, 51), (0, 7, 2, true)), ((0, 54), (0, 8, 2, true)), ((0, 57), (0, 9, 2, true)), ((0, 79), (0, 11, 0, false)), ((0, 88), (1, 0, 2, true)), ((0, 114), (0, 13, 1, false)), ((0, 121), (1, 1, 2, true)), ((0, 130), (0, 10, 0, false)), ((0, 136), (0, 12, 0, false)), ((3, 7), (3, 1, 2, true)), ((3, 13), (3, 2, 2, true)), ((3, 16), (3, 3, 2, true)), ((3, 19), (3, 4, 2, true)), ((3, 23), (3, 5, 2, true)), ((3, 26), (3, 6, 2, true)), ((3, 29), (3, 7, 2, true)), ((3, 32), (3, 13, 2, true)), ((3, 35), (3, 14, 2, true)), ((3, 38), (3, 15, 2, true)), ((3, 41), (3, 0, 0, true)), ((3, 52), (3, 10, 0, false)), ((3, 62), (3, 12, 0, false)), ((3, 73), (3, 8, 0, false)), ((3, 90), (3, 9, 0, false)), ((3, 99), (3, 11, 1, false))]
def ex_fr (y i : Nat) : Option (Nat × Nat × Nat × Bool) := (ex_frL.find? (fun t => t.1.1 == ex_cix y && t.1.2 == i)).map (fun t => t.2)
def ex_mrL : List ((Nat × Nat) × (Nat × Nat)) := [((2, 3), (0, 5)), ((1, 3), (0, 5)), ((1, 18), (8, 1)), ((0, 1), (0, 5)), ((0, 9), (0, 4)), ((0, 15), (0, 3)), ((0, 31), (7, 2)), ((0, 43), (0, 2)), ((0, 61), (33, 0)), ((0, 65), (35, 1)), ((0, 68), (34, 1)), ((0, 72), (42, 1)), ((0, 76), (46, 1)), ((0, 82), (13, 1)), ((0, 85), (48, 1)), ((0, 91), (47, 1)), ((0, 94), (9, 1)), ((0, 97), (41, 1)), ((0, 100), (10, 1)), ((0, 104), (4, 1)), ((0, 107), (1, 1)), ((0, 111), (12, 1)), ((0, 118), (11, 1)), ((0, 124), (3, 1)), ((0, 127), (2, 1)), ((0, 133), (45, 1)), ((0, 139), (40, 1)), ((0, 143), (36, 0)), ((0, 146), (38, 1)), ((0, 149), (37, 1)), ((0, 152), (5, 1)), ((0, 155), (39, 1)), ((0, 158), (8, 1)), ((0, 161), (6, 1)), ((0, 162), (43, 1)), ((0, 165), (44, 1)), ((3, 1), (0, 5)), ((3, 45), (51, 1)), ((3, 49), (53, 1)), ((3, 55), (52, 1)), ((3, 59), (54, 1)), ((3, 65), (56, 1)), ((3, 69), (57, 1)), ((3, 76), (61, 1)), ((3, 80), (58, 1)), ((3, 83), (59, 1)), ((3, 87), (60, 1)), ((3, 93), (62, 1)), ((3, 96), (63, 1)), ((3, 103), (64, 1)), ((3, 106), (55, 1)), ((3, 109), (50, 0)), ((3, 112), (65, 1)), ((3, 116), (70, 1)), ((3, 119), (71, 1)), ((4, 9), (86, 0)), ((4, 15), (14, 2)), ((4, 20), (49, 2)), ((4, 21), (15, 1)), ((4, 25), (66, 1)), ((4, 26), (16, 1)), ((4, 30), (67, 1)), ((4, 31), (17, 1)), ((4, 35), (68, 1)), ((4, 36), (18, 1)), ((4, 39), (69, 1)), ((4, 40), (19, 1)), ((4, 43), (72, 1)), ((4, 44), (20, 1)), ((4, 47), (73, 1)), ((4, 48), (21, 1)), ((4, 51), (74, 1)), ((4, 52), (22, 1)), ((4, 56), (75, 1)), ((4, 57), (23, 1)), ((4, 60), (76, 1)), ((4, 61), (24, 1)), ((4, 64), (77, 1)), ((4, 65), (25, 1)), ((4, 68), (78, 1)), ((4, 69), (26, 1)), ((4, 72), (79, 1)), ((4, 73), (27, 1)), ((4, 76), (80, 1)), ((4, 77), (28, 1)), ((4, 80), (81, 1)), ((4, 81), (29, 1)), ((4, 84), (82, 1)), ((4, 85), (30, 1)), ((4, 88), (83, 1)), ((4, 89), (31, 1)), ((4, 92), (84, 1)), ((4, 93), (32, 1)), ((4, 96), (85, 1))]
def ex_mr (y i : Nat) : Option (Nat × Nat) := (ex_mrL.find? (fun t => t.1.1 == ex_cix y && t.1.2 == i)).map (fun t => t.2)
def ex_nrL : List ((Nat × Nat) × Nat) := [((0, 29), 1), ((0, 41), 2), ((4, 7), 0), ((4, 18), 3)]
def ex_nr (y i : Nat) : Option Nat := (ex_nrL.find? (fun t => t.1.1 == ex_cix y && t.1.2 == i)).map (fun t => t.2)
def ex_arL : List (Nat × Nat) := [(0, 41)]
def ex_ar (y i : Nat) : Bool := ex_arL.any (fun t => t.1 == ex_cix y && t.2 == i)
def ex_knL : List ((Nat × Nat) × Int32) := [((3, 115), 2147483647)]
def ex_kn (y i : Nat) : Option Int32 := (ex_knL.find? (fun t => t.1.1 == ex_cix y && t.1.2 == i)).map (fun t => t.2)
def ex_dv (ci : Nat) : List Value := match ci with
  | 0 => [.int 0, .null, .null, .null, .null, .null, .null, .null, .null, .null, .int 0, .int 0, .int 0, .int 0]
  | 1 => [.null, .null]
  | 2 => [.null, .int 0]
  | _ => [.int 0, .null, .null, .null, .null, .null, .null, .null, .int 0, .int 0, .int 0, .int 0, .int 0, .null, .null, .null]
def ex_da (ci : Nat) : List (Int32 ⊕ Nat) := match ci with
  | 0 => [.inl 0, .inr 0, .inr 0, .inr 0, .inr 0, .inr 0, .inr 0, .inr 0, .inr 0, .inr 0, .inl 0, .inl 0, .inl 0, .inl 0]
  | 1 => [.inr 0, .inr 0]
  | 2 => [.inr 0, .inl 0]
  | _ => [.inl 0, .inr 0, .inr 0, .inr 0, .inr 0, .inr 0, .inr 0, .inr 0, .inl 0, .inl 0, .inl 0, .inl 0, .inl 0, .inr 0, .inr 0, .inr 0]
theorem ex_m1 {w : Cond} (i : Nat) (h : tables_1_1[i]? = some w) (hg : goodWord w = true) : w ∈ ex_ws := List.mem_filter.mpr ⟨List.mem_append_right _ (List.mem_append_left _ (List.mem_of_getElem? h)), hg⟩
theorem ex_m2 {w : Cond} (i : Nat) (h : tables_1_2[i]? = some w) (hg : goodWord w = true) : w ∈ ex_ws := List.mem_filter.mpr ⟨List.mem_append_right _ (List.mem_append_right _ (List.mem_of_getElem? h)), hg⟩
theorem ex_m0 {w : Cond} (i : Nat) (h : (k2_sels lw_privs)[i]? = some w) (hg : goodWord w = true) : w ∈ ex_ws := List.mem_filter.mpr ⟨List.mem_append_left _ (List.mem_of_getElem? h), hg⟩
theorem ex_lX_0 : u_lay "EpochCache" ex_TX 0 ∈ ex_ws := (ex_m1 64 rfl rfl)
theorem ex_lX_1 : u_lay "EpochCache" ex_TX 1 ∈ ex_ws := (ex_m1 66 rfl rfl)
theorem ex_lX_2 : u_lay "EpochCache" ex_TX 2 ∈ ex_ws := (ex_m1 68 rfl rfl)
theorem ex_lX_3 : u_lay "EpochCache" ex_TX 3 ∈ ex_ws := (ex_m1 70 rfl rfl)
theorem ex_lX_4 : u_lay "EpochCache" ex_TX 4 ∈ ex_ws := (ex_m1 72 rfl rfl)
theorem ex_lX_5 : u_lay "EpochCache" ex_TX 5 ∈ ex_ws := (ex_m1 74 rfl rfl)
theorem ex_lX_6 : u_lay "EpochCache" ex_TX 6 ∈ ex_ws := (ex_m1 76 rfl rfl)
theorem ex_lX_7 : u_lay "EpochCache" ex_TX 7 ∈ ex_ws := (ex_m1 78 rfl rfl)
theorem ex_lX_8 : u_lay "EpochCache" ex_TX 8 ∈ ex_ws := (ex_m1 80 rfl rfl)
theorem ex_lX_9 : u_lay "EpochCache" ex_TX 9 ∈ ex_ws := (ex_m1 82 rfl rfl)
theorem ex_lX_10 : u_lay "EpochCache" ex_TX 10 ∈ ex_ws := (ex_m1 84 rfl rfl)
theorem ex_lX_11 : u_lay "EpochCache" ex_TX 11 ∈ ex_ws := (ex_m1 86 rfl rfl)
theorem ex_lX_12 : u_lay "EpochCache" ex_TX 12 ∈ ex_ws := (ex_m1 88 rfl rfl)
theorem ex_lX_13 : u_lay "EpochCache" ex_TX 13 ∈ ex_ws := (ex_m1 90 rfl rfl)
theorem ex_lX : ∀ w ∈ u_ws "EpochCache" ex_TX 14, w ∈ ex_ws := by
  intro w hw
  obtain ⟨k, hk, rfl⟩ := List.mem_map.mp hw
  have hk := List.mem_range.mp hk
  match k, hk with
  | 0, _ => exact ex_lX_0
  | 1, _ => exact ex_lX_1
  | 2, _ => exact ex_lX_2
  | 3, _ => exact ex_lX_3
  | 4, _ => exact ex_lX_4
  | 5, _ => exact ex_lX_5
  | 6, _ => exact ex_lX_6
  | 7, _ => exact ex_lX_7
  | 8, _ => exact ex_lX_8
  | 9, _ => exact ex_lX_9
  | 10, _ => exact ex_lX_10
  | 11, _ => exact ex_lX_11
  | 12, _ => exact ex_lX_12
  | 13, _ => exact ex_lX_13
  | n + 14, h => omega
theorem ex_lP_0 : u_lay "EpochCache$Placement" ex_TP 0 ∈ ex_ws := (ex_m1 30 rfl rfl)
theorem ex_lP_1 : u_lay "EpochCache$Placement" ex_TP 1 ∈ ex_ws := (ex_m1 32 rfl rfl)
theorem ex_lP : ∀ w ∈ u_ws "EpochCache$Placement" ex_TP 2, w ∈ ex_ws := by
  intro w hw
  obtain ⟨k, hk, rfl⟩ := List.mem_map.mp hw
  have hk := List.mem_range.mp hk
  match k, hk with
  | 0, _ => exact ex_lP_0
  | 1, _ => exact ex_lP_1
  | n + 2, h => omega
theorem ex_lB_0 : u_lay "EpochCache$BlockList" ex_TB 0 ∈ ex_ws := (ex_m1 44 rfl rfl)
theorem ex_lB_1 : u_lay "EpochCache$BlockList" ex_TB 1 ∈ ex_ws := (ex_m1 46 rfl rfl)
theorem ex_lB : ∀ w ∈ u_ws "EpochCache$BlockList" ex_TB 2, w ∈ ex_ws := by
  intro w hw
  obtain ⟨k, hk, rfl⟩ := List.mem_map.mp hw
  have hk := List.mem_range.mp hk
  match k, hk with
  | 0, _ => exact ex_lB_0
  | 1, _ => exact ex_lB_1
  | n + 2, h => omega
theorem ex_lM_0 : u_lay "EpochCacheModel" ex_TM 0 ∈ ex_ws := (ex_m2 61 rfl rfl)
theorem ex_lM_1 : u_lay "EpochCacheModel" ex_TM 1 ∈ ex_ws := (ex_m2 63 rfl rfl)
theorem ex_lM_2 : u_lay "EpochCacheModel" ex_TM 2 ∈ ex_ws := (ex_m2 65 rfl rfl)
theorem ex_lM_3 : u_lay "EpochCacheModel" ex_TM 3 ∈ ex_ws := (ex_m2 67 rfl rfl)
theorem ex_lM_4 : u_lay "EpochCacheModel" ex_TM 4 ∈ ex_ws := (ex_m2 69 rfl rfl)
theorem ex_lM_5 : u_lay "EpochCacheModel" ex_TM 5 ∈ ex_ws := (ex_m2 71 rfl rfl)
theorem ex_lM_6 : u_lay "EpochCacheModel" ex_TM 6 ∈ ex_ws := (ex_m2 73 rfl rfl)
theorem ex_lM_7 : u_lay "EpochCacheModel" ex_TM 7 ∈ ex_ws := (ex_m2 75 rfl rfl)
theorem ex_lM_8 : u_lay "EpochCacheModel" ex_TM 8 ∈ ex_ws := (ex_m2 77 rfl rfl)
theorem ex_lM_9 : u_lay "EpochCacheModel" ex_TM 9 ∈ ex_ws := (ex_m2 79 rfl rfl)
theorem ex_lM_10 : u_lay "EpochCacheModel" ex_TM 10 ∈ ex_ws := (ex_m2 81 rfl rfl)
theorem ex_lM_11 : u_lay "EpochCacheModel" ex_TM 11 ∈ ex_ws := (ex_m2 83 rfl rfl)
theorem ex_lM_12 : u_lay "EpochCacheModel" ex_TM 12 ∈ ex_ws := (ex_m2 85 rfl rfl)
theorem ex_lM_13 : u_lay "EpochCacheModel" ex_TM 13 ∈ ex_ws := (ex_m2 87 rfl rfl)
theorem ex_lM_14 : u_lay "EpochCacheModel" ex_TM 14 ∈ ex_ws := (ex_m2 89 rfl rfl)
theorem ex_lM_15 : u_lay "EpochCacheModel" ex_TM 15 ∈ ex_ws := (ex_m2 91 rfl rfl)
theorem ex_lM : ∀ w ∈ u_ws "EpochCacheModel" ex_TM 16, w ∈ ex_ws := by
  intro w hw
  obtain ⟨k, hk, rfl⟩ := List.mem_map.mp hw
  have hk := List.mem_range.mp hk
  match k, hk with
  | 0, _ => exact ex_lM_0
  | 1, _ => exact ex_lM_1
  | 2, _ => exact ex_lM_2
  | 3, _ => exact ex_lM_3
  | 4, _ => exact ex_lM_4
  | 5, _ => exact ex_lM_5
  | 6, _ => exact ex_lM_6
  | 7, _ => exact ex_lM_7
  | 8, _ => exact ex_lM_8
  | 9, _ => exact ex_lM_9
  | 10, _ => exact ex_lM_10
  | 11, _ => exact ex_lM_11
  | 12, _ => exact ex_lM_12
  | 13, _ => exact ex_lM_13
  | 14, _ => exact ex_lM_14
  | 15, _ => exact ex_lM_15
  | n + 16, h => omega
def ex_fkt (fk : Nat) (ty : FieldType) : Prop := match fk with
  | 0 => ty = .int
  | 1 => ty = .boolean
  | _ => (∃ n, ty = .object n) ∨ ∃ t, ty = .array t
def ex_frP (t : (Nat × Nat) × (Nat × Nat × Nat × Bool)) : Prop := ∃ (Cn : String) (T : u_T) (N : Nat), ex_cl[t.2.1]? = some (Cn, T, N) ∧ t.2.2.1 < N ∧ Cond.fieldLink (ex_cn t.1.1) t.1.2 (T t.2.2.1).1 (T t.2.2.1).2.1 (T t.2.2.1).2.2.1 ∈ ex_ws ∧ (T t.2.2.1).2.2.2 = t.2.2.2.2 ∧ (∃ ty, parseFieldDescriptor (T t.2.2.1).2.2.1 = some ty ∧ ex_fkt t.2.2.2.1 ty) ∧ (t.1.1 = t.2.1 → (T t.2.2.1).1 = ex_cn t.1.1)
theorem ex_f_2_9 : ex_frP ((2, 9), (2, 0, 2, true)) := ⟨"EpochCache$BlockList", ex_TB, 2, rfl, by decide, (ex_m1 42 rfl rfl), rfl, ⟨(.array .int), by decide +kernel, Or.inr ⟨_, rfl⟩⟩, fun _ => rfl⟩
theorem ex_f_2_15 : ex_frP ((2, 15), (2, 1, 0, false)) := ⟨"EpochCache$BlockList", ex_TB, 2, rfl, by decide, (ex_m1 43 rfl rfl), rfl, ⟨(.int), by decide +kernel, rfl⟩, fun _ => rfl⟩
theorem ex_f_1_9 : ex_frP ((1, 9), (1, 0, 2, true)) := ⟨"EpochCache$Placement", ex_TP, 2, rfl, by decide, (ex_m1 26 rfl rfl), rfl, ⟨(.array .int), by decide +kernel, Or.inr ⟨_, rfl⟩⟩, fun _ => rfl⟩
theorem ex_f_1_15 : ex_frP ((1, 15), (1, 1, 2, true)) := ⟨"EpochCache$Placement", ex_TP, 2, rfl, by decide, (ex_m1 28 rfl rfl), rfl, ⟨(.array .int), by decide +kernel, Or.inr ⟨_, rfl⟩⟩, fun _ => rfl⟩
theorem ex_f_0_18 : ex_frP ((0, 18), (0, 0, 0, true)) := ⟨"EpochCache", ex_TX, 14, rfl, by decide, (ex_m1 50 rfl rfl), rfl, ⟨(.int), by decide +kernel, rfl⟩, fun _ => rfl⟩
theorem ex_f_0_22 : ex_frP ((0, 22), (0, 1, 2, true)) := ⟨"EpochCache", ex_TX, 14, rfl, by decide, (ex_m1 51 rfl rfl), rfl, ⟨(.array .int), by decide +kernel, Or.inr ⟨_, rfl⟩⟩, fun _ => rfl⟩
theorem ex_f_0_26 : ex_frP ((0, 26), (0, 2, 2, true)) := ⟨"EpochCache", ex_TX, 14, rfl, by decide, (ex_m1 52 rfl rfl), rfl, ⟨(.array .int), by decide +kernel, Or.inr ⟨_, rfl⟩⟩, fun _ => rfl⟩
theorem ex_f_0_34 : ex_frP ((0, 34), (0, 3, 2, true)) := ⟨"EpochCache", ex_TX, 14, rfl, by decide, (ex_m1 53 rfl rfl), rfl, ⟨(.object "EpochCache$Placement"), by decide +kernel, Or.inl ⟨_, rfl⟩⟩, fun _ => rfl⟩
theorem ex_f_0_38 : ex_frP ((0, 38), (0, 4, 2, true)) := ⟨"EpochCache", ex_TX, 14, rfl, by decide, (ex_m1 54 rfl rfl), rfl, ⟨(.object "EpochCache$Placement"), by decide +kernel, Or.inl ⟨_, rfl⟩⟩, fun _ => rfl⟩
theorem ex_f_0_44 : ex_frP ((0, 44), (0, 5, 2, true)) := ⟨"EpochCache", ex_TX, 14, rfl, by decide, (ex_m1 55 rfl rfl), rfl, ⟨(.object "EpochCache$BlockList"), by decide +kernel, Or.inl ⟨_, rfl⟩⟩, fun _ => rfl⟩
theorem ex_f_0_48 : ex_frP ((0, 48), (0, 6, 2, true)) := ⟨"EpochCache", ex_TX, 14, rfl, by decide, (ex_m1 56 rfl rfl), rfl, ⟨(.object "EpochCache$BlockList"), by decide +kernel, Or.inl ⟨_, rfl⟩⟩, fun _ => rfl⟩
theorem ex_f_0_51 : ex_frP ((0, 51), (0, 7, 2, true)) := ⟨"EpochCache", ex_TX, 14, rfl, by decide, (ex_m1 57 rfl rfl), rfl, ⟨(.object "EpochCache$BlockList"), by decide +kernel, Or.inl ⟨_, rfl⟩⟩, fun _ => rfl⟩
theorem ex_f_0_54 : ex_frP ((0, 54), (0, 8, 2, true)) := ⟨"EpochCache", ex_TX, 14, rfl, by decide, (ex_m1 58 rfl rfl), rfl, ⟨(.object "EpochCache$BlockList"), by decide +kernel, Or.inl ⟨_, rfl⟩⟩, fun _ => rfl⟩
theorem ex_f_0_57 : ex_frP ((0, 57), (0, 9, 2, true)) := ⟨"EpochCache", ex_TX, 14, rfl, by decide, (ex_m1 59 rfl rfl), rfl, ⟨(.array (.object "EpochCache$BlockList")), by decide +kernel, Or.inr ⟨_, rfl⟩⟩, fun _ => rfl⟩
theorem ex_f_0_79 : ex_frP ((0, 79), (0, 11, 0, false)) := ⟨"EpochCache", ex_TX, 14, rfl, by decide, (ex_m1 61 rfl rfl), rfl, ⟨(.int), by decide +kernel, rfl⟩, fun _ => rfl⟩
theorem ex_f_0_88 : ex_frP ((0, 88), (1, 0, 2, true)) := ⟨"EpochCache$Placement", ex_TP, 2, rfl, by decide, (ex_m1 27 rfl rfl), rfl, ⟨(.array .int), by decide +kernel, Or.inr ⟨_, rfl⟩⟩, fun h => absurd h (by decide)⟩
theorem ex_f_0_114 : ex_frP ((0, 114), (0, 13, 1, false)) := ⟨"EpochCache", ex_TX, 14, rfl, by decide, (ex_m1 63 rfl rfl), rfl, ⟨(.boolean), by decide +kernel, rfl⟩, fun _ => rfl⟩
theorem ex_f_0_121 : ex_frP ((0, 121), (1, 1, 2, true)) := ⟨"EpochCache$Placement", ex_TP, 2, rfl, by decide, (ex_m1 29 rfl rfl), rfl, ⟨(.array .int), by decide +kernel, Or.inr ⟨_, rfl⟩⟩, fun h => absurd h (by decide)⟩
theorem ex_f_0_130 : ex_frP ((0, 130), (0, 10, 0, false)) := ⟨"EpochCache", ex_TX, 14, rfl, by decide, (ex_m1 60 rfl rfl), rfl, ⟨(.int), by decide +kernel, rfl⟩, fun _ => rfl⟩
theorem ex_f_0_136 : ex_frP ((0, 136), (0, 12, 0, false)) := ⟨"EpochCache", ex_TX, 14, rfl, by decide, (ex_m1 62 rfl rfl), rfl, ⟨(.int), by decide +kernel, rfl⟩, fun _ => rfl⟩
theorem ex_f_3_7 : ex_frP ((3, 7), (3, 1, 2, true)) := ⟨"EpochCacheModel", ex_TM, 16, rfl, by decide, (ex_m2 46 rfl rfl), rfl, ⟨(.array .int), by decide +kernel, Or.inr ⟨_, rfl⟩⟩, fun _ => rfl⟩
theorem ex_f_3_13 : ex_frP ((3, 13), (3, 2, 2, true)) := ⟨"EpochCacheModel", ex_TM, 16, rfl, by decide, (ex_m2 47 rfl rfl), rfl, ⟨(.array .int), by decide +kernel, Or.inr ⟨_, rfl⟩⟩, fun _ => rfl⟩
theorem ex_f_3_16 : ex_frP ((3, 16), (3, 3, 2, true)) := ⟨"EpochCacheModel", ex_TM, 16, rfl, by decide, (ex_m2 48 rfl rfl), rfl, ⟨(.array .int), by decide +kernel, Or.inr ⟨_, rfl⟩⟩, fun _ => rfl⟩
theorem ex_f_3_19 : ex_frP ((3, 19), (3, 4, 2, true)) := ⟨"EpochCacheModel", ex_TM, 16, rfl, by decide, (ex_m2 49 rfl rfl), rfl, ⟨(.array .boolean), by decide +kernel, Or.inr ⟨_, rfl⟩⟩, fun _ => rfl⟩
theorem ex_f_3_23 : ex_frP ((3, 23), (3, 5, 2, true)) := ⟨"EpochCacheModel", ex_TM, 16, rfl, by decide, (ex_m2 50 rfl rfl), rfl, ⟨(.array .int), by decide +kernel, Or.inr ⟨_, rfl⟩⟩, fun _ => rfl⟩
theorem ex_f_3_26 : ex_frP ((3, 26), (3, 6, 2, true)) := ⟨"EpochCacheModel", ex_TM, 16, rfl, by decide, (ex_m2 51 rfl rfl), rfl, ⟨(.array .int), by decide +kernel, Or.inr ⟨_, rfl⟩⟩, fun _ => rfl⟩
theorem ex_f_3_29 : ex_frP ((3, 29), (3, 7, 2, true)) := ⟨"EpochCacheModel", ex_TM, 16, rfl, by decide, (ex_m2 52 rfl rfl), rfl, ⟨(.array .int), by decide +kernel, Or.inr ⟨_, rfl⟩⟩, fun _ => rfl⟩
theorem ex_f_3_32 : ex_frP ((3, 32), (3, 13, 2, true)) := ⟨"EpochCacheModel", ex_TM, 16, rfl, by decide, (ex_m2 58 rfl rfl), rfl, ⟨(.array .int), by decide +kernel, Or.inr ⟨_, rfl⟩⟩, fun _ => rfl⟩
theorem ex_f_3_35 : ex_frP ((3, 35), (3, 14, 2, true)) := ⟨"EpochCacheModel", ex_TM, 16, rfl, by decide, (ex_m2 59 rfl rfl), rfl, ⟨(.array .boolean), by decide +kernel, Or.inr ⟨_, rfl⟩⟩, fun _ => rfl⟩
theorem ex_f_3_38 : ex_frP ((3, 38), (3, 15, 2, true)) := ⟨"EpochCacheModel", ex_TM, 16, rfl, by decide, (ex_m2 60 rfl rfl), rfl, ⟨(.array .int), by decide +kernel, Or.inr ⟨_, rfl⟩⟩, fun _ => rfl⟩
theorem ex_f_3_41 : ex_frP ((3, 41), (3, 0, 0, true)) := ⟨"EpochCacheModel", ex_TM, 16, rfl, by decide, (ex_m2 45 rfl rfl), rfl, ⟨(.int), by decide +kernel, rfl⟩, fun _ => rfl⟩
theorem ex_f_3_52 : ex_frP ((3, 52), (3, 10, 0, false)) := ⟨"EpochCacheModel", ex_TM, 16, rfl, by decide, (ex_m2 55 rfl rfl), rfl, ⟨(.int), by decide +kernel, rfl⟩, fun _ => rfl⟩
theorem ex_f_3_62 : ex_frP ((3, 62), (3, 12, 0, false)) := ⟨"EpochCacheModel", ex_TM, 16, rfl, by decide, (ex_m2 57 rfl rfl), rfl, ⟨(.int), by decide +kernel, rfl⟩, fun _ => rfl⟩
theorem ex_f_3_73 : ex_frP ((3, 73), (3, 8, 0, false)) := ⟨"EpochCacheModel", ex_TM, 16, rfl, by decide, (ex_m2 53 rfl rfl), rfl, ⟨(.int), by decide +kernel, rfl⟩, fun _ => rfl⟩
theorem ex_f_3_90 : ex_frP ((3, 90), (3, 9, 0, false)) := ⟨"EpochCacheModel", ex_TM, 16, rfl, by decide, (ex_m2 54 rfl rfl), rfl, ⟨(.int), by decide +kernel, rfl⟩, fun _ => rfl⟩
theorem ex_f_3_99 : ex_frP ((3, 99), (3, 11, 1, false)) := ⟨"EpochCacheModel", ex_TM, 16, rfl, by decide, (ex_m2 56 rfl rfl), rfl, ⟨(.boolean), by decide +kernel, rfl⟩, fun _ => rfl⟩
theorem ex_frL_ok : ∀ t ∈ ex_frL, ex_frP t := List.forall_mem_cons.mpr ⟨ex_f_2_9, List.forall_mem_cons.mpr ⟨ex_f_2_15, List.forall_mem_cons.mpr ⟨ex_f_1_9, List.forall_mem_cons.mpr ⟨ex_f_1_15, List.forall_mem_cons.mpr ⟨ex_f_0_18, List.forall_mem_cons.mpr ⟨ex_f_0_22, List.forall_mem_cons.mpr ⟨ex_f_0_26, List.forall_mem_cons.mpr ⟨ex_f_0_34, List.forall_mem_cons.mpr ⟨ex_f_0_38, List.forall_mem_cons.mpr ⟨ex_f_0_44, List.forall_mem_cons.mpr ⟨ex_f_0_48, List.forall_mem_cons.mpr ⟨ex_f_0_51, List.forall_mem_cons.mpr ⟨ex_f_0_54, List.forall_mem_cons.mpr ⟨ex_f_0_57, List.forall_mem_cons.mpr ⟨ex_f_0_79, List.forall_mem_cons.mpr ⟨ex_f_0_88, List.forall_mem_cons.mpr ⟨ex_f_0_114, List.forall_mem_cons.mpr ⟨ex_f_0_121, List.forall_mem_cons.mpr ⟨ex_f_0_130, List.forall_mem_cons.mpr ⟨ex_f_0_136, List.forall_mem_cons.mpr ⟨ex_f_3_7, List.forall_mem_cons.mpr ⟨ex_f_3_13, List.forall_mem_cons.mpr ⟨ex_f_3_16, List.forall_mem_cons.mpr ⟨ex_f_3_19, List.forall_mem_cons.mpr ⟨ex_f_3_23, List.forall_mem_cons.mpr ⟨ex_f_3_26, List.forall_mem_cons.mpr ⟨ex_f_3_29, List.forall_mem_cons.mpr ⟨ex_f_3_32, List.forall_mem_cons.mpr ⟨ex_f_3_35, List.forall_mem_cons.mpr ⟨ex_f_3_38, List.forall_mem_cons.mpr ⟨ex_f_3_41, List.forall_mem_cons.mpr ⟨ex_f_3_52, List.forall_mem_cons.mpr ⟨ex_f_3_62, List.forall_mem_cons.mpr ⟨ex_f_3_73, List.forall_mem_cons.mpr ⟨ex_f_3_90, List.forall_mem_cons.mpr ⟨ex_f_3_99, fun _ h => absurd h List.not_mem_nil⟩⟩⟩⟩⟩⟩⟩⟩⟩⟩⟩⟩⟩⟩⟩⟩⟩⟩⟩⟩⟩⟩⟩⟩⟩⟩⟩⟩⟩⟩⟩⟩⟩⟩⟩⟩
def ex_nrP (t : (Nat × Nat) × Nat) : Prop := ∃ (Cn : String) (T : u_T) (N : Nat), ex_cl[t.2]? = some (Cn, T, N) ∧ Cond.classLink (ex_cn t.1.1) t.1.2 Cn ∈ ex_ws ∧ Cond.instantiable Cn N ∈ ex_ws ∧ Cond.initialized Cn ∈ ex_ws ∧ (ex_da t.2).length = N
theorem ex_n_0_29 : ex_nrP ((0, 29), 1) := ⟨"EpochCache$Placement", ex_TP, 2, rfl, (ex_m1 20 rfl rfl), (ex_m1 21 rfl rfl), (ex_m1 3 rfl rfl), rfl⟩
theorem ex_n_0_41 : ex_nrP ((0, 41), 2) := ⟨"EpochCache$BlockList", ex_TB, 2, rfl, (ex_m1 36 rfl rfl), (ex_m1 37 rfl rfl), (ex_m1 4 rfl rfl), rfl⟩
theorem ex_n_4_7 : ex_nrP ((4, 7), 0) := ⟨"EpochCache", ex_TX, 14, rfl, (ex_m1 6 rfl rfl), (ex_m1 7 rfl rfl), (ex_m1 1 rfl rfl), rfl⟩
theorem ex_n_4_18 : ex_nrP ((4, 18), 3) := ⟨"EpochCacheModel", ex_TM, 16, rfl, (ex_m2 39 rfl rfl), (ex_m2 40 rfl rfl), (ex_m1 5 rfl rfl), rfl⟩
theorem ex_nrL_ok : ∀ t ∈ ex_nrL, ex_nrP t := List.forall_mem_cons.mpr ⟨ex_n_0_29, List.forall_mem_cons.mpr ⟨ex_n_0_41, List.forall_mem_cons.mpr ⟨ex_n_4_7, List.forall_mem_cons.mpr ⟨ex_n_4_18, fun _ h => absurd h List.not_mem_nil⟩⟩⟩⟩
def ex_arP (t : Nat × Nat) : Prop := Cond.classLink (ex_cn t.1) t.2 ex_BL ∈ ex_ws
theorem ex_a_0_41 : ex_arP (0, 41) := (ex_m1 36 rfl rfl)
theorem ex_arL_ok : ∀ t ∈ ex_arL, ex_arP t := List.forall_mem_cons.mpr ⟨ex_a_0_41, fun _ h => absurd h List.not_mem_nil⟩
def ex_knP (t : (Nat × Nat) × Int32) : Prop := Cond.constant (ex_cn t.1.1) t.1.2 t.2 ∈ ex_ws
theorem ex_k_3_115 : ex_knP ((3, 115), 2147483647) := (ex_m2 178 rfl rfl)
theorem ex_knL_ok : ∀ t ∈ ex_knL, ex_knP t := List.forall_mem_cons.mpr ⟨ex_k_3_115, fun _ h => absurd h List.not_mem_nil⟩
theorem ex_aI_ok : Cond.arrayClass (newarray.typeOf .int) ∈ ex_ws := (ex_m1 35 rfl rfl)
theorem ex_aZ_ok : Cond.arrayClass (newarray.typeOf .boolean) ∈ ex_ws := (ex_m2 94 rfl rfl)
def ex_yP (y : Nat) : Prop := Cond.code (ex_nam y) (ex_cod y) (ex_mxl y) (ex_rty y) ∈ ex_ws
theorem ex_y_0 : ex_yP 0 := ex_m1 40 rfl rfl
theorem ex_y_1 : ex_yP 1 := ex_m1 123 rfl rfl
theorem ex_y_2 : ex_yP 2 := ex_m1 134 rfl rfl
theorem ex_y_3 : ex_yP 3 := ex_m1 107 rfl rfl
theorem ex_y_4 : ex_yP 4 := ex_m1 119 rfl rfl
theorem ex_y_5 : ex_yP 5 := ex_m1 115 rfl rfl
theorem ex_y_6 : ex_yP 6 := ex_m1 219 rfl rfl
theorem ex_y_7 : ex_yP 7 := ex_m1 24 rfl rfl
theorem ex_y_8 : ex_yP 8 := ex_m1 166 rfl rfl
theorem ex_y_9 : ex_yP 9 := ex_m1 210 rfl rfl
theorem ex_y_10 : ex_yP 10 := ex_m1 150 rfl rfl
theorem ex_y_11 : ex_yP 11 := ex_m1 142 rfl rfl
theorem ex_y_12 : ex_yP 12 := ex_m1 231 rfl rfl
theorem ex_y_13 : ex_yP 13 := ex_m1 158 rfl rfl
theorem ex_y_14 : ex_yP 14 := ex_m1 10 rfl rfl
theorem ex_y_15 : ex_yP 15 := ex_m1 96 rfl rfl
theorem ex_y_16 : ex_yP 16 := ex_m1 194 rfl rfl
theorem ex_y_17 : ex_yP 17 := ex_m1 198 rfl rfl
theorem ex_y_18 : ex_yP 18 := ex_m1 202 rfl rfl
theorem ex_y_19 : ex_yP 19 := ex_m1 206 rfl rfl
theorem ex_y_20 : ex_yP 20 := ex_m1 223 rfl rfl
theorem ex_y_21 : ex_yP 21 := ex_m1 227 rfl rfl
theorem ex_y_22 : ex_yP 22 := ex_m1 235 rfl rfl
theorem ex_y_23 : ex_yP 23 := ex_m1 239 rfl rfl
theorem ex_y_24 : ex_yP 24 := ex_m2 3 rfl rfl
theorem ex_y_25 : ex_yP 25 := ex_m2 7 rfl rfl
theorem ex_y_26 : ex_yP 26 := ex_m2 11 rfl rfl
theorem ex_y_27 : ex_yP 27 := ex_m2 15 rfl rfl
theorem ex_y_28 : ex_yP 28 := ex_m2 19 rfl rfl
theorem ex_y_29 : ex_yP 29 := ex_m2 23 rfl rfl
theorem ex_y_30 : ex_yP 30 := ex_m2 27 rfl rfl
theorem ex_y_31 : ex_yP 31 := ex_m2 31 rfl rfl
theorem ex_y_32 : ex_yP 32 := ex_m2 35 rfl rfl
theorem ex_y_33 : ex_yP 33 := ex_m1 99 rfl rfl
theorem ex_y_34 : ex_yP 34 := ex_m1 190 rfl rfl
theorem ex_y_35 : ex_yP 35 := ex_m1 103 rfl rfl
theorem ex_y_36 : ex_yP 36 := ex_m1 126 rfl rfl
theorem ex_y_37 : ex_yP 37 := ex_m1 170 rfl rfl
theorem ex_y_38 : ex_yP 38 := ex_m1 130 rfl rfl
theorem ex_y_39 : ex_yP 39 := ex_m1 138 rfl rfl
theorem ex_y_40 : ex_yP 40 := ex_m1 111 rfl rfl
theorem ex_y_41 : ex_yP 41 := ex_m1 215 rfl rfl
theorem ex_y_42 : ex_yP 42 := ex_m1 174 rfl rfl
theorem ex_y_43 : ex_yP 43 := ex_m1 178 rfl rfl
theorem ex_y_44 : ex_yP 44 := ex_m1 182 rfl rfl
theorem ex_y_45 : ex_yP 45 := ex_m1 186 rfl rfl
theorem ex_y_46 : ex_yP 46 := ex_m1 146 rfl rfl
theorem ex_y_47 : ex_yP 47 := ex_m1 154 rfl rfl
theorem ex_y_48 : ex_yP 48 := ex_m1 162 rfl rfl
theorem ex_y_49 : ex_yP 49 := ex_m2 43 rfl rfl
theorem ex_y_50 : ex_yP 50 := ex_m2 101 rfl rfl
theorem ex_y_51 : ex_yP 51 := ex_m2 161 rfl rfl
theorem ex_y_52 : ex_yP 52 := ex_m2 157 rfl rfl
theorem ex_y_53 : ex_yP 53 := ex_m2 137 rfl rfl
theorem ex_y_54 : ex_yP 54 := ex_m2 133 rfl rfl
theorem ex_y_55 : ex_yP 55 := ex_m2 153 rfl rfl
theorem ex_y_56 : ex_yP 56 := ex_m2 145 rfl rfl
theorem ex_y_57 : ex_yP 57 := ex_m2 149 rfl rfl
theorem ex_y_58 : ex_yP 58 := ex_m2 141 rfl rfl
theorem ex_y_59 : ex_yP 59 := ex_m2 109 rfl rfl
theorem ex_y_60 : ex_yP 60 := ex_m2 117 rfl rfl
theorem ex_y_61 : ex_yP 61 := ex_m2 129 rfl rfl
theorem ex_y_62 : ex_yP 62 := ex_m2 125 rfl rfl
theorem ex_y_63 : ex_yP 63 := ex_m2 121 rfl rfl
theorem ex_y_64 : ex_yP 64 := ex_m2 113 rfl rfl
theorem ex_y_65 : ex_yP 65 := ex_m2 105 rfl rfl
theorem ex_y_66 : ex_yP 66 := ex_m2 98 rfl rfl
theorem ex_y_67 : ex_yP 67 := ex_m2 165 rfl rfl
theorem ex_y_68 : ex_yP 68 := ex_m2 169 rfl rfl
theorem ex_y_69 : ex_yP 69 := ex_m2 173 rfl rfl
theorem ex_y_70 : ex_yP 70 := ex_m2 182 rfl rfl
theorem ex_y_71 : ex_yP 71 := ex_m2 194 rfl rfl
theorem ex_y_72 : ex_yP 72 := ex_m2 177 rfl rfl
theorem ex_y_73 : ex_yP 73 := ex_m2 186 rfl rfl
theorem ex_y_74 : ex_yP 74 := ex_m2 190 rfl rfl
theorem ex_y_75 : ex_yP 75 := ex_m2 198 rfl rfl
theorem ex_y_76 : ex_yP 76 := ex_m2 202 rfl rfl
theorem ex_y_77 : ex_yP 77 := ex_m2 206 rfl rfl
theorem ex_y_78 : ex_yP 78 := ex_m2 210 rfl rfl
theorem ex_y_79 : ex_yP 79 := ex_m2 214 rfl rfl
theorem ex_y_80 : ex_yP 80 := ex_m2 218 rfl rfl
theorem ex_y_81 : ex_yP 81 := ex_m2 222 rfl rfl
theorem ex_y_82 : ex_yP 82 := ex_m2 226 rfl rfl
theorem ex_y_83 : ex_yP 83 := ex_m2 230 rfl rfl
theorem ex_y_84 : ex_yP 84 := ex_m2 234 rfl rfl
theorem ex_y_85 : ex_yP 85 := ex_m2 238 rfl rfl
theorem ex_y_86 : ex_yP 86 := ex_m2 38 rfl rfl
theorem ex_yL_ok : ∀ y, y < 87 → ex_yP y := by
  intro y h
  match y, h with
  | 0, _ => exact ex_y_0
  | 1, _ => exact ex_y_1
  | 2, _ => exact ex_y_2
  | 3, _ => exact ex_y_3
  | 4, _ => exact ex_y_4
  | 5, _ => exact ex_y_5
  | 6, _ => exact ex_y_6
  | 7, _ => exact ex_y_7
  | 8, _ => exact ex_y_8
  | 9, _ => exact ex_y_9
  | 10, _ => exact ex_y_10
  | 11, _ => exact ex_y_11
  | 12, _ => exact ex_y_12
  | 13, _ => exact ex_y_13
  | 14, _ => exact ex_y_14
  | 15, _ => exact ex_y_15
  | 16, _ => exact ex_y_16
  | 17, _ => exact ex_y_17
  | 18, _ => exact ex_y_18
  | 19, _ => exact ex_y_19
  | 20, _ => exact ex_y_20
  | 21, _ => exact ex_y_21
  | 22, _ => exact ex_y_22
  | 23, _ => exact ex_y_23
  | 24, _ => exact ex_y_24
  | 25, _ => exact ex_y_25
  | 26, _ => exact ex_y_26
  | 27, _ => exact ex_y_27
  | 28, _ => exact ex_y_28
  | 29, _ => exact ex_y_29
  | 30, _ => exact ex_y_30
  | 31, _ => exact ex_y_31
  | 32, _ => exact ex_y_32
  | 33, _ => exact ex_y_33
  | 34, _ => exact ex_y_34
  | 35, _ => exact ex_y_35
  | 36, _ => exact ex_y_36
  | 37, _ => exact ex_y_37
  | 38, _ => exact ex_y_38
  | 39, _ => exact ex_y_39
  | 40, _ => exact ex_y_40
  | 41, _ => exact ex_y_41
  | 42, _ => exact ex_y_42
  | 43, _ => exact ex_y_43
  | 44, _ => exact ex_y_44
  | 45, _ => exact ex_y_45
  | 46, _ => exact ex_y_46
  | 47, _ => exact ex_y_47
  | 48, _ => exact ex_y_48
  | 49, _ => exact ex_y_49
  | 50, _ => exact ex_y_50
  | 51, _ => exact ex_y_51
  | 52, _ => exact ex_y_52
  | 53, _ => exact ex_y_53
  | 54, _ => exact ex_y_54
  | 55, _ => exact ex_y_55
  | 56, _ => exact ex_y_56
  | 57, _ => exact ex_y_57
  | 58, _ => exact ex_y_58
  | 59, _ => exact ex_y_59
  | 60, _ => exact ex_y_60
  | 61, _ => exact ex_y_61
  | 62, _ => exact ex_y_62
  | 63, _ => exact ex_y_63
  | 64, _ => exact ex_y_64
  | 65, _ => exact ex_y_65
  | 66, _ => exact ex_y_66
  | 67, _ => exact ex_y_67
  | 68, _ => exact ex_y_68
  | 69, _ => exact ex_y_69
  | 70, _ => exact ex_y_70
  | 71, _ => exact ex_y_71
  | 72, _ => exact ex_y_72
  | 73, _ => exact ex_y_73
  | 74, _ => exact ex_y_74
  | 75, _ => exact ex_y_75
  | 76, _ => exact ex_y_76
  | 77, _ => exact ex_y_77
  | 78, _ => exact ex_y_78
  | 79, _ => exact ex_y_79
  | 80, _ => exact ex_y_80
  | 81, _ => exact ex_y_81
  | 82, _ => exact ex_y_82
  | 83, _ => exact ex_y_83
  | 84, _ => exact ex_y_84
  | 85, _ => exact ex_y_85
  | 86, _ => exact ex_y_86
  | n + 87, h => omega
def ex_mrP (t : (Nat × Nat) × (Nat × Nat)) : Prop := match t.2.2 with
  | 0 => Cond.methodLink (ex_cn t.1.1) t.1.2 (ex_nam t.2.1) ∈ ex_ws ∧ Cond.static (ex_nam t.2.1) ∈ ex_ws ∧ Cond.initialized (ex_nam t.2.1).cls ∈ ex_ws
  | 1 => Cond.methodLink (ex_cn t.1.1) t.1.2 (ex_nam t.2.1) ∈ ex_ws ∧ Cond.instanceMethod (ex_nam t.2.1) ∈ ex_ws ∧ Cond.selects (ex_own t.2.1) (ex_nam t.2.1) (ex_nam t.2.1) ∈ ex_ws ∧ Cond.initialized (ex_nam t.2.1).cls ∈ ex_ws ∧ (∃ (T : u_T) (N : Nat), ex_cl[ex_cix t.2.1]? = some (ex_own t.2.1, T, N)) ∧ ex_np t.2.1 + 1 ≤ ex_mxl t.2.1
  | 2 => Cond.methodLink (ex_cn t.1.1) t.1.2 (ex_nam t.2.1) ∈ ex_ws ∧ Cond.instanceMethod (ex_nam t.2.1) ∈ ex_ws ∧ Cond.initialized (ex_nam t.2.1).cls ∈ ex_ws ∧ (ex_nam t.2.1).name = "<init>" ∧ ex_rty t.2.1 = none ∧ ex_np t.2.1 + 1 ≤ ex_mxl t.2.1
  | 3 => Cond.methodLink (ex_cn t.1.1) t.1.2 Lib.Math.max.name ∈ ex_ws ∧ Cond.static Lib.Math.max.name ∈ ex_ws ∧ Cond.initialized "java/lang/Math" ∈ ex_ws ∧ Cond.code Lib.Math.max.name Lib.Math.max.code 2 (some .int) ∈ ex_ws
  | 4 => Cond.methodLink (ex_cn t.1.1) t.1.2 Lib.Math.min.name ∈ ex_ws ∧ Cond.static Lib.Math.min.name ∈ ex_ws ∧ Cond.initialized "java/lang/Math" ∈ ex_ws ∧ Cond.code Lib.Math.min.name Lib.Math.min.code 2 (some .int) ∈ ex_ws
  | _ => Cond.methodLink (ex_cn t.1.1) t.1.2 objectInit ∈ ex_ws ∧ Cond.instanceMethod objectInit ∈ ex_ws ∧ Cond.code objectInit ⟨#[0xb1]⟩ 1 none ∈ ex_ws
theorem ex_c_2_3 : ex_mrP ((2, 3), (0, 5)) := ⟨(ex_m1 41 rfl rfl), (ex_m1 12 rfl rfl), (ex_m1 13 rfl rfl)⟩
theorem ex_c_1_3 : ex_mrP ((1, 3), (0, 5)) := ⟨(ex_m1 25 rfl rfl), (ex_m1 12 rfl rfl), (ex_m1 13 rfl rfl)⟩
theorem ex_c_1_18 : ex_mrP ((1, 18), (8, 1)) := ⟨(ex_m1 211 rfl rfl), (ex_m1 164 rfl rfl), (ex_m1 165 rfl rfl), (ex_m1 3 rfl rfl), ⟨ex_TP, 2, rfl⟩, by decide⟩
theorem ex_c_0_1 : ex_mrP ((0, 1), (0, 5)) := ⟨(ex_m1 11 rfl rfl), (ex_m1 12 rfl rfl), (ex_m1 13 rfl rfl)⟩
theorem ex_c_0_9 : ex_mrP ((0, 9), (0, 4)) := ⟨(ex_m1 14 rfl rfl), (ex_m1 15 rfl rfl), (ex_m1 2 rfl rfl), (ex_m1 16 rfl rfl)⟩
theorem ex_c_0_15 : ex_mrP ((0, 15), (0, 3)) := ⟨(ex_m1 17 rfl rfl), (ex_m1 18 rfl rfl), (ex_m1 2 rfl rfl), (ex_m1 19 rfl rfl)⟩
theorem ex_c_0_31 : ex_mrP ((0, 31), (7, 2)) := ⟨(ex_m1 22 rfl rfl), (ex_m1 23 rfl rfl), (ex_m1 3 rfl rfl), rfl, rfl, by decide⟩
theorem ex_c_0_43 : ex_mrP ((0, 43), (0, 2)) := ⟨(ex_m1 38 rfl rfl), (ex_m1 39 rfl rfl), (ex_m1 4 rfl rfl), rfl, rfl, by decide⟩
theorem ex_c_0_61 : ex_mrP ((0, 61), (33, 0)) := ⟨(ex_m1 97 rfl rfl), (ex_m1 98 rfl rfl), (ex_m1 1 rfl rfl)⟩
theorem ex_c_0_65 : ex_mrP ((0, 65), (35, 1)) := ⟨(ex_m1 100 rfl rfl), (ex_m1 102 rfl rfl), (ex_m0 0 rfl rfl), (ex_m1 1 rfl rfl), ⟨ex_TX, 14, rfl⟩, by decide⟩
theorem ex_c_0_68 : ex_mrP ((0, 68), (34, 1)) := ⟨(ex_m1 187 rfl rfl), (ex_m1 189 rfl rfl), (ex_m0 12 rfl rfl), (ex_m1 1 rfl rfl), ⟨ex_TX, 14, rfl⟩, by decide⟩
theorem ex_c_0_72 : ex_mrP ((0, 72), (42, 1)) := ⟨(ex_m1 171 rfl rfl), (ex_m1 173 rfl rfl), (ex_m0 8 rfl rfl), (ex_m1 1 rfl rfl), ⟨ex_TX, 14, rfl⟩, by decide⟩
theorem ex_c_0_76 : ex_mrP ((0, 76), (46, 1)) := ⟨(ex_m1 143 rfl rfl), (ex_m1 145 rfl rfl), (ex_m0 4 rfl rfl), (ex_m1 1 rfl rfl), ⟨ex_TX, 14, rfl⟩, by decide⟩
theorem ex_c_0_82 : ex_mrP ((0, 82), (13, 1)) := ⟨(ex_m1 155 rfl rfl), (ex_m1 156 rfl rfl), (ex_m1 157 rfl rfl), (ex_m1 3 rfl rfl), ⟨ex_TP, 2, rfl⟩, by decide⟩
theorem ex_c_0_85 : ex_mrP ((0, 85), (48, 1)) := ⟨(ex_m1 159 rfl rfl), (ex_m1 161 rfl rfl), (ex_m0 6 rfl rfl), (ex_m1 1 rfl rfl), ⟨ex_TX, 14, rfl⟩, by decide⟩
theorem ex_c_0_91 : ex_mrP ((0, 91), (47, 1)) := ⟨(ex_m1 151 rfl rfl), (ex_m1 153 rfl rfl), (ex_m0 5 rfl rfl), (ex_m1 1 rfl rfl), ⟨ex_TX, 14, rfl⟩, by decide⟩
theorem ex_c_0_94 : ex_mrP ((0, 94), (9, 1)) := ⟨(ex_m1 207 rfl rfl), (ex_m1 208 rfl rfl), (ex_m1 209 rfl rfl), (ex_m1 3 rfl rfl), ⟨ex_TP, 2, rfl⟩, by decide⟩
theorem ex_c_0_97 : ex_mrP ((0, 97), (41, 1)) := ⟨(ex_m1 212 rfl rfl), (ex_m1 214 rfl rfl), (ex_m0 13 rfl rfl), (ex_m1 1 rfl rfl), ⟨ex_TX, 14, rfl⟩, by decide⟩
theorem ex_c_0_100 : ex_mrP ((0, 100), (10, 1)) := ⟨(ex_m1 147 rfl rfl), (ex_m1 148 rfl rfl), (ex_m1 149 rfl rfl), (ex_m1 3 rfl rfl), ⟨ex_TP, 2, rfl⟩, by decide⟩
theorem ex_c_0_104 : ex_mrP ((0, 104), (4, 1)) := ⟨(ex_m1 116 rfl rfl), (ex_m1 117 rfl rfl), (ex_m1 118 rfl rfl), (ex_m1 4 rfl rfl), ⟨ex_TB, 2, rfl⟩, by decide⟩
theorem ex_c_0_107 : ex_mrP ((0, 107), (1, 1)) := ⟨(ex_m1 120 rfl rfl), (ex_m1 121 rfl rfl), (ex_m1 122 rfl rfl), (ex_m1 4 rfl rfl), ⟨ex_TB, 2, rfl⟩, by decide⟩
theorem ex_c_0_111 : ex_mrP ((0, 111), (12, 1)) := ⟨(ex_m1 228 rfl rfl), (ex_m1 229 rfl rfl), (ex_m1 230 rfl rfl), (ex_m1 3 rfl rfl), ⟨ex_TP, 2, rfl⟩, by decide⟩
theorem ex_c_0_118 : ex_mrP ((0, 118), (11, 1)) := ⟨(ex_m1 139 rfl rfl), (ex_m1 140 rfl rfl), (ex_m1 141 rfl rfl), (ex_m1 3 rfl rfl), ⟨ex_TP, 2, rfl⟩, by decide⟩
theorem ex_c_0_124 : ex_mrP ((0, 124), (3, 1)) := ⟨(ex_m1 104 rfl rfl), (ex_m1 105 rfl rfl), (ex_m1 106 rfl rfl), (ex_m1 4 rfl rfl), ⟨ex_TB, 2, rfl⟩, by decide⟩
theorem ex_c_0_127 : ex_mrP ((0, 127), (2, 1)) := ⟨(ex_m1 131 rfl rfl), (ex_m1 132 rfl rfl), (ex_m1 133 rfl rfl), (ex_m1 4 rfl rfl), ⟨ex_TB, 2, rfl⟩, by decide⟩
theorem ex_c_0_133 : ex_mrP ((0, 133), (45, 1)) := ⟨(ex_m1 183 rfl rfl), (ex_m1 185 rfl rfl), (ex_m0 11 rfl rfl), (ex_m1 1 rfl rfl), ⟨ex_TX, 14, rfl⟩, by decide⟩
theorem ex_c_0_139 : ex_mrP ((0, 139), (40, 1)) := ⟨(ex_m1 108 rfl rfl), (ex_m1 110 rfl rfl), (ex_m0 1 rfl rfl), (ex_m1 1 rfl rfl), ⟨ex_TX, 14, rfl⟩, by decide⟩
theorem ex_c_0_143 : ex_mrP ((0, 143), (36, 0)) := ⟨(ex_m1 124 rfl rfl), (ex_m1 125 rfl rfl), (ex_m1 1 rfl rfl)⟩
theorem ex_c_0_146 : ex_mrP ((0, 146), (38, 1)) := ⟨(ex_m1 127 rfl rfl), (ex_m1 129 rfl rfl), (ex_m0 2 rfl rfl), (ex_m1 1 rfl rfl), ⟨ex_TX, 14, rfl⟩, by decide⟩
theorem ex_c_0_149 : ex_mrP ((0, 149), (37, 1)) := ⟨(ex_m1 167 rfl rfl), (ex_m1 169 rfl rfl), (ex_m0 7 rfl rfl), (ex_m1 1 rfl rfl), ⟨ex_TX, 14, rfl⟩, by decide⟩
theorem ex_c_0_152 : ex_mrP ((0, 152), (5, 1)) := ⟨(ex_m1 112 rfl rfl), (ex_m1 113 rfl rfl), (ex_m1 114 rfl rfl), (ex_m1 4 rfl rfl), ⟨ex_TB, 2, rfl⟩, by decide⟩
theorem ex_c_0_155 : ex_mrP ((0, 155), (39, 1)) := ⟨(ex_m1 135 rfl rfl), (ex_m1 137 rfl rfl), (ex_m0 3 rfl rfl), (ex_m1 1 rfl rfl), ⟨ex_TX, 14, rfl⟩, by decide⟩
theorem ex_c_0_158 : ex_mrP ((0, 158), (8, 1)) := ⟨(ex_m1 163 rfl rfl), (ex_m1 164 rfl rfl), (ex_m1 165 rfl rfl), (ex_m1 3 rfl rfl), ⟨ex_TP, 2, rfl⟩, by decide⟩
theorem ex_c_0_161 : ex_mrP ((0, 161), (6, 1)) := ⟨(ex_m1 216 rfl rfl), (ex_m1 217 rfl rfl), (ex_m1 218 rfl rfl), (ex_m1 4 rfl rfl), ⟨ex_TB, 2, rfl⟩, by decide⟩
theorem ex_c_0_162 : ex_mrP ((0, 162), (43, 1)) := ⟨(ex_m1 175 rfl rfl), (ex_m1 177 rfl rfl), (ex_m0 9 rfl rfl), (ex_m1 1 rfl rfl), ⟨ex_TX, 14, rfl⟩, by decide⟩
theorem ex_c_0_165 : ex_mrP ((0, 165), (44, 1)) := ⟨(ex_m1 179 rfl rfl), (ex_m1 181 rfl rfl), (ex_m0 10 rfl rfl), (ex_m1 1 rfl rfl), ⟨ex_TX, 14, rfl⟩, by decide⟩
theorem ex_c_3_1 : ex_mrP ((3, 1), (0, 5)) := ⟨(ex_m2 44 rfl rfl), (ex_m1 12 rfl rfl), (ex_m1 13 rfl rfl)⟩
theorem ex_c_3_45 : ex_mrP ((3, 45), (51, 1)) := ⟨(ex_m2 158 rfl rfl), (ex_m2 160 rfl rfl), (ex_m0 28 rfl rfl), (ex_m1 5 rfl rfl), ⟨ex_TM, 16, rfl⟩, by decide⟩
theorem ex_c_3_49 : ex_mrP ((3, 49), (53, 1)) := ⟨(ex_m2 134 rfl rfl), (ex_m2 136 rfl rfl), (ex_m0 22 rfl rfl), (ex_m1 5 rfl rfl), ⟨ex_TM, 16, rfl⟩, by decide⟩
theorem ex_c_3_55 : ex_mrP ((3, 55), (52, 1)) := ⟨(ex_m2 154 rfl rfl), (ex_m2 156 rfl rfl), (ex_m0 27 rfl rfl), (ex_m1 5 rfl rfl), ⟨ex_TM, 16, rfl⟩, by decide⟩
theorem ex_c_3_59 : ex_mrP ((3, 59), (54, 1)) := ⟨(ex_m2 130 rfl rfl), (ex_m2 132 rfl rfl), (ex_m0 21 rfl rfl), (ex_m1 5 rfl rfl), ⟨ex_TM, 16, rfl⟩, by decide⟩
theorem ex_c_3_65 : ex_mrP ((3, 65), (56, 1)) := ⟨(ex_m2 142 rfl rfl), (ex_m2 144 rfl rfl), (ex_m0 24 rfl rfl), (ex_m1 5 rfl rfl), ⟨ex_TM, 16, rfl⟩, by decide⟩
theorem ex_c_3_69 : ex_mrP ((3, 69), (57, 1)) := ⟨(ex_m2 146 rfl rfl), (ex_m2 148 rfl rfl), (ex_m0 25 rfl rfl), (ex_m1 5 rfl rfl), ⟨ex_TM, 16, rfl⟩, by decide⟩
theorem ex_c_3_76 : ex_mrP ((3, 76), (61, 1)) := ⟨(ex_m2 126 rfl rfl), (ex_m2 128 rfl rfl), (ex_m0 20 rfl rfl), (ex_m1 5 rfl rfl), ⟨ex_TM, 16, rfl⟩, by decide⟩
theorem ex_c_3_80 : ex_mrP ((3, 80), (58, 1)) := ⟨(ex_m2 138 rfl rfl), (ex_m2 140 rfl rfl), (ex_m0 23 rfl rfl), (ex_m1 5 rfl rfl), ⟨ex_TM, 16, rfl⟩, by decide⟩
theorem ex_c_3_83 : ex_mrP ((3, 83), (59, 1)) := ⟨(ex_m2 106 rfl rfl), (ex_m2 108 rfl rfl), (ex_m0 15 rfl rfl), (ex_m1 5 rfl rfl), ⟨ex_TM, 16, rfl⟩, by decide⟩
theorem ex_c_3_87 : ex_mrP ((3, 87), (60, 1)) := ⟨(ex_m2 114 rfl rfl), (ex_m2 116 rfl rfl), (ex_m0 17 rfl rfl), (ex_m1 5 rfl rfl), ⟨ex_TM, 16, rfl⟩, by decide⟩
theorem ex_c_3_93 : ex_mrP ((3, 93), (62, 1)) := ⟨(ex_m2 122 rfl rfl), (ex_m2 124 rfl rfl), (ex_m0 19 rfl rfl), (ex_m1 5 rfl rfl), ⟨ex_TM, 16, rfl⟩, by decide⟩
theorem ex_c_3_96 : ex_mrP ((3, 96), (63, 1)) := ⟨(ex_m2 118 rfl rfl), (ex_m2 120 rfl rfl), (ex_m0 18 rfl rfl), (ex_m1 5 rfl rfl), ⟨ex_TM, 16, rfl⟩, by decide⟩
theorem ex_c_3_103 : ex_mrP ((3, 103), (64, 1)) := ⟨(ex_m2 110 rfl rfl), (ex_m2 112 rfl rfl), (ex_m0 16 rfl rfl), (ex_m1 5 rfl rfl), ⟨ex_TM, 16, rfl⟩, by decide⟩
theorem ex_c_3_106 : ex_mrP ((3, 106), (55, 1)) := ⟨(ex_m2 150 rfl rfl), (ex_m2 152 rfl rfl), (ex_m0 26 rfl rfl), (ex_m1 5 rfl rfl), ⟨ex_TM, 16, rfl⟩, by decide⟩
theorem ex_c_3_109 : ex_mrP ((3, 109), (50, 0)) := ⟨(ex_m2 99 rfl rfl), (ex_m2 100 rfl rfl), (ex_m1 5 rfl rfl)⟩
theorem ex_c_3_112 : ex_mrP ((3, 112), (65, 1)) := ⟨(ex_m2 102 rfl rfl), (ex_m2 104 rfl rfl), (ex_m0 14 rfl rfl), (ex_m1 5 rfl rfl), ⟨ex_TM, 16, rfl⟩, by decide⟩
theorem ex_c_3_116 : ex_mrP ((3, 116), (70, 1)) := ⟨(ex_m2 179 rfl rfl), (ex_m2 181 rfl rfl), (ex_m0 29 rfl rfl), (ex_m1 5 rfl rfl), ⟨ex_TM, 16, rfl⟩, by decide⟩
theorem ex_c_3_119 : ex_mrP ((3, 119), (71, 1)) := ⟨(ex_m2 191 rfl rfl), (ex_m2 193 rfl rfl), (ex_m0 30 rfl rfl), (ex_m1 5 rfl rfl), ⟨ex_TM, 16, rfl⟩, by decide⟩
theorem ex_c_4_9 : ex_mrP ((4, 9), (86, 0)) := ⟨(ex_m2 36 rfl rfl), (ex_m2 37 rfl rfl), (ex_m1 0 rfl rfl)⟩
theorem ex_c_4_15 : ex_mrP ((4, 15), (14, 2)) := ⟨(ex_m1 8 rfl rfl), (ex_m1 9 rfl rfl), (ex_m1 1 rfl rfl), rfl, rfl, by decide⟩
theorem ex_c_4_20 : ex_mrP ((4, 20), (49, 2)) := ⟨(ex_m2 41 rfl rfl), (ex_m2 42 rfl rfl), (ex_m1 5 rfl rfl), rfl, rfl, by decide⟩
theorem ex_c_4_21 : ex_mrP ((4, 21), (15, 1)) := ⟨(ex_m1 93 rfl rfl), (ex_m1 94 rfl rfl), (ex_m1 95 rfl rfl), (ex_m1 1 rfl rfl), ⟨ex_TX, 14, rfl⟩, by decide⟩
theorem ex_c_4_25 : ex_mrP ((4, 25), (66, 1)) := ⟨(ex_m2 95 rfl rfl), (ex_m2 96 rfl rfl), (ex_m2 97 rfl rfl), (ex_m1 5 rfl rfl), ⟨ex_TM, 16, rfl⟩, by decide⟩
theorem ex_c_4_26 : ex_mrP ((4, 26), (16, 1)) := ⟨(ex_m1 191 rfl rfl), (ex_m1 192 rfl rfl), (ex_m1 193 rfl rfl), (ex_m1 1 rfl rfl), ⟨ex_TX, 14, rfl⟩, by decide⟩
theorem ex_c_4_30 : ex_mrP ((4, 30), (67, 1)) := ⟨(ex_m2 162 rfl rfl), (ex_m2 163 rfl rfl), (ex_m2 164 rfl rfl), (ex_m1 5 rfl rfl), ⟨ex_TM, 16, rfl⟩, by decide⟩
theorem ex_c_4_31 : ex_mrP ((4, 31), (17, 1)) := ⟨(ex_m1 195 rfl rfl), (ex_m1 196 rfl rfl), (ex_m1 197 rfl rfl), (ex_m1 1 rfl rfl), ⟨ex_TX, 14, rfl⟩, by decide⟩
theorem ex_c_4_35 : ex_mrP ((4, 35), (68, 1)) := ⟨(ex_m2 166 rfl rfl), (ex_m2 167 rfl rfl), (ex_m2 168 rfl rfl), (ex_m1 5 rfl rfl), ⟨ex_TM, 16, rfl⟩, by decide⟩
theorem ex_c_4_36 : ex_mrP ((4, 36), (18, 1)) := ⟨(ex_m1 199 rfl rfl), (ex_m1 200 rfl rfl), (ex_m1 201 rfl rfl), (ex_m1 1 rfl rfl), ⟨ex_TX, 14, rfl⟩, by decide⟩
theorem ex_c_4_39 : ex_mrP ((4, 39), (69, 1)) := ⟨(ex_m2 170 rfl rfl), (ex_m2 171 rfl rfl), (ex_m2 172 rfl rfl), (ex_m1 5 rfl rfl), ⟨ex_TM, 16, rfl⟩, by decide⟩
theorem ex_c_4_40 : ex_mrP ((4, 40), (19, 1)) := ⟨(ex_m1 203 rfl rfl), (ex_m1 204 rfl rfl), (ex_m1 205 rfl rfl), (ex_m1 1 rfl rfl), ⟨ex_TX, 14, rfl⟩, by decide⟩
theorem ex_c_4_43 : ex_mrP ((4, 43), (72, 1)) := ⟨(ex_m2 174 rfl rfl), (ex_m2 175 rfl rfl), (ex_m2 176 rfl rfl), (ex_m1 5 rfl rfl), ⟨ex_TM, 16, rfl⟩, by decide⟩
theorem ex_c_4_44 : ex_mrP ((4, 44), (20, 1)) := ⟨(ex_m1 220 rfl rfl), (ex_m1 221 rfl rfl), (ex_m1 222 rfl rfl), (ex_m1 1 rfl rfl), ⟨ex_TX, 14, rfl⟩, by decide⟩
theorem ex_c_4_47 : ex_mrP ((4, 47), (73, 1)) := ⟨(ex_m2 183 rfl rfl), (ex_m2 184 rfl rfl), (ex_m2 185 rfl rfl), (ex_m1 5 rfl rfl), ⟨ex_TM, 16, rfl⟩, by decide⟩
theorem ex_c_4_48 : ex_mrP ((4, 48), (21, 1)) := ⟨(ex_m1 224 rfl rfl), (ex_m1 225 rfl rfl), (ex_m1 226 rfl rfl), (ex_m1 1 rfl rfl), ⟨ex_TX, 14, rfl⟩, by decide⟩
theorem ex_c_4_51 : ex_mrP ((4, 51), (74, 1)) := ⟨(ex_m2 187 rfl rfl), (ex_m2 188 rfl rfl), (ex_m2 189 rfl rfl), (ex_m1 5 rfl rfl), ⟨ex_TM, 16, rfl⟩, by decide⟩
theorem ex_c_4_52 : ex_mrP ((4, 52), (22, 1)) := ⟨(ex_m1 232 rfl rfl), (ex_m1 233 rfl rfl), (ex_m1 234 rfl rfl), (ex_m1 1 rfl rfl), ⟨ex_TX, 14, rfl⟩, by decide⟩
theorem ex_c_4_56 : ex_mrP ((4, 56), (75, 1)) := ⟨(ex_m2 195 rfl rfl), (ex_m2 196 rfl rfl), (ex_m2 197 rfl rfl), (ex_m1 5 rfl rfl), ⟨ex_TM, 16, rfl⟩, by decide⟩
theorem ex_c_4_57 : ex_mrP ((4, 57), (23, 1)) := ⟨(ex_m1 236 rfl rfl), (ex_m1 237 rfl rfl), (ex_m1 238 rfl rfl), (ex_m1 1 rfl rfl), ⟨ex_TX, 14, rfl⟩, by decide⟩
theorem ex_c_4_60 : ex_mrP ((4, 60), (76, 1)) := ⟨(ex_m2 199 rfl rfl), (ex_m2 200 rfl rfl), (ex_m2 201 rfl rfl), (ex_m1 5 rfl rfl), ⟨ex_TM, 16, rfl⟩, by decide⟩
theorem ex_c_4_61 : ex_mrP ((4, 61), (24, 1)) := ⟨(ex_m2 0 rfl rfl), (ex_m2 1 rfl rfl), (ex_m2 2 rfl rfl), (ex_m1 1 rfl rfl), ⟨ex_TX, 14, rfl⟩, by decide⟩
theorem ex_c_4_64 : ex_mrP ((4, 64), (77, 1)) := ⟨(ex_m2 203 rfl rfl), (ex_m2 204 rfl rfl), (ex_m2 205 rfl rfl), (ex_m1 5 rfl rfl), ⟨ex_TM, 16, rfl⟩, by decide⟩
theorem ex_c_4_65 : ex_mrP ((4, 65), (25, 1)) := ⟨(ex_m2 4 rfl rfl), (ex_m2 5 rfl rfl), (ex_m2 6 rfl rfl), (ex_m1 1 rfl rfl), ⟨ex_TX, 14, rfl⟩, by decide⟩
theorem ex_c_4_68 : ex_mrP ((4, 68), (78, 1)) := ⟨(ex_m2 207 rfl rfl), (ex_m2 208 rfl rfl), (ex_m2 209 rfl rfl), (ex_m1 5 rfl rfl), ⟨ex_TM, 16, rfl⟩, by decide⟩
theorem ex_c_4_69 : ex_mrP ((4, 69), (26, 1)) := ⟨(ex_m2 8 rfl rfl), (ex_m2 9 rfl rfl), (ex_m2 10 rfl rfl), (ex_m1 1 rfl rfl), ⟨ex_TX, 14, rfl⟩, by decide⟩
theorem ex_c_4_72 : ex_mrP ((4, 72), (79, 1)) := ⟨(ex_m2 211 rfl rfl), (ex_m2 212 rfl rfl), (ex_m2 213 rfl rfl), (ex_m1 5 rfl rfl), ⟨ex_TM, 16, rfl⟩, by decide⟩
theorem ex_c_4_73 : ex_mrP ((4, 73), (27, 1)) := ⟨(ex_m2 12 rfl rfl), (ex_m2 13 rfl rfl), (ex_m2 14 rfl rfl), (ex_m1 1 rfl rfl), ⟨ex_TX, 14, rfl⟩, by decide⟩
theorem ex_c_4_76 : ex_mrP ((4, 76), (80, 1)) := ⟨(ex_m2 215 rfl rfl), (ex_m2 216 rfl rfl), (ex_m2 217 rfl rfl), (ex_m1 5 rfl rfl), ⟨ex_TM, 16, rfl⟩, by decide⟩
theorem ex_c_4_77 : ex_mrP ((4, 77), (28, 1)) := ⟨(ex_m2 16 rfl rfl), (ex_m2 17 rfl rfl), (ex_m2 18 rfl rfl), (ex_m1 1 rfl rfl), ⟨ex_TX, 14, rfl⟩, by decide⟩
theorem ex_c_4_80 : ex_mrP ((4, 80), (81, 1)) := ⟨(ex_m2 219 rfl rfl), (ex_m2 220 rfl rfl), (ex_m2 221 rfl rfl), (ex_m1 5 rfl rfl), ⟨ex_TM, 16, rfl⟩, by decide⟩
theorem ex_c_4_81 : ex_mrP ((4, 81), (29, 1)) := ⟨(ex_m2 20 rfl rfl), (ex_m2 21 rfl rfl), (ex_m2 22 rfl rfl), (ex_m1 1 rfl rfl), ⟨ex_TX, 14, rfl⟩, by decide⟩
theorem ex_c_4_84 : ex_mrP ((4, 84), (82, 1)) := ⟨(ex_m2 223 rfl rfl), (ex_m2 224 rfl rfl), (ex_m2 225 rfl rfl), (ex_m1 5 rfl rfl), ⟨ex_TM, 16, rfl⟩, by decide⟩
theorem ex_c_4_85 : ex_mrP ((4, 85), (30, 1)) := ⟨(ex_m2 24 rfl rfl), (ex_m2 25 rfl rfl), (ex_m2 26 rfl rfl), (ex_m1 1 rfl rfl), ⟨ex_TX, 14, rfl⟩, by decide⟩
theorem ex_c_4_88 : ex_mrP ((4, 88), (83, 1)) := ⟨(ex_m2 227 rfl rfl), (ex_m2 228 rfl rfl), (ex_m2 229 rfl rfl), (ex_m1 5 rfl rfl), ⟨ex_TM, 16, rfl⟩, by decide⟩
theorem ex_c_4_89 : ex_mrP ((4, 89), (31, 1)) := ⟨(ex_m2 28 rfl rfl), (ex_m2 29 rfl rfl), (ex_m2 30 rfl rfl), (ex_m1 1 rfl rfl), ⟨ex_TX, 14, rfl⟩, by decide⟩
theorem ex_c_4_92 : ex_mrP ((4, 92), (84, 1)) := ⟨(ex_m2 231 rfl rfl), (ex_m2 232 rfl rfl), (ex_m2 233 rfl rfl), (ex_m1 5 rfl rfl), ⟨ex_TM, 16, rfl⟩, by decide⟩
theorem ex_c_4_93 : ex_mrP ((4, 93), (32, 1)) := ⟨(ex_m2 32 rfl rfl), (ex_m2 33 rfl rfl), (ex_m2 34 rfl rfl), (ex_m1 1 rfl rfl), ⟨ex_TX, 14, rfl⟩, by decide⟩
theorem ex_c_4_96 : ex_mrP ((4, 96), (85, 1)) := ⟨(ex_m2 235 rfl rfl), (ex_m2 236 rfl rfl), (ex_m2 237 rfl rfl), (ex_m1 5 rfl rfl), ⟨ex_TM, 16, rfl⟩, by decide⟩
theorem ex_mrL_ok : ∀ t ∈ ex_mrL, ex_mrP t := List.forall_mem_cons.mpr ⟨ex_c_2_3, List.forall_mem_cons.mpr ⟨ex_c_1_3, List.forall_mem_cons.mpr ⟨ex_c_1_18, List.forall_mem_cons.mpr ⟨ex_c_0_1, List.forall_mem_cons.mpr ⟨ex_c_0_9, List.forall_mem_cons.mpr ⟨ex_c_0_15, List.forall_mem_cons.mpr ⟨ex_c_0_31, List.forall_mem_cons.mpr ⟨ex_c_0_43, List.forall_mem_cons.mpr ⟨ex_c_0_61, List.forall_mem_cons.mpr ⟨ex_c_0_65, List.forall_mem_cons.mpr ⟨ex_c_0_68, List.forall_mem_cons.mpr ⟨ex_c_0_72, List.forall_mem_cons.mpr ⟨ex_c_0_76, List.forall_mem_cons.mpr ⟨ex_c_0_82, List.forall_mem_cons.mpr ⟨ex_c_0_85, List.forall_mem_cons.mpr ⟨ex_c_0_91, List.forall_mem_cons.mpr ⟨ex_c_0_94, List.forall_mem_cons.mpr ⟨ex_c_0_97, List.forall_mem_cons.mpr ⟨ex_c_0_100, List.forall_mem_cons.mpr ⟨ex_c_0_104, List.forall_mem_cons.mpr ⟨ex_c_0_107, List.forall_mem_cons.mpr ⟨ex_c_0_111, List.forall_mem_cons.mpr ⟨ex_c_0_118, List.forall_mem_cons.mpr ⟨ex_c_0_124, List.forall_mem_cons.mpr ⟨ex_c_0_127, List.forall_mem_cons.mpr ⟨ex_c_0_133, List.forall_mem_cons.mpr ⟨ex_c_0_139, List.forall_mem_cons.mpr ⟨ex_c_0_143, List.forall_mem_cons.mpr ⟨ex_c_0_146, List.forall_mem_cons.mpr ⟨ex_c_0_149, List.forall_mem_cons.mpr ⟨ex_c_0_152, List.forall_mem_cons.mpr ⟨ex_c_0_155, List.forall_mem_cons.mpr ⟨ex_c_0_158, List.forall_mem_cons.mpr ⟨ex_c_0_161, List.forall_mem_cons.mpr ⟨ex_c_0_162, List.forall_mem_cons.mpr ⟨ex_c_0_165, List.forall_mem_cons.mpr ⟨ex_c_3_1, List.forall_mem_cons.mpr ⟨ex_c_3_45, List.forall_mem_cons.mpr ⟨ex_c_3_49, List.forall_mem_cons.mpr ⟨ex_c_3_55, List.forall_mem_cons.mpr ⟨ex_c_3_59, List.forall_mem_cons.mpr ⟨ex_c_3_65, List.forall_mem_cons.mpr ⟨ex_c_3_69, List.forall_mem_cons.mpr ⟨ex_c_3_76, List.forall_mem_cons.mpr ⟨ex_c_3_80, List.forall_mem_cons.mpr ⟨ex_c_3_83, List.forall_mem_cons.mpr ⟨ex_c_3_87, List.forall_mem_cons.mpr ⟨ex_c_3_93, List.forall_mem_cons.mpr ⟨ex_c_3_96, List.forall_mem_cons.mpr ⟨ex_c_3_103, List.forall_mem_cons.mpr ⟨ex_c_3_106, List.forall_mem_cons.mpr ⟨ex_c_3_109, List.forall_mem_cons.mpr ⟨ex_c_3_112, List.forall_mem_cons.mpr ⟨ex_c_3_116, List.forall_mem_cons.mpr ⟨ex_c_3_119, List.forall_mem_cons.mpr ⟨ex_c_4_9, List.forall_mem_cons.mpr ⟨ex_c_4_15, List.forall_mem_cons.mpr ⟨ex_c_4_20, List.forall_mem_cons.mpr ⟨ex_c_4_21, List.forall_mem_cons.mpr ⟨ex_c_4_25, List.forall_mem_cons.mpr ⟨ex_c_4_26, List.forall_mem_cons.mpr ⟨ex_c_4_30, List.forall_mem_cons.mpr ⟨ex_c_4_31, List.forall_mem_cons.mpr ⟨ex_c_4_35, List.forall_mem_cons.mpr ⟨ex_c_4_36, List.forall_mem_cons.mpr ⟨ex_c_4_39, List.forall_mem_cons.mpr ⟨ex_c_4_40, List.forall_mem_cons.mpr ⟨ex_c_4_43, List.forall_mem_cons.mpr ⟨ex_c_4_44, List.forall_mem_cons.mpr ⟨ex_c_4_47, List.forall_mem_cons.mpr ⟨ex_c_4_48, List.forall_mem_cons.mpr ⟨ex_c_4_51, List.forall_mem_cons.mpr ⟨ex_c_4_52, List.forall_mem_cons.mpr ⟨ex_c_4_56, List.forall_mem_cons.mpr ⟨ex_c_4_57, List.forall_mem_cons.mpr ⟨ex_c_4_60, List.forall_mem_cons.mpr ⟨ex_c_4_61, List.forall_mem_cons.mpr ⟨ex_c_4_64, List.forall_mem_cons.mpr ⟨ex_c_4_65, List.forall_mem_cons.mpr ⟨ex_c_4_68, List.forall_mem_cons.mpr ⟨ex_c_4_69, List.forall_mem_cons.mpr ⟨ex_c_4_72, List.forall_mem_cons.mpr ⟨ex_c_4_73, List.forall_mem_cons.mpr ⟨ex_c_4_76, List.forall_mem_cons.mpr ⟨ex_c_4_77, List.forall_mem_cons.mpr ⟨ex_c_4_80, List.forall_mem_cons.mpr ⟨ex_c_4_81, List.forall_mem_cons.mpr ⟨ex_c_4_84, List.forall_mem_cons.mpr ⟨ex_c_4_85, List.forall_mem_cons.mpr ⟨ex_c_4_88, List.forall_mem_cons.mpr ⟨ex_c_4_89, List.forall_mem_cons.mpr ⟨ex_c_4_92, List.forall_mem_cons.mpr ⟨ex_c_4_93, List.forall_mem_cons.mpr ⟨ex_c_4_96, fun _ h => absurd h List.not_mem_nil⟩⟩⟩⟩⟩⟩⟩⟩⟩⟩⟩⟩⟩⟩⟩⟩⟩⟩⟩⟩⟩⟩⟩⟩⟩⟩⟩⟩⟩⟩⟩⟩⟩⟩⟩⟩⟩⟩⟩⟩⟩⟩⟩⟩⟩⟩⟩⟩⟩⟩⟩⟩⟩⟩⟩⟩⟩⟩⟩⟩⟩⟩⟩⟩⟩⟩⟩⟩⟩⟩⟩⟩⟩⟩⟩⟩⟩⟩⟩⟩⟩⟩⟩⟩⟩⟩⟩⟩⟩⟩⟩⟩⟩⟩
/-! what the tables' words say of the tables of the small machine -/
theorem ex_ws_good : ∀ w ∈ ex_ws, (w.onTables && w.keeps) = true ∨ ∃ ty, w = .arrayClass ty := fun w h => good_of_word (List.mem_filter.mp h).2
theorem ex_fr_ok {y i ci k fk : Nat} {fin : Bool} (h : ex_fr y i = some (ci, k, fk, fin)) : ∃ (Cn : String) (T : u_T) (N : Nat), ex_cl[ci]? = some (Cn, T, N) ∧ k < N ∧ Cond.fieldLink (ex_own y) i (T k).1 (T k).2.1 (T k).2.2.1 ∈ ex_ws ∧ (T k).2.2.2 = fin ∧ (∃ ty, parseFieldDescriptor (T k).2.2.1 = some ty ∧ ex_fkt fk ty) ∧ (fin = true → ex_cix y = ci → (T k).1 = ex_own y) := by
  unfold ex_fr at h
  obtain ⟨t, ht, he⟩ := Option.map_eq_some_iff.mp h
  have h1 := List.find?_some ht
  have h2 := ex_frL_ok t (List.mem_of_find?_eq_some ht)
  obtain ⟨⟨c0, i0⟩, v0⟩ := t
  simp only at he
  subst he
  simp only [Bool.and_eq_true, beq_iff_eq] at h1
  obtain ⟨e1, e2⟩ := h1
  subst e1
  subst e2
  obtain ⟨Cn, T, N, g1, g2, g3, g4, g5, g6⟩ := h2
  exact ⟨Cn, T, N, g1, g2, g3, g4, g5, fun _ q => g6 q⟩
theorem ex_cl_ok {ci : Nat} {Cn : String} {T : u_T} {N : Nat} (h : ex_cl[ci]? = some (Cn, T, N)) : (∀ w ∈ u_ws Cn T N, w ∈ ex_ws) ∧ (∃ ty0 : Nat → FieldType, (∀ k, k < N → parseFieldDescriptor (T k).2.2.1 = some (ty0 k)) ∧ ∀ j, j < N → defaultValue (ty0 j) = vp_V (ex_dv ci) j) ∧ ∀ a, a < N → ∀ b, b < N → a ≠ b → (T a).2.1 ≠ (T b).2.1 := by
  rcases ci with _ | _ | _ | _ | ci
  · obtain ⟨rfl, rfl, rfl⟩ : "EpochCache" = Cn ∧ ex_TX = T ∧ 14 = N := by simpa using h
    exact ⟨ex_lX, ⟨ex_tX, by decide +kernel, by decide +kernel⟩, by decide +kernel⟩
  · obtain ⟨rfl, rfl, rfl⟩ : "EpochCache$Placement" = Cn ∧ ex_TP = T ∧ 2 = N := by simpa using h
    exact ⟨ex_lP, ⟨ex_tP, by decide +kernel, by decide +kernel⟩, by decide +kernel⟩
  · obtain ⟨rfl, rfl, rfl⟩ : "EpochCache$BlockList" = Cn ∧ ex_TB = T ∧ 2 = N := by simpa using h
    exact ⟨ex_lB, ⟨ex_tB, by decide +kernel, by decide +kernel⟩, by decide +kernel⟩
  · obtain ⟨rfl, rfl, rfl⟩ : "EpochCacheModel" = Cn ∧ ex_TM = T ∧ 16 = N := by simpa using h
    exact ⟨ex_lM, ⟨ex_tM, by decide +kernel, by decide +kernel⟩, by decide +kernel⟩
  · simp at h
theorem ex_ini_ok {y : Nat} (h : ex_ini y = true) : (ex_nam y).name = "<init>" := by
  unfold ex_ini at h
  split at h <;> first | rfl | cases h
theorem ex_nr_ok {y i ci : Nat} (h : ex_nr y i = some ci) : ∃ (Cn : String) (T : u_T) (N : Nat), ex_cl[ci]? = some (Cn, T, N) ∧ Cond.classLink (ex_own y) i Cn ∈ ex_ws ∧ Cond.instantiable Cn N ∈ ex_ws ∧ Cond.initialized Cn ∈ ex_ws ∧ (ex_da ci).length = N := by
  unfold ex_nr at h
  obtain ⟨t, ht, he⟩ := Option.map_eq_some_iff.mp h
  have h1 := List.find?_some ht
  have h2 := ex_nrL_ok t (List.mem_of_find?_eq_some ht)
  obtain ⟨⟨c0, i0⟩, v0⟩ := t
  simp only at he
  subst he
  simp only [Bool.and_eq_true, beq_iff_eq] at h1
  obtain ⟨e1, e2⟩ := h1
  subst e1
  subst e2
  exact h2
theorem ex_ar_ok {y i : Nat} (h : ex_ar y i = true) : Cond.classLink (ex_own y) i ex_BL ∈ ex_ws := by
  unfold ex_ar at h
  obtain ⟨t, ht, he⟩ := List.any_eq_true.mp h
  have h2 := ex_arL_ok t ht
  obtain ⟨c0, i0⟩ := t
  simp only [Bool.and_eq_true, beq_iff_eq] at he
  obtain ⟨e1, e2⟩ := he
  subst e1
  subst e2
  exact h2
theorem ex_kn_ok {y i : Nat} {v : Int32} (h : ex_kn y i = some v) : Cond.constant (ex_own y) i v ∈ ex_ws := by
  unfold ex_kn at h
  obtain ⟨t, ht, he⟩ := Option.map_eq_some_iff.mp h
  have h1 := List.find?_some ht
  have h2 := ex_knL_ok t (List.mem_of_find?_eq_some ht)
  obtain ⟨⟨c0, i0⟩, v0⟩ := t
  simp only at he
  subst he
  simp only [Bool.and_eq_true, beq_iff_eq] at h1
  obtain ⟨e1, e2⟩ := h1
  subst e1
  subst e2
  exact h2
theorem ex_bl_ok : ∃ (T : u_T) (N : Nat), ex_cl[ex_bl]? = some (ex_BL, T, N) := ⟨ex_TB, 2, rfl⟩
/-! methods -/
def ex_yB (y : Nat) : Bool := decide ((ex_nam y).cls = ex_own y) && (decide ((ex_nam y).cls ≠ "java/lang/invoke/MethodHandle") && (decide ((ex_nam y).cls ≠ "java/lang/invoke/VarHandle") && (decide ((parseMethodDescriptor (ex_nam y).desc).map (fun d => d.parameters.length) = some (ex_np y)) && (plainName (ex_nam y).cls && (decide (ex_mxl y ≤ 21) && decide (ex_np y ≤ ex_mxl y))))))
set_option maxRecDepth 100000 in
theorem ex_yB_ok : (List.range ex_ny).all ex_yB = true := by decide +kernel
theorem ex_y_ok {y : Nat} (h : y < ex_ny) : Cond.code (ex_nam y) (ex_cod y) (ex_mxl y) (ex_rty y) ∈ ex_ws ∧ (ex_nam y).cls = ex_own y ∧ (ex_nam y).cls ≠ "java/lang/invoke/MethodHandle" ∧ (ex_nam y).cls ≠ "java/lang/invoke/VarHandle" ∧ (parseMethodDescriptor (ex_nam y).desc).map (fun d => d.parameters.length) = some (ex_np y) ∧ plainName (ex_nam y).cls = true ∧ ex_mxl y ≤ 21 := by
  have h2 := List.all_eq_true.mp ex_yB_ok y (List.mem_range.mpr h)
  simp only [ex_yB, Bool.and_eq_true, decide_eq_true_eq] at h2
  obtain ⟨g2, g3, g4, g5, g6, g7, -⟩ := h2
  exact ⟨ex_yL_ok y h, g2, g3, g4, g5, g6, g7⟩
theorem ex_np_ok {y : Nat} (h : y < ex_ny) : ex_np y ≤ ex_mxl y := by
  have h2 := List.all_eq_true.mp ex_yB_ok y (List.mem_range.mpr h)
  simp only [ex_yB, Bool.and_eq_true, decide_eq_true_eq] at h2
  exact h2.2.2.2.2.2.2
theorem ex_mr_at {y i y2 k : Nat} (h : ex_mr y i = some (y2, k)) : ex_mrP ((ex_cix y, i), (y2, k)) := by
  unfold ex_mr at h
  obtain ⟨t, ht, he⟩ := Option.map_eq_some_iff.mp h
  have h1 := List.find?_some ht
  have h2 := ex_mrL_ok t (List.mem_of_find?_eq_some ht)
  obtain ⟨⟨c0, i0⟩, v0⟩ := t
  simp only at he
  subst he
  simp only [Bool.and_eq_true, beq_iff_eq] at h1
  obtain ⟨e1, e2⟩ := h1
  subst e1
  subst e2
  exact h2
theorem ex_mr_S {y i y2 : Nat} (h : ex_mr y i = some (y2, 0)) : Cond.methodLink (ex_own y) i (ex_nam y2) ∈ ex_ws ∧ Cond.static (ex_nam y2) ∈ ex_ws ∧ Cond.initialized (ex_nam y2).cls ∈ ex_ws := ex_mr_at h
theorem ex_mr_V {y i y2 : Nat} (h : ex_mr y i = some (y2, 1)) : Cond.methodLink (ex_own y) i (ex_nam y2) ∈ ex_ws ∧ Cond.instanceMethod (ex_nam y2) ∈ ex_ws ∧ Cond.selects (ex_own y2) (ex_nam y2) (ex_nam y2) ∈ ex_ws ∧ Cond.initialized (ex_nam y2).cls ∈ ex_ws ∧ ∃ (T : u_T) (N : Nat), ex_cl[ex_cix y2]? = some (ex_own y2, T, N) := by
  obtain ⟨g1, g2, g3, g4, g5, -⟩ := ex_mr_at h
  exact ⟨g1, g2, g3, g4, g5⟩
theorem ex_np_V {y i y2 : Nat} (h : ex_mr y i = some (y2, 1)) : ex_np y2 + 1 ≤ ex_mxl y2 := by
  obtain ⟨g1, g2, g3, g4, g5, g6⟩ := ex_mr_at h
  exact g6
theorem ex_mr_I {y i y2 : Nat} (h : ex_mr y i = some (y2, 2)) : Cond.methodLink (ex_own y) i (ex_nam y2) ∈ ex_ws ∧ Cond.instanceMethod (ex_nam y2) ∈ ex_ws ∧ Cond.initialized (ex_nam y2).cls ∈ ex_ws ∧ (ex_nam y2).name = "<init>" ∧ ex_rty y2 = none := by
  obtain ⟨g1, g2, g3, g4, g5, -⟩ := ex_mr_at h
  exact ⟨g1, g2, g3, g4, g5⟩
theorem ex_np_I {y i y2 : Nat} (h : ex_mr y i = some (y2, 2)) : ex_np y2 + 1 ≤ ex_mxl y2 := by
  obtain ⟨g1, g2, g3, g4, g5, g6⟩ := ex_mr_at h
  exact g6
theorem ex_mr_max {y i y2 : Nat} (h : ex_mr y i = some (y2, 3)) : Cond.methodLink (ex_own y) i Lib.Math.max.name ∈ ex_ws ∧ Cond.static Lib.Math.max.name ∈ ex_ws ∧ Cond.initialized "java/lang/Math" ∈ ex_ws ∧ Cond.code Lib.Math.max.name Lib.Math.max.code 2 (some .int) ∈ ex_ws := ex_mr_at h
theorem ex_mr_min {y i y2 : Nat} (h : ex_mr y i = some (y2, 4)) : Cond.methodLink (ex_own y) i Lib.Math.min.name ∈ ex_ws ∧ Cond.static Lib.Math.min.name ∈ ex_ws ∧ Cond.initialized "java/lang/Math" ∈ ex_ws ∧ Cond.code Lib.Math.min.name Lib.Math.min.code 2 (some .int) ∈ ex_ws := ex_mr_at h
theorem ex_mr_obj {y i y2 : Nat} (h : ex_mr y i = some (y2, 5)) : Cond.methodLink (ex_own y) i objectInit ∈ ex_ws ∧ Cond.instanceMethod objectInit ∈ ex_ws ∧ Cond.code objectInit ⟨#[0xb1]⟩ 1 none ∈ ex_ws := ex_mr_at h
