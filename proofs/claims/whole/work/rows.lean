section
-- ===== PART A: goes FIRST, ahead of the names: the tables' words, and 'selects' of the private methods out of them =====
/-- a private method of a class that the tables say can be made, by its rows of tables_1 -/
def lw_okq (q : MethodName × Nat) : Prop := (q.1.cls ≠ "java/lang/invoke/MethodHandle" ∧ q.1.cls ≠ "java/lang/invoke/VarHandle") ∧ Cond.instantiable q.1.cls q.2 ∈ tables_1 ∧ Cond.privateMethod q.1 ∈ tables_1 ∧ Cond.instanceMethod q.1 ∈ tables_1
theorem lw_p0 : lw_okq (⟨"EpochCache", "access", "(I)V"⟩, 14) := ⟨⟨by decide +kernel, by decide +kernel⟩, List.mem_of_getElem? (i := 7) (by decide +kernel), List.mem_of_getElem? (i := 101) (by decide +kernel), List.mem_of_getElem? (i := 102) (by decide +kernel)⟩
theorem lw_p1 : lw_okq (⟨"EpochCache", "bringInto", "(LEpochCache$BlockList;I)V"⟩, 14) := ⟨⟨by decide +kernel, by decide +kernel⟩, List.mem_of_getElem? (i := 7) (by decide +kernel), List.mem_of_getElem? (i := 109) (by decide +kernel), List.mem_of_getElem? (i := 110) (by decide +kernel)⟩
theorem lw_p2 : lw_okq (⟨"EpochCache", "replaceFor", "(I)V"⟩, 14) := ⟨⟨by decide +kernel, by decide +kernel⟩, List.mem_of_getElem? (i := 7) (by decide +kernel), List.mem_of_getElem? (i := 128) (by decide +kernel), List.mem_of_getElem? (i := 129) (by decide +kernel)⟩
theorem lw_p3 : lw_okq (⟨"EpochCache", "giveUp", "(I)V"⟩, 14) := ⟨⟨by decide +kernel, by decide +kernel⟩, List.mem_of_getElem? (i := 7) (by decide +kernel), List.mem_of_getElem? (i := 136) (by decide +kernel), List.mem_of_getElem? (i := 137) (by decide +kernel)⟩
theorem lw_p4 : lw_okq (⟨"EpochCache", "endEpoch", "()V"⟩, 14) := ⟨⟨by decide +kernel, by decide +kernel⟩, List.mem_of_getElem? (i := 7) (by decide +kernel), List.mem_of_getElem? (i := 144) (by decide +kernel), List.mem_of_getElem? (i := 145) (by decide +kernel)⟩
theorem lw_p5 : lw_okq (⟨"EpochCache", "drainThrough", "(I)I"⟩, 14) := ⟨⟨by decide +kernel, by decide +kernel⟩, List.mem_of_getElem? (i := 7) (by decide +kernel), List.mem_of_getElem? (i := 152) (by decide +kernel), List.mem_of_getElem? (i := 153) (by decide +kernel)⟩
theorem lw_p6 : lw_okq (⟨"EpochCache", "drain", "(I)V"⟩, 14) := ⟨⟨by decide +kernel, by decide +kernel⟩, List.mem_of_getElem? (i := 7) (by decide +kernel), List.mem_of_getElem? (i := 160) (by decide +kernel), List.mem_of_getElem? (i := 161) (by decide +kernel)⟩
theorem lw_p7 : lw_okq (⟨"EpochCache", "makeRoomForStranger", "(I)V"⟩, 14) := ⟨⟨by decide +kernel, by decide +kernel⟩, List.mem_of_getElem? (i := 7) (by decide +kernel), List.mem_of_getElem? (i := 168) (by decide +kernel), List.mem_of_getElem? (i := 169) (by decide +kernel)⟩
theorem lw_p8 : lw_okq (⟨"EpochCache", "place", "(IIZ)I"⟩, 14) := ⟨⟨by decide +kernel, by decide +kernel⟩, List.mem_of_getElem? (i := 7) (by decide +kernel), List.mem_of_getElem? (i := 172) (by decide +kernel), List.mem_of_getElem? (i := 173) (by decide +kernel)⟩
theorem lw_p9 : lw_okq (⟨"EpochCache", "newSlot", "()I"⟩, 14) := ⟨⟨by decide +kernel, by decide +kernel⟩, List.mem_of_getElem? (i := 7) (by decide +kernel), List.mem_of_getElem? (i := 176) (by decide +kernel), List.mem_of_getElem? (i := 177) (by decide +kernel)⟩
theorem lw_p10 : lw_okq (⟨"EpochCache", "leastFree", "()I"⟩, 14) := ⟨⟨by decide +kernel, by decide +kernel⟩, List.mem_of_getElem? (i := 7) (by decide +kernel), List.mem_of_getElem? (i := 180) (by decide +kernel), List.mem_of_getElem? (i := 181) (by decide +kernel)⟩
theorem lw_p11 : lw_okq (⟨"EpochCache", "isFree", "(I)Z"⟩, 14) := ⟨⟨by decide +kernel, by decide +kernel⟩, List.mem_of_getElem? (i := 7) (by decide +kernel), List.mem_of_getElem? (i := 184) (by decide +kernel), List.mem_of_getElem? (i := 185) (by decide +kernel)⟩
theorem lw_p12 : lw_okq (⟨"EpochCache", "numberOf", "(I)I"⟩, 14) := ⟨⟨by decide +kernel, by decide +kernel⟩, List.mem_of_getElem? (i := 7) (by decide +kernel), List.mem_of_getElem? (i := 188) (by decide +kernel), List.mem_of_getElem? (i := 189) (by decide +kernel)⟩
theorem lw_p13 : lw_okq (⟨"EpochCache", "forgetLists", "()V"⟩, 14) := ⟨⟨by decide +kernel, by decide +kernel⟩, List.mem_of_getElem? (i := 7) (by decide +kernel), List.mem_of_getElem? (i := 213) (by decide +kernel), List.mem_of_getElem? (i := 214) (by decide +kernel)⟩
theorem lw_p14 : lw_okq (⟨"EpochCacheModel", "access", "(I)V"⟩, 16) := ⟨⟨by decide +kernel, by decide +kernel⟩, List.mem_of_getElem? (i := 280) (by decide +kernel), List.mem_of_getElem? (i := 343) (by decide +kernel), List.mem_of_getElem? (i := 344) (by decide +kernel)⟩
theorem lw_p15 : lw_okq (⟨"EpochCacheModel", "comes", "(II)V"⟩, 16) := ⟨⟨by decide +kernel, by decide +kernel⟩, List.mem_of_getElem? (i := 280) (by decide +kernel), List.mem_of_getElem? (i := 347) (by decide +kernel), List.mem_of_getElem? (i := 348) (by decide +kernel)⟩
def lw_privs_1 : List (MethodName × Nat) := [(⟨"EpochCache", "access", "(I)V"⟩, 14), (⟨"EpochCache", "bringInto", "(LEpochCache$BlockList;I)V"⟩, 14), (⟨"EpochCache", "replaceFor", "(I)V"⟩, 14), (⟨"EpochCache", "giveUp", "(I)V"⟩, 14), (⟨"EpochCache", "endEpoch", "()V"⟩, 14), (⟨"EpochCache", "drainThrough", "(I)I"⟩, 14), (⟨"EpochCache", "drain", "(I)V"⟩, 14), (⟨"EpochCache", "makeRoomForStranger", "(I)V"⟩, 14), (⟨"EpochCache", "place", "(IIZ)I"⟩, 14), (⟨"EpochCache", "newSlot", "()I"⟩, 14), (⟨"EpochCache", "leastFree", "()I"⟩, 14), (⟨"EpochCache", "isFree", "(I)Z"⟩, 14), (⟨"EpochCache", "numberOf", "(I)I"⟩, 14), (⟨"EpochCache", "forgetLists", "()V"⟩, 14), (⟨"EpochCacheModel", "access", "(I)V"⟩, 16), (⟨"EpochCacheModel", "comes", "(II)V"⟩, 16)]
theorem lw_r1 : ∀ q ∈ lw_privs_1, lw_okq q := List.forall_mem_cons.mpr ⟨lw_p0, List.forall_mem_cons.mpr ⟨lw_p1, List.forall_mem_cons.mpr ⟨lw_p2, List.forall_mem_cons.mpr ⟨lw_p3, List.forall_mem_cons.mpr ⟨lw_p4, List.forall_mem_cons.mpr ⟨lw_p5, List.forall_mem_cons.mpr ⟨lw_p6, List.forall_mem_cons.mpr ⟨lw_p7, List.forall_mem_cons.mpr ⟨lw_p8, List.forall_mem_cons.mpr ⟨lw_p9, List.forall_mem_cons.mpr ⟨lw_p10, List.forall_mem_cons.mpr ⟨lw_p11, List.forall_mem_cons.mpr ⟨lw_p12, List.forall_mem_cons.mpr ⟨lw_p13, List.forall_mem_cons.mpr ⟨lw_p14, List.forall_mem_cons.mpr ⟨lw_p15, fun _ h => absurd h List.not_mem_nil⟩⟩⟩⟩⟩⟩⟩⟩⟩⟩⟩⟩⟩⟩⟩⟩
theorem lw_p16 : lw_okq (⟨"EpochCacheModel", "missed", "(I)V"⟩, 16) := ⟨⟨by decide +kernel, by decide +kernel⟩, List.mem_of_getElem? (i := 280) (by decide +kernel), List.mem_of_getElem? (i := 351) (by decide +kernel), List.mem_of_getElem? (i := 352) (by decide +kernel)⟩
theorem lw_p17 : lw_okq (⟨"EpochCacheModel", "sizeOf", "(I)I"⟩, 16) := ⟨⟨by decide +kernel, by decide +kernel⟩, List.mem_of_getElem? (i := 280) (by decide +kernel), List.mem_of_getElem? (i := 355) (by decide +kernel), List.mem_of_getElem? (i := 356) (by decide +kernel)⟩
theorem lw_p18 : lw_okq (⟨"EpochCacheModel", "replaceFor", "(I)V"⟩, 16) := ⟨⟨by decide +kernel, by decide +kernel⟩, List.mem_of_getElem? (i := 280) (by decide +kernel), List.mem_of_getElem? (i := 359) (by decide +kernel), List.mem_of_getElem? (i := 360) (by decide +kernel)⟩
theorem lw_p19 : lw_okq (⟨"EpochCacheModel", "giveUp", "(II)V"⟩, 16) := ⟨⟨by decide +kernel, by decide +kernel⟩, List.mem_of_getElem? (i := 280) (by decide +kernel), List.mem_of_getElem? (i := 363) (by decide +kernel), List.mem_of_getElem? (i := 364) (by decide +kernel)⟩
theorem lw_p20 : lw_okq (⟨"EpochCacheModel", "nth", "(II)I"⟩, 16) := ⟨⟨by decide +kernel, by decide +kernel⟩, List.mem_of_getElem? (i := 280) (by decide +kernel), List.mem_of_getElem? (i := 367) (by decide +kernel), List.mem_of_getElem? (i := 368) (by decide +kernel)⟩
theorem lw_p21 : lw_okq (⟨"EpochCacheModel", "flushed", "()I"⟩, 16) := ⟨⟨by decide +kernel, by decide +kernel⟩, List.mem_of_getElem? (i := 280) (by decide +kernel), List.mem_of_getElem? (i := 371) (by decide +kernel), List.mem_of_getElem? (i := 372) (by decide +kernel)⟩
theorem lw_p22 : lw_okq (⟨"EpochCacheModel", "writeJournal", "()V"⟩, 16) := ⟨⟨by decide +kernel, by decide +kernel⟩, List.mem_of_getElem? (i := 280) (by decide +kernel), List.mem_of_getElem? (i := 375) (by decide +kernel), List.mem_of_getElem? (i := 376) (by decide +kernel)⟩
theorem lw_p23 : lw_okq (⟨"EpochCacheModel", "drainBelow", "(I)I"⟩, 16) := ⟨⟨by decide +kernel, by decide +kernel⟩, List.mem_of_getElem? (i := 280) (by decide +kernel), List.mem_of_getElem? (i := 379) (by decide +kernel), List.mem_of_getElem? (i := 380) (by decide +kernel)⟩
theorem lw_p24 : lw_okq (⟨"EpochCacheModel", "firstBelow", "(I)I"⟩, 16) := ⟨⟨by decide +kernel, by decide +kernel⟩, List.mem_of_getElem? (i := 280) (by decide +kernel), List.mem_of_getElem? (i := 383) (by decide +kernel), List.mem_of_getElem? (i := 384) (by decide +kernel)⟩
theorem lw_p25 : lw_okq (⟨"EpochCacheModel", "drain", "(I)V"⟩, 16) := ⟨⟨by decide +kernel, by decide +kernel⟩, List.mem_of_getElem? (i := 280) (by decide +kernel), List.mem_of_getElem? (i := 387) (by decide +kernel), List.mem_of_getElem? (i := 388) (by decide +kernel)⟩
theorem lw_p26 : lw_okq (⟨"EpochCacheModel", "newSlot", "()I"⟩, 16) := ⟨⟨by decide +kernel, by decide +kernel⟩, List.mem_of_getElem? (i := 280) (by decide +kernel), List.mem_of_getElem? (i := 391) (by decide +kernel), List.mem_of_getElem? (i := 392) (by decide +kernel)⟩
theorem lw_p27 : lw_okq (⟨"EpochCacheModel", "leastFree", "()I"⟩, 16) := ⟨⟨by decide +kernel, by decide +kernel⟩, List.mem_of_getElem? (i := 280) (by decide +kernel), List.mem_of_getElem? (i := 395) (by decide +kernel), List.mem_of_getElem? (i := 396) (by decide +kernel)⟩
theorem lw_p28 : lw_okq (⟨"EpochCacheModel", "isFree", "(I)Z"⟩, 16) := ⟨⟨by decide +kernel, by decide +kernel⟩, List.mem_of_getElem? (i := 280) (by decide +kernel), List.mem_of_getElem? (i := 399) (by decide +kernel), List.mem_of_getElem? (i := 400) (by decide +kernel)⟩
theorem lw_p29 : lw_okq (⟨"EpochCacheModel", "empty", "()V"⟩, 16) := ⟨⟨by decide +kernel, by decide +kernel⟩, List.mem_of_getElem? (i := 280) (by decide +kernel), List.mem_of_getElem? (i := 420) (by decide +kernel), List.mem_of_getElem? (i := 421) (by decide +kernel)⟩
theorem lw_p30 : lw_okq (⟨"EpochCacheModel", "dirties", "()I"⟩, 16) := ⟨⟨by decide +kernel, by decide +kernel⟩, List.mem_of_getElem? (i := 280) (by decide +kernel), List.mem_of_getElem? (i := 432) (by decide +kernel), List.mem_of_getElem? (i := 433) (by decide +kernel)⟩
def lw_privs_2 : List (MethodName × Nat) := [(⟨"EpochCacheModel", "missed", "(I)V"⟩, 16), (⟨"EpochCacheModel", "sizeOf", "(I)I"⟩, 16), (⟨"EpochCacheModel", "replaceFor", "(I)V"⟩, 16), (⟨"EpochCacheModel", "giveUp", "(II)V"⟩, 16), (⟨"EpochCacheModel", "nth", "(II)I"⟩, 16), (⟨"EpochCacheModel", "flushed", "()I"⟩, 16), (⟨"EpochCacheModel", "writeJournal", "()V"⟩, 16), (⟨"EpochCacheModel", "drainBelow", "(I)I"⟩, 16), (⟨"EpochCacheModel", "firstBelow", "(I)I"⟩, 16), (⟨"EpochCacheModel", "drain", "(I)V"⟩, 16), (⟨"EpochCacheModel", "newSlot", "()I"⟩, 16), (⟨"EpochCacheModel", "leastFree", "()I"⟩, 16), (⟨"EpochCacheModel", "isFree", "(I)Z"⟩, 16), (⟨"EpochCacheModel", "empty", "()V"⟩, 16), (⟨"EpochCacheModel", "dirties", "()I"⟩, 16)]
theorem lw_r2 : ∀ q ∈ lw_privs_2, lw_okq q := List.forall_mem_cons.mpr ⟨lw_p16, List.forall_mem_cons.mpr ⟨lw_p17, List.forall_mem_cons.mpr ⟨lw_p18, List.forall_mem_cons.mpr ⟨lw_p19, List.forall_mem_cons.mpr ⟨lw_p20, List.forall_mem_cons.mpr ⟨lw_p21, List.forall_mem_cons.mpr ⟨lw_p22, List.forall_mem_cons.mpr ⟨lw_p23, List.forall_mem_cons.mpr ⟨lw_p24, List.forall_mem_cons.mpr ⟨lw_p25, List.forall_mem_cons.mpr ⟨lw_p26, List.forall_mem_cons.mpr ⟨lw_p27, List.forall_mem_cons.mpr ⟨lw_p28, List.forall_mem_cons.mpr ⟨lw_p29, List.forall_mem_cons.mpr ⟨lw_p30, fun _ h => absurd h List.not_mem_nil⟩⟩⟩⟩⟩⟩⟩⟩⟩⟩⟩⟩⟩⟩⟩
def lw_privs : List (MethodName × Nat) := lw_privs_1 ++ (lw_privs_2)
def lw_tbl : List Cond := k2_sels lw_privs ++ tables_1
theorem lw_privs_ok : ∀ q ∈ lw_privs, lw_okq q := by
  show ∀ q ∈ lw_privs_1 ++ (lw_privs_2), lw_okq q
  exact List.forall_mem_append.mpr ⟨lw_r1, lw_r2⟩
end
section
/-! names, tables, decode rows: printed by gen.py out of the claim's listing -/
def ex_TX : u_T := fun k => match k with
  | 0 => ("EpochCache", "capacity", "I", true)
  | 1 => ("EpochCache", "store", "[I", true)
  | 2 => ("EpochCache", "numbers", "[I", true)
  | 3 => ("EpochCache", "held", "LEpochCache$Placement;", true)
  | 4 => ("EpochCache", "journal", "LEpochCache$Placement;", true)
  | 5 => ("EpochCache", "r1", "LEpochCache$BlockList;", true)
  | 6 => ("EpochCache", "r2", "LEpochCache$BlockList;", true)
  | 7 => ("EpochCache", "g1", "LEpochCache$BlockList;", true)
  | 8 => ("EpochCache", "g2", "LEpochCache$BlockList;", true)
  | 9 => ("EpochCache", "lists", "[LEpochCache$BlockList;", true)
  | 10 => ("EpochCache", "goal", "I", false)
  | 11 => ("EpochCache", "presentEpoch", "I", false)
  | 12 => ("EpochCache", "drains", "I", false)
  | _ => ("EpochCache", "latestWasHit", "Z", false)
def ex_tX : Nat → FieldType := fun k => match k with
  | 0 => .int
  | 1 => .array .int
  | 2 => .array .int
  | 3 => .object "EpochCache$Placement"
  | 4 => .object "EpochCache$Placement"
  | 5 => .object "EpochCache$BlockList"
  | 6 => .object "EpochCache$BlockList"
  | 7 => .object "EpochCache$BlockList"
  | 8 => .object "EpochCache$BlockList"
  | 9 => .array (.object "EpochCache$BlockList")
  | 10 => .int
  | 11 => .int
  | 12 => .int
  | _ => .boolean
def ex_TP : u_T := fun k => match k with
  | 0 => ("EpochCache$Placement", "blocks", "[I", true)
  | _ => ("EpochCache$Placement", "epochs", "[I", true)
def ex_tP : Nat → FieldType := fun k => match k with
  | 0 => .array .int
  | _ => .array .int
def ex_TB : u_T := fun k => match k with
  | 0 => ("EpochCache$BlockList", "blocks", "[I", true)
  | _ => ("EpochCache$BlockList", "size", "I", false)
def ex_tB : Nat → FieldType := fun k => match k with
  | 0 => .array .int
  | _ => .int
def ex_TM : u_T := fun k => match k with
  | 0 => ("EpochCacheModel", "most", "I", true)
  | 1 => ("EpochCacheModel", "store", "[I", true)
  | 2 => ("EpochCacheModel", "numbers", "[I", true)
  | 3 => ("EpochCacheModel", "slots", "[I", true)
  | 4 => ("EpochCacheModel", "dirty", "[Z", true)
  | 5 => ("EpochCacheModel", "epochs", "[I", true)
  | 6 => ("EpochCacheModel", "lists", "[I", true)
  | 7 => ("EpochCacheModel", "since", "[I", true)
  | 8 => ("EpochCacheModel", "clock", "I", false)
  | 9 => ("EpochCacheModel", "aim", "I", false)
  | 10 => ("EpochCacheModel", "present", "I", false)
  | 11 => ("EpochCacheModel", "wasHit", "Z", false)
  | 12 => ("EpochCacheModel", "drains", "I", false)
  | 13 => ("EpochCacheModel", "named", "[I", true)
  | 14 => ("EpochCacheModel", "namedDirty", "[Z", true)
  | _ => ("EpochCacheModel", "namedEpochs", "[I", true)
def ex_tM : Nat → FieldType := fun k => match k with
  | 0 => .int
  | 1 => .array .int
  | 2 => .array .int
  | 3 => .array .int
  | 4 => .array .boolean
  | 5 => .array .int
  | 6 => .array .int
  | 7 => .array .int
  | 8 => .int
  | 9 => .int
  | 10 => .int
  | 11 => .boolean
  | 12 => .int
  | 13 => .array .int
  | 14 => .array .boolean
  | _ => .array .int
abbrev ex_cl : List vw_C := [("EpochCache", ex_TX, 14), ("EpochCache$Placement", ex_TP, 2), ("EpochCache$BlockList", ex_TB, 2), ("EpochCacheModel", ex_TM, 16)]
def ex_ws : List Cond := lw_tbl.filter goodWord
abbrev ex_BL : String := "EpochCache$BlockList"
abbrev ex_bl : Nat := 2
abbrev ex_ny : Nat := 87
def ex_cn (c : Nat) : String := match c with
  | 0 => "EpochCache"
  | 1 => "EpochCache$Placement"
  | 2 => "EpochCache$BlockList"
  | 3 => "EpochCacheModel"
  | _ => "EpochCacheLaw"
def ex_cod (y : Nat) : ByteArray := match y with
  | 0 => prog_2_method_1_code
  | 1 => prog_2_method_2_code
  | 2 => prog_2_method_3_code
  | 3 => prog_2_method_4_code
  | 4 => prog_2_method_5_code
  | 5 => prog_2_method_6_code
  | 6 => prog_2_method_7_code
  | 7 => prog_3_method_1_code
  | 8 => prog_3_method_2_code
  | 9 => prog_3_method_3_code
  | 10 => prog_3_method_4_code
  | 11 => prog_3_method_5_code
  | 12 => prog_3_method_6_code
  | 13 => prog_3_method_7_code
  | 14 => prog_1_method_1_code
  | 15 => prog_1_method_2_code
  | 16 => prog_1_method_3_code
  | 17 => prog_1_method_4_code
  | 18 => prog_1_method_5_code
  | 19 => prog_1_method_6_code
  | 20 => prog_1_method_7_code
  | 21 => prog_1_method_8_code
  | 22 => prog_1_method_9_code
  | 23 => prog_1_method_10_code
  | 24 => prog_1_method_11_code
  | 25 => prog_1_method_12_code
  | 26 => prog_1_method_13_code
  | 27 => prog_1_method_14_code
  | 28 => prog_1_method_15_code
  | 29 => prog_1_method_16_code
  | 30 => prog_1_method_17_code
  | 31 => prog_1_method_18_code
  | 32 => prog_1_method_19_code
  | 33 => prog_1_method_20_code
  | 34 => prog_1_method_21_code
  | 35 => prog_1_method_22_code
  | 36 => prog_1_method_23_code
  | 37 => prog_1_method_24_code
  | 38 => prog_1_method_25_code
  | 39 => prog_1_method_26_code
  | 40 => prog_1_method_27_code
  | 41 => prog_1_method_28_code
  | 42 => prog_1_method_29_code
  | 43 => prog_1_method_30_code
  | 44 => prog_1_method_31_code
  | 45 => prog_1_method_32_code
  | 46 => prog_1_method_33_code
  | 47 => prog_1_method_34_code
  | 48 => prog_1_method_35_code
  | 49 => prog_5_method_1_code
  | 50 => prog_5_method_2_code
  | 51 => prog_5_method_3_code
  | 52 => prog_5_method_4_code
  | 53 => prog_5_method_5_code
  | 54 => prog_5_method_6_code
  | 55 => prog_5_method_7_code
  | 56 => prog_5_method_8_code
  | 57 => prog_5_method_9_code
  | 58 => prog_5_method_10_code
  | 59 => prog_5_method_11_code
  | 60 => prog_5_method_12_code
  | 61 => prog_5_method_13_code
  | 62 => prog_5_method_14_code
  | 63 => prog_5_method_15_code
  | 64 => prog_5_method_16_code
  | 65 => prog_5_method_17_code
  | 66 => prog_5_method_18_code
  | 67 => prog_5_method_19_code
  | 68 => prog_5_method_20_code
  | 69 => prog_5_method_21_code
  | 70 => prog_5_method_22_code
  | 71 => prog_5_method_23_code
  | 72 => prog_5_method_24_code
  | 73 => prog_5_method_25_code
  | 74 => prog_5_method_26_code
  | 75 => prog_5_method_27_code
  | 76 => prog_5_method_28_code
  | 77 => prog_5_method_29_code
  | 78 => prog_5_method_30_code
  | 79 => prog_5_method_31_code
  | 80 => prog_5_method_32_code
  | 81 => prog_5_method_33_code
  | 82 => prog_5_method_34_code
  | 83 => prog_5_method_35_code
  | 84 => prog_5_method_36_code
  | 85 => prog_5_method_37_code
  | 86 => method_2_code
  | _ => code
def ex_nam (y : Nat) : MethodName := match y with
  | 0 => ⟨"EpochCache$BlockList", "<init>", "()V"⟩
  | 1 => ⟨"EpochCache$BlockList", "size", "()I"⟩
  | 2 => ⟨"EpochCache$BlockList", "at", "(I)I"⟩
  | 3 => ⟨"EpochCache$BlockList", "has", "(I)Z"⟩
  | 4 => ⟨"EpochCache$BlockList", "add", "(I)V"⟩
  | 5 => ⟨"EpochCache$BlockList", "remove", "(I)V"⟩
  | 6 => ⟨"EpochCache$BlockList", "clear", "()V"⟩
  | 7 => ⟨"EpochCache$Placement", "<init>", "(I)V"⟩
  | 8 => ⟨"EpochCache$Placement", "empty", "(I)V"⟩
  | 9 => ⟨"EpochCache$Placement", "clear", "()V"⟩
  | 10 => ⟨"EpochCache$Placement", "become", "(LEpochCache$Placement;)V"⟩
  | 11 => ⟨"EpochCache$Placement", "slotOf", "(I)I"⟩
  | 12 => ⟨"EpochCache$Placement", "dirtyCount", "()I"⟩
  | 13 => ⟨"EpochCache$Placement", "firstDirty", "(I)I"⟩
  | 14 => ⟨"EpochCache", "<init>", "(I)V"⟩
  | 15 => ⟨"EpochCache", "read", "(I)I"⟩
  | 16 => ⟨"EpochCache", "write", "(II)I"⟩
  | 17 => ⟨"EpochCache", "flush", "()I"⟩
  | 18 => ⟨"EpochCache", "tick", "()I"⟩
  | 19 => ⟨"EpochCache", "detach", "()I"⟩
  | 20 => ⟨"EpochCache", "crash", "()I"⟩
  | 21 => ⟨"EpochCache", "lose", "()I"⟩
  | 22 => ⟨"EpochCache", "hit", "()Z"⟩
  | 23 => ⟨"EpochCache", "says", "(I)I"⟩
  | 24 => ⟨"EpochCache", "stored", "(I)I"⟩
  | 25 => ⟨"EpochCache", "slot", "(I)I"⟩
  | 26 => ⟨"EpochCache", "named", "(I)I"⟩
  | 27 => ⟨"EpochCache", "epoch", "(I)I"⟩
  | 28 => ⟨"EpochCache", "list", "(I)I"⟩
  | 29 => ⟨"EpochCache", "member", "(II)I"⟩
  | 30 => ⟨"EpochCache", "target", "()I"⟩
  | 31 => ⟨"EpochCache", "free", "()I"⟩
  | 32 => ⟨"EpochCache", "drained", "()I"⟩
  | 33 => ⟨"EpochCache", "isBlock", "(I)Z"⟩
  | 34 => ⟨"EpochCache", "numberOf", "(I)I"⟩
  | 35 => ⟨"EpochCache", "access", "(I)V"⟩
  | 36 => ⟨"EpochCache", "step", "(II)I"⟩
  | 37 => ⟨"EpochCache", "makeRoomForStranger", "(I)V"⟩
  | 38 => ⟨"EpochCache", "replaceFor", "(I)V"⟩
  | 39 => ⟨"EpochCache", "giveUp", "(I)V"⟩
  | 40 => ⟨"EpochCache", "bringInto", "(LEpochCache$BlockList;I)V"⟩
  | 41 => ⟨"EpochCache", "forgetLists", "()V"⟩
  | 42 => ⟨"EpochCache", "place", "(IIZ)I"⟩
  | 43 => ⟨"EpochCache", "newSlot", "()I"⟩
  | 44 => ⟨"EpochCache", "leastFree", "()I"⟩
  | 45 => ⟨"EpochCache", "isFree", "(I)Z"⟩
  | 46 => ⟨"EpochCache", "endEpoch", "()V"⟩
  | 47 => ⟨"EpochCache", "drainThrough", "(I)I"⟩
  | 48 => ⟨"EpochCache", "drain", "(I)V"⟩
  | 49 => ⟨"EpochCacheModel", "<init>", "(I)V"⟩
  | 50 => ⟨"EpochCacheModel", "isBlock", "(I)Z"⟩
  | 51 => ⟨"EpochCacheModel", "isFree", "(I)Z"⟩
  | 52 => ⟨"EpochCacheModel", "leastFree", "()I"⟩
  | 53 => ⟨"EpochCacheModel", "writeJournal", "()V"⟩
  | 54 => ⟨"EpochCacheModel", "flushed", "()I"⟩
  | 55 => ⟨"EpochCacheModel", "newSlot", "()I"⟩
  | 56 => ⟨"EpochCacheModel", "firstBelow", "(I)I"⟩
  | 57 => ⟨"EpochCacheModel", "drain", "(I)V"⟩
  | 58 => ⟨"EpochCacheModel", "drainBelow", "(I)I"⟩
  | 59 => ⟨"EpochCacheModel", "comes", "(II)V"⟩
  | 60 => ⟨"EpochCacheModel", "sizeOf", "(I)I"⟩
  | 61 => ⟨"EpochCacheModel", "nth", "(II)I"⟩
  | 62 => ⟨"EpochCacheModel", "giveUp", "(II)V"⟩
  | 63 => ⟨"EpochCacheModel", "replaceFor", "(I)V"⟩
  | 64 => ⟨"EpochCacheModel", "missed", "(I)V"⟩
  | 65 => ⟨"EpochCacheModel", "access", "(I)V"⟩
  | 66 => ⟨"EpochCacheModel", "read", "(I)I"⟩
  | 67 => ⟨"EpochCacheModel", "write", "(II)I"⟩
  | 68 => ⟨"EpochCacheModel", "flush", "()I"⟩
  | 69 => ⟨"EpochCacheModel", "tick", "()I"⟩
  | 70 => ⟨"EpochCacheModel", "empty", "()V"⟩
  | 71 => ⟨"EpochCacheModel", "dirties", "()I"⟩
  | 72 => ⟨"EpochCacheModel", "detach", "()I"⟩
  | 73 => ⟨"EpochCacheModel", "crash", "()I"⟩
  | 74 => ⟨"EpochCacheModel", "lose", "()I"⟩
  | 75 => ⟨"EpochCacheModel", "hit", "()Z"⟩
  | 76 => ⟨"EpochCacheModel", "says", "(I)I"⟩
  | 77 => ⟨"EpochCacheModel", "stored", "(I)I"⟩
  | 78 => ⟨"EpochCacheModel", "slot", "(I)I"⟩
  | 79 => ⟨"EpochCacheModel", "named", "(I)I"⟩
  | 80 => ⟨"EpochCacheModel", "epoch", "(I)I"⟩
  | 81 => ⟨"EpochCacheModel", "list", "(I)I"⟩
  | 82 => ⟨"EpochCacheModel", "member", "(II)I"⟩
  | 83 => ⟨"EpochCacheModel", "target", "()I"⟩
  | 84 => ⟨"EpochCacheModel", "free", "()I"⟩
  | 85 => ⟨"EpochCacheModel", "drained", "()I"⟩
  | 86 => ⟨"EpochCacheLaw", "cell", "([II)I"⟩
  | _ => ⟨"EpochCacheLaw", "law", "([I)Z"⟩
def ex_mxl (y : Nat) : Nat := match y with
  | 0 => 1
  | 1 => 1
  | 2 => 2
  | 3 => 3
  | 4 => 2
  | 6 => 1
  | 7 => 3
  | 8 => 2
  | 9 => 2
  | 10 => 3
  | 11 => 3
  | 12 => 3
  | 14 => 2
  | 15 => 2
  | 16 => 3
  | 17 => 1
  | 18 => 2
  | 19 => 2
  | 20 => 2
  | 21 => 2
  | 22 => 1
  | 23 => 2
  | 24 => 2
  | 25 => 2
  | 26 => 2
  | 27 => 3
  | 28 => 3
  | 29 => 3
  | 30 => 1
  | 31 => 3
  | 32 => 1
  | 33 => 1
  | 34 => 3
  | 35 => 2
  | 36 => 2
  | 37 => 5
  | 41 => 2
  | 42 => 6
  | 43 => 2
  | 44 => 2
  | 45 => 2
  | 46 => 1
  | 48 => 2
  | 49 => 3
  | 50 => 1
  | 52 => 2
  | 53 => 2
  | 54 => 1
  | 55 => 3
  | 57 => 2
  | 59 => 3
  | 61 => 6
  | 62 => 5
  | 63 => 3
  | 64 => 7
  | 65 => 3
  | 66 => 2
  | 68 => 1
  | 69 => 3
  | 70 => 2
  | 71 => 3
  | 72 => 3
  | 74 => 2
  | 75 => 1
  | 76 => 2
  | 77 => 2
  | 78 => 2
  | 79 => 2
  | 80 => 2
  | 81 => 2
  | 82 => 3
  | 83 => 1
  | 84 => 3
  | 85 => 1
  | 86 => 2
  | _ => 4
def ex_cix (y : Nat) : Nat := match y with
  | 0 => 2
  | 1 => 2
  | 2 => 2
  | 3 => 2
  | 4 => 2
  | 5 => 2
  | 6 => 2
  | 7 => 1
  | 8 => 1
  | 9 => 1
  | 10 => 1
  | 11 => 1
  | 12 => 1
  | 13 => 1
  | 14 => 0
  | 15 => 0
  | 16 => 0
  | 17 => 0
  | 18 => 0
  | 19 => 0
  | 20 => 0
  | 21 => 0
  | 22 => 0
  | 23 => 0
  | 24 => 0
  | 25 => 0
  | 26 => 0
  | 27 => 0
  | 28 => 0
  | 29 => 0
  | 30 => 0
  | 31 => 0
  | 32 => 0
  | 33 => 0
  | 34 => 0
  | 35 => 0
  | 36 => 0
  | 37 => 0
  | 38 => 0
  | 39 => 0
  | 40 => 0
  | 41 => 0
  | 42 => 0
  | 43 => 0
  | 44 => 0
  | 45 => 0
  | 46 => 0
  | 47 => 0
  | 48 => 0
  | 49 => 3
  | 50 => 3
  | 51 => 3
  | 52 => 3
  | 53 => 3
  | 54 => 3
  | 55 => 3
  | 56 => 3
  | 57 => 3
  | 58 => 3
  | 59 => 3
  | 60 => 3
  | 61 => 3
  | 62 => 3
  | 63 => 3
  | 64 => 3
  | 65 => 3
  | 66 => 3
  | 67 => 3
  | 68 => 3
  | 69 => 3
  | 70 => 3
  | 71 => 3
  | 72 => 3
  | 73 => 3
  | 74 => 3
  | 75 => 3
  | 76 => 3
  | 77 => 3
  | 78 => 3
  | 79 => 3
  | 80 => 3
  | 81 => 3
  | 82 => 3
  | 83 => 3
  | 84 => 3
  | 85 => 3
  | _ => 4
def ex_np (y : Nat) : Nat := match y with
  | 0 => 0
  | 1 => 0
  | 6 => 0
  | 9 => 0
  | 12 => 0
  | 16 => 2
  | 17 => 0
  | 18 => 0
  | 19 => 0
  | 20 => 0
  | 21 => 0
  | 22 => 0
  | 29 => 2
  | 30 => 0
  | 31 => 0
  | 32 => 0
  | 36 => 2
  | 40 => 2
  | 41 => 0
  | 42 => 3
  | 43 => 0
  | 44 => 0
  | 46 => 0
  | 52 => 0
  | 53 => 0
  | 54 => 0
  | 55 => 0
  | 59 => 2
  | 61 => 2
  | 62 => 2
  | 67 => 2
  | 68 => 0
  | 69 => 0
  | 70 => 0
  | 71 => 0
  | 72 => 0
  | 73 => 0
  | 74 => 0
  | 75 => 0
  | 82 => 2
  | 83 => 0
  | 84 => 0
  | 85 => 0
  | 86 => 2
  | _ => 1
def ex_lev (y : Nat) : Nat := match y with
  | 0 => 1
  | 1 => 0
  | 2 => 0
  | 3 => 0
  | 4 => 0
  | 5 => 0
  | 6 => 0
  | 7 => 1
  | 8 => 0
  | 9 => 1
  | 10 => 0
  | 11 => 0
  | 12 => 0
  | 13 => 0
  | 14 => 2
  | 15 => 6
  | 16 => 6
  | 17 => 2
  | 18 => 1
  | 19 => 2
  | 20 => 2
  | 21 => 2
  | 22 => 0
  | 23 => 2
  | 24 => 1
  | 25 => 1
  | 26 => 1
  | 27 => 1
  | 28 => 1
  | 29 => 1
  | 30 => 0
  | 31 => 1
  | 32 => 0
  | 33 => 0
  | 34 => 1
  | 35 => 5
  | 36 => 1
  | 37 => 4
  | 38 => 3
  | 39 => 2
  | 40 => 1
  | 41 => 1
  | 42 => 3
  | 43 => 2
  | 44 => 1
  | 45 => 0
  | 46 => 1
  | 47 => 1
  | 48 => 0
  | 49 => 1
  | 50 => 0
  | 51 => 0
  | 52 => 1
  | 53 => 0
  | 54 => 1
  | 55 => 2
  | 56 => 0
  | 57 => 0
  | 58 => 1
  | 59 => 0
  | 60 => 0
  | 61 => 0
  | 62 => 2
  | 63 => 3
  | 64 => 4
  | 65 => 5
  | 66 => 6
  | 67 => 6
  | 68 => 2
  | 69 => 1
  | 70 => 0
  | 71 => 0
  | 72 => 1
  | 73 => 1
  | 74 => 1
  | 75 => 0
  | 76 => 1
  | 77 => 1
  | 78 => 1
  | 79 => 1
  | 80 => 1
  | 81 => 1
  | 82 => 1
  | 83 => 0
  | 84 => 1
  | 85 => 0
  | 86 => 0
  | _ => 7
def ex_mc (y : Nat) : Nat := match y with
  | 0 => 1
  | 1 => 0
  | 2 => 0
  | 3 => 0
  | 4 => 0
  | 5 => 0
  | 6 => 0
  | 7 => 2
  | 8 => 0
  | 9 => 0
  | 10 => 0
  | 11 => 0
  | 12 => 0
  | 13 => 0
  | 14 => 17
  | 15 => 0
  | 16 => 0
  | 17 => 0
  | 18 => 0
  | 19 => 0
  | 20 => 0
  | 21 => 0
  | 22 => 0
  | 23 => 0
  | 24 => 0
  | 25 => 0
  | 26 => 0
  | 27 => 0
  | 28 => 0
  | 29 => 0
  | 30 => 0
  | 31 => 0
  | 32 => 0
  | 33 => 0
  | 34 => 0
  | 35 => 0
  | 36 => 0
  | 37 => 0
  | 38 => 0
  | 39 => 0
  | 40 => 0
  | 41 => 0
  | 42 => 0
  | 43 => 0
  | 44 => 0
  | 45 => 0
  | 46 => 0
  | 47 => 0
  | 48 => 0
  | 49 => 10
  | 50 => 0
  | 51 => 0
  | 52 => 0
  | 53 => 0
  | 54 => 0
  | 55 => 0
  | 56 => 0
  | 57 => 0
  | 58 => 0
  | 59 => 0
  | 60 => 0
  | 61 => 0
  | 62 => 0
  | 63 => 0
  | 64 => 0
  | 65 => 0
  | 66 => 0
  | 67 => 0
  | 68 => 0
  | 69 => 0
  | 70 => 0
  | 71 => 0
  | 72 => 0
  | 73 => 0
  | 74 => 0
  | 75 => 0
  | 76 => 0
  | 77 => 0
  | 78 => 0
  | 79 => 0
  | 80 => 0
  | 81 => 0
  | 82 => 0
  | 83 => 0
  | 84 => 0
  | 85 => 0
  | 86 => 0
  | _ => 29
def ex_ms (y : Nat) : Nat := match y with
  | 0 => 16
  | 1 => 0
  | 2 => 0
  | 3 => 0
  | 4 => 0
  | 5 => 0
  | 6 => 0
  | 7 => 28
  | 8 => 0
  | 9 => 0
  | 10 => 0
  | 11 => 0
  | 12 => 0
  | 13 => 0
  | 14 => 166
  | 15 => 0
  | 16 => 0
  | 17 => 0
  | 18 => 0
  | 19 => 0
  | 20 => 0
  | 21 => 0
  | 22 => 0
  | 23 => 0
  | 24 => 0
  | 25 => 0
  | 26 => 0
  | 27 => 0
  | 28 => 0
  | 29 => 0
  | 30 => 0
  | 31 => 0
  | 32 => 0
  | 33 => 0
  | 34 => 0
  | 35 => 0
  | 36 => 0
  | 37 => 0
  | 38 => 0
  | 39 => 0
  | 40 => 0
  | 41 => 0
  | 42 => 0
  | 43 => 0
  | 44 => 0
  | 45 => 0
  | 46 => 0
  | 47 => 0
  | 48 => 0
  | 49 => 158
  | 50 => 0
  | 51 => 0
  | 52 => 0
  | 53 => 0
  | 54 => 0
  | 55 => 0
  | 56 => 0
  | 57 => 0
  | 58 => 0
  | 59 => 0
  | 60 => 0
  | 61 => 0
  | 62 => 0
  | 63 => 0
  | 64 => 0
  | 65 => 0
  | 66 => 0
  | 67 => 0
  | 68 => 0
  | 69 => 0
  | 70 => 0
  | 71 => 0
  | 72 => 0
  | 73 => 0
  | 74 => 0
  | 75 => 0
  | 76 => 0
  | 77 => 0
  | 78 => 0
  | 79 => 0
  | 80 => 0
  | 81 => 0
  | 82 => 0
  | 83 => 0
  | 84 => 0
  | 85 => 0
  | 86 => 0
  | _ => 354
def ex_rty (y : Nat) : Option FieldType := match y with
  | 0 => none
  | 1 => some .int
  | 2 => some .int
  | 4 => none
  | 5 => none
  | 6 => none
  | 7 => none
  | 8 => none
  | 9 => none
  | 10 => none
  | 11 => some .int
  | 12 => some .int
  | 13 => some .int
  | 14 => none
  | 15 => some .int
  | 16 => some .int
  | 17 => some .int
  | 18 => some .int
  | 19 => some .int
  | 20 => some .int
  | 21 => some .int
  | 23 => some .int
  | 24 => some .int
  | 25 => some .int
  | 26 => some .int
  | 27 => some .int
  | 28 => some .int
  | 29 => some .int
  | 30 => some .int
  | 31 => some .int
  | 32 => some .int
  | 34 => some .int
  | 35 => none
  | 36 => some .int
  | 37 => none
  | 38 => none
  | 39 => none
  | 40 => none
  | 41 => none
  | 42 => some .int
  | 43 => some .int
  | 44 => some .int
  | 46 => none
  | 47 => some .int
  | 48 => none
  | 49 => none
  | 52 => some .int
  | 53 => none
  | 54 => some .int
  | 55 => some .int
  | 56 => some .int
  | 57 => none
  | 58 => some .int
  | 59 => none
  | 60 => some .int
  | 61 => some .int
  | 62 => none
  | 63 => none
  | 64 => none
  | 65 => none
  | 66 => some .int
  | 67 => some .int
  | 68 => some .int
  | 69 => some .int
  | 70 => none
  | 71 => some .int
  | 72 => some .int
  | 73 => some .int
  | 74 => some .int
  | 76 => some .int
  | 77 => some .int
  | 78 => some .int
  | 79 => some .int
  | 80 => some .int
  | 81 => some .int
  | 82 => some .int
  | 83 => some .int
  | 84 => some .int
  | 85 => some .int
  | 86 => some .int
  | _ => some .boolean
def ex_ini (y : Nat) : Bool := match y with
  | 0 => true
  | 7 => true
  | 14 => true
  | 49 => true
  | _ => false
def ex_own (y : Nat) : String := ex_cn (ex_cix y)
def ex_frL : List ((Nat × Nat) × (Nat × Nat × Nat × Bool)) := [((2, 9), (2, 0, 2, true)), ((2, 15), (2, 1, 0, false)), ((1, 9), (1, 0, 2, true)), ((1, 15), (1, 1, 2, true)), ((0, 18), (0, 0, 0, true)), ((0, 22), (0, 1, 2, true)), ((0, 26), (0, 2, 2, true)), ((0, 34), (0, 3, 2, true)), ((0, 38), (0, 4, 2, true)), ((0, 44), (0, 5, 2, true)), ((0, 48), (0, 6, 2, true)), ((0, 51), (0, 7, 2, true)), ((0, 54), (0, 8, 2, true)), ((0, 57), (0, 9, 2, true)), ((0, 79), (0, 11, 0, false)), ((0, 88), (1, 0, 2, true)), ((0, 114), (0, 13, 1, false)), ((0, 121), (1, 1, 2, true)), ((0, 130), (0, 10, 0, false)), ((0, 136), (0, 12, 0, false)), ((3, 7), (3, 1, 2, true)), ((3, 13), (3, 2, 2, true)), ((3, 16), (3, 3, 2, true)), ((3, 19), (3, 4, 2, true)), ((3, 23), (3, 5, 2, true)), ((3, 26), (3, 6, 2, true)), ((3, 29), (3, 7, 2, true)), ((3, 32), (3, 13, 2, true)), ((3, 35), (3, 14, 2, true)), ((3, 38), (3, 15, 2, true)), ((3, 41), (3, 0, 0, true)), ((3, 52), (3, 10, 0, false)), ((3, 62), (3, 12, 0, false)), ((3, 73), (3, 8, 0, false)), ((3, 90), (3, 9, 0, false)), ((3, 99), (3, 11, 1, false))]
def ex_fr (y i : Nat) : Option (Nat × Nat × Nat × Bool) := (ex_frL.find? (fun t => t.1.1 == ex_cix y && t.1.2 == i)).map (fun t => t.2)
def ex_mrL : List ((Nat × Nat) × (Nat × Nat)) := [((2, 3), (0, 5)), ((1, 3), (0, 5)), ((1, 18), (8, 1)), ((0, 1), (0, 5)), ((0, 9), (0, 4)), ((0, 15), (0, 3)), ((0, 31), (7, 2)), ((0, 43), (0, 2)), ((0, 61), (33, 0)), ((0, 65), (35, 1)), ((0, 68), (34, 1)), ((0, 72), (42, 1)), ((0, 76), (46, 1)), ((0, 82), (13, 1)), ((0, 85), (48, 1)), ((0, 91), (47, 1)), ((0, 94), (9, 1)), ((0, 97), (41, 1)), ((0, 100), (10, 1)), ((0, 104), (4, 1)), ((0, 107), (1, 1)), ((0, 111), (12, 1)), ((0, 118), (11, 1)), ((0, 124), (3, 1)), ((0, 127), (2, 1)), ((0, 133), (45, 1)), ((0, 139), (40, 1)), ((0, 143), (36, 0)), ((0, 146), (38, 1)), ((0, 149), (37, 1)), ((0, 152), (5, 1)), ((0, 155), (39, 1)), ((0, 158), (8, 1)), ((0, 161), (6, 1)), ((0, 162), (43, 1)), ((0, 165), (44, 1)), ((3, 1), (0, 5)), ((3, 45), (51, 1)), ((3, 49), (53, 1)), ((3, 55), (52, 1)), ((3, 59), (54, 1)), ((3, 65), (56, 1)), ((3, 69), (57, 1)), ((3, 76), (61, 1)), ((3, 80), (58, 1)), ((3, 83), (59, 1)), ((3, 87), (60, 1)), ((3, 93), (62, 1)), ((3, 96), (63, 1)), ((3, 103), (64, 1)), ((3, 106), (55, 1)), ((3, 109), (50, 0)), ((3, 112), (65, 1)), ((3, 116), (70, 1)), ((3, 119), (71, 1)), ((4, 9), (86, 0)), ((4, 15), (14, 2)), ((4, 20), (49, 2)), ((4, 21), (15, 1)), ((4, 25), (66, 1)), ((4, 26), (16, 1)), ((4, 30), (67, 1)), ((4, 31), (17, 1)), ((4, 35), (68, 1)), ((4, 36), (18, 1)), ((4, 39), (69, 1)), ((4, 40), (19, 1)), ((4, 43), (72, 1)), ((4, 44), (20, 1)), ((4, 47), (73, 1)), ((4, 48), (21, 1)), ((4, 51), (74, 1)), ((4, 52), (22, 1)), ((4, 56), (75, 1)), ((4, 57), (23, 1)), ((4, 60), (76, 1)), ((4, 61), (24, 1)), ((4, 64), (77, 1)), ((4, 65), (25, 1)), ((4, 68), (78, 1)), ((4, 69), (26, 1)), ((4, 72), (79, 1)), ((4, 73), (27, 1)), ((4, 76), (80, 1)), ((4, 77), (28, 1)), ((4, 80), (81, 1)), ((4, 81), (29, 1)), ((4, 84), (82, 1)), ((4, 85), (30, 1)), ((4, 88), (83, 1)), ((4, 89), (31, 1)), ((4, 92), (84, 1)), ((4, 93), (32, 1)), ((4, 96), (85, 1))]
def ex_mr (y i : Nat) : Option (Nat × Nat) := (ex_mrL.find? (fun t => t.1.1 == ex_cix y && t.1.2 == i)).map (fun t => t.2)
def ex_nrL : List ((Nat × Nat) × Nat) := [((0, 29), 1), ((0, 41), 2), ((4, 7), 0), ((4, 18), 3)]
def ex_nr (y i : Nat) : Option Nat := (ex_nrL.find? (fun t => t.1.1 == ex_cix y && t.1.2 == i)).map (fun t => t.2)
def ex_arL : List (Nat × Nat) := [(0, 41)]
def ex_ar (y i : Nat) : Bool := ex_arL.any (fun t => t.1 == ex_cix y && t.2 == i)
def ex_knL : List ((Nat × Nat) × Int32) := [((3, 115), 2147483647)]
def ex_kn (y i : Nat) : Option Int32 := (ex_knL.find? (fun t => t.1.1 == ex_cix y && t.1.2 == i)).map (fun t => t.2)
def ex_dv (ci : Nat) : List Value := match ci with
  | 0 => [.int 0, .null, .null, .null, .null, .null, .null, .null, .null, .null, .int 0, .int 0, .int 0, .int 0]
  | 1 => [.null, .null]
  | 2 => [.null, .int 0]
  | _ => [.int 0, .null, .null, .null, .null, .null, .null, .null, .int 0, .int 0, .int 0, .int 0, .int 0, .null, .null, .null]
def ex_da (ci : Nat) : List (Int32 ⊕ Nat) := match ci with
  | 0 => [.inl 0, .inr 0, .inr 0, .inr 0, .inr 0, .inr 0, .inr 0, .inr 0, .inr 0, .inr 0, .inl 0, .inl 0, .inl 0, .inl 0]
  | 1 => [.inr 0, .inr 0]
  | 2 => [.inr 0, .inl 0]
  | _ => [.inl 0, .inr 0, .inr 0, .inr 0, .inr 0, .inr 0, .inr 0, .inr 0, .inl 0, .inl 0, .inl 0, .inl 0, .inl 0, .inr 0, .inr 0, .inr 0]
theorem ex_m1 {w : Cond} (i : Nat) (h : tables_1_1[i]? = some w) (hg : goodWord w = true) : w ∈ ex_ws := List.mem_filter.mpr ⟨List.mem_append_right _ (List.mem_append_left _ (List.mem_of_getElem? h)), hg⟩
theorem ex_m2 {w : Cond} (i : Nat) (h : tables_1_2[i]? = some w) (hg : goodWord w = true) : w ∈ ex_ws := List.mem_filter.mpr ⟨List.mem_append_right _ (List.mem_append_right _ (List.mem_of_getElem? h)), hg⟩
theorem ex_m0 {w : Cond} (i : Nat) (h : (k2_sels lw_privs)[i]? = some w) (hg : goodWord w = true) : w ∈ ex_ws := List.mem_filter.mpr ⟨List.mem_append_left _ (List.mem_of_getElem? h), hg⟩
theorem ex_lX_0 : u_lay "EpochCache" ex_TX 0 ∈ ex_ws := (ex_m1 64 rfl rfl)
theorem ex_lX_1 : u_lay "EpochCache" ex_TX 1 ∈ ex_ws := (ex_m1 66 rfl rfl)
theorem ex_lX_2 : u_lay "EpochCache" ex_TX 2 ∈ ex_ws := (ex_m1 68 rfl rfl)
theorem ex_lX_3 : u_lay "EpochCache" ex_TX 3 ∈ ex_ws := (ex_m1 70 rfl rfl)
theorem ex_lX_4 : u_lay "EpochCache" ex_TX 4 ∈ ex_ws := (ex_m1 72 rfl rfl)
theorem ex_lX_5 : u_lay "EpochCache" ex_TX 5 ∈ ex_ws := (ex_m1 74 rfl rfl)
theorem ex_lX_6 : u_lay "EpochCache" ex_TX 6 ∈ ex_ws := (ex_m1 76 rfl rfl)
theorem ex_lX_7 : u_lay "EpochCache" ex_TX 7 ∈ ex_ws := (ex_m1 78 rfl rfl)
theorem ex_lX_8 : u_lay "EpochCache" ex_TX 8 ∈ ex_ws := (ex_m1 80 rfl rfl)
theorem ex_lX_9 : u_lay "EpochCache" ex_TX 9 ∈ ex_ws := (ex_m1 82 rfl rfl)
theorem ex_lX_10 : u_lay "EpochCache" ex_TX 10 ∈ ex_ws := (ex_m1 84 rfl rfl)
theorem ex_lX_11 : u_lay "EpochCache" ex_TX 11 ∈ ex_ws := (ex_m1 86 rfl rfl)
theorem ex_lX_12 : u_lay "EpochCache" ex_TX 12 ∈ ex_ws := (ex_m1 88 rfl rfl)
theorem ex_lX_13 : u_lay "EpochCache" ex_TX 13 ∈ ex_ws := (ex_m1 90 rfl rfl)
theorem ex_lX : ∀ w ∈ u_ws "EpochCache" ex_TX 14, w ∈ ex_ws := by
  intro w hw
  obtain ⟨k, hk, rfl⟩ := List.mem_map.mp hw
  have hk := List.mem_range.mp hk
  match k, hk with
  | 0, _ => exact ex_lX_0
  | 1, _ => exact ex_lX_1
  | 2, _ => exact ex_lX_2
  | 3, _ => exact ex_lX_3
  | 4, _ => exact ex_lX_4
  | 5, _ => exact ex_lX_5
  | 6, _ => exact ex_lX_6
  | 7, _ => exact ex_lX_7
  | 8, _ => exact ex_lX_8
  | 9, _ => exact ex_lX_9
  | 10, _ => exact ex_lX_10
  | 11, _ => exact ex_lX_11
  | 12, _ => exact ex_lX_12
  | 13, _ => exact ex_lX_13
  | n + 14, h => omega
theorem ex_lP_0 : u_lay "EpochCache$Placement" ex_TP 0 ∈ ex_ws := (ex_m1 30 rfl rfl)
theorem ex_lP_1 : u_lay "EpochCache$Placement" ex_TP 1 ∈ ex_ws := (ex_m1 32 rfl rfl)
theorem ex_lP : ∀ w ∈ u_ws "EpochCache$Placement" ex_TP 2, w ∈ ex_ws := by
  intro w hw
  obtain ⟨k, hk, rfl⟩ := List.mem_map.mp hw
  have hk := List.mem_range.mp hk
  match k, hk with
  | 0, _ => exact ex_lP_0
  | 1, _ => exact ex_lP_1
  | n + 2, h => omega
theorem ex_lB_0 : u_lay "EpochCache$BlockList" ex_TB 0 ∈ ex_ws := (ex_m1 44 rfl rfl)
theorem ex_lB_1 : u_lay "EpochCache$BlockList" ex_TB 1 ∈ ex_ws := (ex_m1 46 rfl rfl)
theorem ex_lB : ∀ w ∈ u_ws "EpochCache$BlockList" ex_TB 2, w ∈ ex_ws := by
  intro w hw
  obtain ⟨k, hk, rfl⟩ := List.mem_map.mp hw
  have hk := List.mem_range.mp hk
  match k, hk with
  | 0, _ => exact ex_lB_0
  | 1, _ => exact ex_lB_1
  | n + 2, h => omega
theorem ex_lM_0 : u_lay "EpochCacheModel" ex_TM 0 ∈ ex_ws := (ex_m2 61 rfl rfl)
theorem ex_lM_1 : u_lay "EpochCacheModel" ex_TM 1 ∈ ex_ws := (ex_m2 63 rfl rfl)
theorem ex_lM_2 : u_lay "EpochCacheModel" ex_TM 2 ∈ ex_ws := (ex_m2 65 rfl rfl)
theorem ex_lM_3 : u_lay "EpochCacheModel" ex_TM 3 ∈ ex_ws := (ex_m2 67 rfl rfl)
theorem ex_lM_4 : u_lay "EpochCacheModel" ex_TM 4 ∈ ex_ws := (ex_m2 69 rfl rfl)
theorem ex_lM_5 : u_lay "EpochCacheModel" ex_TM 5 ∈ ex_ws := (ex_m2 71 rfl rfl)
theorem ex_lM_6 : u_lay "EpochCacheModel" ex_TM 6 ∈ ex_ws := (ex_m2 73 rfl rfl)
theorem ex_lM_7 : u_lay "EpochCacheModel" ex_TM 7 ∈ ex_ws := (ex_m2 75 rfl rfl)
theorem ex_lM_8 : u_lay "EpochCacheModel" ex_TM 8 ∈ ex_ws := (ex_m2 77 rfl rfl)
theorem ex_lM_9 : u_lay "EpochCacheModel" ex_TM 9 ∈ ex_ws := (ex_m2 79 rfl rfl)
theorem ex_lM_10 : u_lay "EpochCacheModel" ex_TM 10 ∈ ex_ws := (ex_m2 81 rfl rfl)
theorem ex_lM_11 : u_lay "EpochCacheModel" ex_TM 11 ∈ ex_ws := (ex_m2 83 rfl rfl)
theorem ex_lM_12 : u_lay "EpochCacheModel" ex_TM 12 ∈ ex_ws := (ex_m2 85 rfl rfl)
theorem ex_lM_13 : u_lay "EpochCacheModel" ex_TM 13 ∈ ex_ws := (ex_m2 87 rfl rfl)
theorem ex_lM_14 : u_lay "EpochCacheModel" ex_TM 14 ∈ ex_ws := (ex_m2 89 rfl rfl)
theorem ex_lM_15 : u_lay "EpochCacheModel" ex_TM 15 ∈ ex_ws := (ex_m2 91 rfl rfl)
theorem ex_lM : ∀ w ∈ u_ws "EpochCacheModel" ex_TM 16, w ∈ ex_ws := by
  intro w hw
  obtain ⟨k, hk, rfl⟩ := List.mem_map.mp hw
  have hk := List.mem_range.mp hk
  match k, hk with
  | 0, _ => exact ex_lM_0
  | 1, _ => exact ex_lM_1
  | 2, _ => exact ex_lM_2
  | 3, _ => exact ex_lM_3
  | 4, _ => exact ex_lM_4
  | 5, _ => exact ex_lM_5
  | 6, _ => exact ex_lM_6
  | 7, _ => exact ex_lM_7
  | 8, _ => exact ex_lM_8
  | 9, _ => exact ex_lM_9
  | 10, _ => exact ex_lM_10
  | 11, _ => exact ex_lM_11
  | 12, _ => exact ex_lM_12
  | 13, _ => exact ex_lM_13
  | 14, _ => exact ex_lM_14
  | 15, _ => exact ex_lM_15
  | n + 16, h => omega
def ex_fkt (fk : Nat) (ty : FieldType) : Prop := match fk with
  | 0 => ty = .int
  | 1 => ty = .boolean
  | _ => (∃ n, ty = .object n) ∨ ∃ t, ty = .array t
def ex_frP (t : (Nat × Nat) × (Nat × Nat × Nat × Bool)) : Prop := ∃ (Cn : String) (T : u_T) (N : Nat), ex_cl[t.2.1]? = some (Cn, T, N) ∧ t.2.2.1 < N ∧ Cond.fieldLink (ex_cn t.1.1) t.1.2 (T t.2.2.1).1 (T t.2.2.1).2.1 (T t.2.2.1).2.2.1 ∈ ex_ws ∧ (T t.2.2.1).2.2.2 = t.2.2.2.2 ∧ (∃ ty, parseFieldDescriptor (T t.2.2.1).2.2.1 = some ty ∧ ex_fkt t.2.2.2.1 ty) ∧ (t.1.1 = t.2.1 → (T t.2.2.1).1 = ex_cn t.1.1)
theorem ex_f_2_9 : ex_frP ((2, 9), (2, 0, 2, true)) := ⟨"EpochCache$BlockList", ex_TB, 2, rfl, by decide, (ex_m1 42 rfl rfl), rfl, ⟨(.array .int), by decide +kernel, Or.inr ⟨_, rfl⟩⟩, fun _ => rfl⟩
theorem ex_f_2_15 : ex_frP ((2, 15), (2, 1, 0, false)) := ⟨"EpochCache$BlockList", ex_TB, 2, rfl, by decide, (ex_m1 43 rfl rfl), rfl, ⟨(.int), by decide +kernel, rfl⟩, fun _ => rfl⟩
theorem ex_f_1_9 : ex_frP ((1, 9), (1, 0, 2, true)) := ⟨"EpochCache$Placement", ex_TP, 2, rfl, by decide, (ex_m1 26 rfl rfl), rfl, ⟨(.array .int), by decide +kernel, Or.inr ⟨_, rfl⟩⟩, fun _ => rfl⟩
theorem ex_f_1_15 : ex_frP ((1, 15), (1, 1, 2, true)) := ⟨"EpochCache$Placement", ex_TP, 2, rfl, by decide, (ex_m1 28 rfl rfl), rfl, ⟨(.array .int), by decide +kernel, Or.inr ⟨_, rfl⟩⟩, fun _ => rfl⟩
theorem ex_f_0_18 : ex_frP ((0, 18), (0, 0, 0, true)) := ⟨"EpochCache", ex_TX, 14, rfl, by decide, (ex_m1 50 rfl rfl), rfl, ⟨(.int), by decide +kernel, rfl⟩, fun _ => rfl⟩
theorem ex_f_0_22 : ex_frP ((0, 22), (0, 1, 2, true)) := ⟨"EpochCache", ex_TX, 14, rfl, by decide, (ex_m1 51 rfl rfl), rfl, ⟨(.array .int), by decide +kernel, Or.inr ⟨_, rfl⟩⟩, fun _ => rfl⟩
theorem ex_f_0_26 : ex_frP ((0, 26), (0, 2, 2, true)) := ⟨"EpochCache", ex_TX, 14, rfl, by decide, (ex_m1 52 rfl rfl), rfl, ⟨(.array .int), by decide +kernel, Or.inr ⟨_, rfl⟩⟩, fun _ => rfl⟩
theorem ex_f_0_34 : ex_frP ((0, 34), (0, 3, 2, true)) := ⟨"EpochCache", ex_TX, 14, rfl, by decide, (ex_m1 53 rfl rfl), rfl, ⟨(.object "EpochCache$Placement"), by decide +kernel, Or.inl ⟨_, rfl⟩⟩, fun _ => rfl⟩
theorem ex_f_0_38 : ex_frP ((0, 38), (0, 4, 2, true)) := ⟨"EpochCache", ex_TX, 14, rfl, by decide, (ex_m1 54 rfl rfl), rfl, ⟨(.object "EpochCache$Placement"), by decide +kernel, Or.inl ⟨_, rfl⟩⟩, fun _ => rfl⟩
theorem ex_f_0_44 : ex_frP ((0, 44), (0, 5, 2, true)) := ⟨"EpochCache", ex_TX, 14, rfl, by decide, (ex_m1 55 rfl rfl), rfl, ⟨(.object "EpochCache$BlockList"), by decide +kernel, Or.inl ⟨_, rfl⟩⟩, fun _ => rfl⟩
theorem ex_f_0_48 : ex_frP ((0, 48), (0, 6, 2, true)) := ⟨"EpochCache", ex_TX, 14, rfl, by decide, (ex_m1 56 rfl rfl), rfl, ⟨(.object "EpochCache$BlockList"), by decide +kernel, Or.inl ⟨_, rfl⟩⟩, fun _ => rfl⟩
theorem ex_f_0_51 : ex_frP ((0, 51), (0, 7, 2, true)) := ⟨"EpochCache", ex_TX, 14, rfl, by decide, (ex_m1 57 rfl rfl), rfl, ⟨(.object "EpochCache$BlockList"), by decide +kernel, Or.inl ⟨_, rfl⟩⟩, fun _ => rfl⟩
theorem ex_f_0_54 : ex_frP ((0, 54), (0, 8, 2, true)) := ⟨"EpochCache", ex_TX, 14, rfl, by decide, (ex_m1 58 rfl rfl), rfl, ⟨(.object "EpochCache$BlockList"), by decide +kernel, Or.inl ⟨_, rfl⟩⟩, fun _ => rfl⟩
theorem ex_f_0_57 : ex_frP ((0, 57), (0, 9, 2, true)) := ⟨"EpochCache", ex_TX, 14, rfl, by decide, (ex_m1 59 rfl rfl), rfl, ⟨(.array (.object "EpochCache$BlockList")), by decide +kernel, Or.inr ⟨_, rfl⟩⟩, fun _ => rfl⟩
theorem ex_f_0_79 : ex_frP ((0, 79), (0, 11, 0, false)) := ⟨"EpochCache", ex_TX, 14, rfl, by decide, (ex_m1 61 rfl rfl), rfl, ⟨(.int), by decide +kernel, rfl⟩, fun _ => rfl⟩
theorem ex_f_0_88 : ex_frP ((0, 88), (1, 0, 2, true)) := ⟨"EpochCache$Placement", ex_TP, 2, rfl, by decide, (ex_m1 27 rfl rfl), rfl, ⟨(.array .int), by decide +kernel, Or.inr ⟨_, rfl⟩⟩, fun h => absurd h (by decide)⟩
theorem ex_f_0_114 : ex_frP ((0, 114), (0, 13, 1, false)) := ⟨"EpochCache", ex_TX, 14, rfl, by decide, (ex_m1 63 rfl rfl), rfl, ⟨(.boolean), by decide +kernel, rfl⟩, fun _ => rfl⟩
theorem ex_f_0_121 : ex_frP ((0, 121), (1, 1, 2, true)) := ⟨"EpochCache$Placement", ex_TP, 2, rfl, by decide, (ex_m1 29 rfl rfl), rfl, ⟨(.array .int), by decide +kernel, Or.inr ⟨_, rfl⟩⟩, fun h => absurd h (by decide)⟩
theorem ex_f_0_130 : ex_frP ((0, 130), (0, 10, 0, false)) := ⟨"EpochCache", ex_TX, 14, rfl, by decide, (ex_m1 60 rfl rfl), rfl, ⟨(.int), by decide +kernel, rfl⟩, fun _ => rfl⟩
theorem ex_f_0_136 : ex_frP ((0, 136), (0, 12, 0, false)) := ⟨"EpochCache", ex_TX, 14, rfl, by decide, (ex_m1 62 rfl rfl), rfl, ⟨(.int), by decide +kernel, rfl⟩, fun _ => rfl⟩
theorem ex_f_3_7 : ex_frP ((3, 7), (3, 1, 2, true)) := ⟨"EpochCacheModel", ex_TM, 16, rfl, by decide, (ex_m2 46 rfl rfl), rfl, ⟨(.array .int), by decide +kernel, Or.inr ⟨_, rfl⟩⟩, fun _ => rfl⟩
theorem ex_f_3_13 : ex_frP ((3, 13), (3, 2, 2, true)) := ⟨"EpochCacheModel", ex_TM, 16, rfl, by decide, (ex_m2 47 rfl rfl), rfl, ⟨(.array .int), by decide +kernel, Or.inr ⟨_, rfl⟩⟩, fun _ => rfl⟩
theorem ex_f_3_16 : ex_frP ((3, 16), (3, 3, 2, true)) := ⟨"EpochCacheModel", ex_TM, 16, rfl, by decide, (ex_m2 48 rfl rfl), rfl, ⟨(.array .int), by decide +kernel, Or.inr ⟨_, rfl⟩⟩, fun _ => rfl⟩
theorem ex_f_3_19 : ex_frP ((3, 19), (3, 4, 2, true)) := ⟨"EpochCacheModel", ex_TM, 16, rfl, by decide, (ex_m2 49 rfl rfl), rfl, ⟨(.array .boolean), by decide +kernel, Or.inr ⟨_, rfl⟩⟩, fun _ => rfl⟩
theorem ex_f_3_23 : ex_frP ((3, 23), (3, 5, 2, true)) := ⟨"EpochCacheModel", ex_TM, 16, rfl, by decide, (ex_m2 50 rfl rfl), rfl, ⟨(.array .int), by decide +kernel, Or.inr ⟨_, rfl⟩⟩, fun _ => rfl⟩
theorem ex_f_3_26 : ex_frP ((3, 26), (3, 6, 2, true)) := ⟨"EpochCacheModel", ex_TM, 16, rfl, by decide, (ex_m2 51 rfl rfl), rfl, ⟨(.array .int), by decide +kernel, Or.inr ⟨_, rfl⟩⟩, fun _ => rfl⟩
theorem ex_f_3_29 : ex_frP ((3, 29), (3, 7, 2, true)) := ⟨"EpochCacheModel", ex_TM, 16, rfl, by decide, (ex_m2 52 rfl rfl), rfl, ⟨(.array .int), by decide +kernel, Or.inr ⟨_, rfl⟩⟩, fun _ => rfl⟩
theorem ex_f_3_32 : ex_frP ((3, 32), (3, 13, 2, true)) := ⟨"EpochCacheModel", ex_TM, 16, rfl, by decide, (ex_m2 58 rfl rfl), rfl, ⟨(.array .int), by decide +kernel, Or.inr ⟨_, rfl⟩⟩, fun _ => rfl⟩
theorem ex_f_3_35 : ex_frP ((3, 35), (3, 14, 2, true)) := ⟨"EpochCacheModel", ex_TM, 16, rfl, by decide, (ex_m2 59 rfl rfl), rfl, ⟨(.array .boolean), by decide +kernel, Or.inr ⟨_, rfl⟩⟩, fun _ => rfl⟩
theorem ex_f_3_38 : ex_frP ((3, 38), (3, 15, 2, true)) := ⟨"EpochCacheModel", ex_TM, 16, rfl, by decide, (ex_m2 60 rfl rfl), rfl, ⟨(.array .int), by decide +kernel, Or.inr ⟨_, rfl⟩⟩, fun _ => rfl⟩
theorem ex_f_3_41 : ex_frP ((3, 41), (3, 0, 0, true)) := ⟨"EpochCacheModel", ex_TM, 16, rfl, by decide, (ex_m2 45 rfl rfl), rfl, ⟨(.int), by decide +kernel, rfl⟩, fun _ => rfl⟩
theorem ex_f_3_52 : ex_frP ((3, 52), (3, 10, 0, false)) := ⟨"EpochCacheModel", ex_TM, 16, rfl, by decide, (ex_m2 55 rfl rfl), rfl, ⟨(.int), by decide +kernel, rfl⟩, fun _ => rfl⟩
theorem ex_f_3_62 : ex_frP ((3, 62), (3, 12, 0, false)) := ⟨"EpochCacheModel", ex_TM, 16, rfl, by decide, (ex_m2 57 rfl rfl), rfl, ⟨(.int), by decide +kernel, rfl⟩, fun _ => rfl⟩
theorem ex_f_3_73 : ex_frP ((3, 73), (3, 8, 0, false)) := ⟨"EpochCacheModel", ex_TM, 16, rfl, by decide, (ex_m2 53 rfl rfl), rfl, ⟨(.int), by decide +kernel, rfl⟩, fun _ => rfl⟩
theorem ex_f_3_90 : ex_frP ((3, 90), (3, 9, 0, false)) := ⟨"EpochCacheModel", ex_TM, 16, rfl, by decide, (ex_m2 54 rfl rfl), rfl, ⟨(.int), by decide +kernel, rfl⟩, fun _ => rfl⟩
theorem ex_f_3_99 : ex_frP ((3, 99), (3, 11, 1, false)) := ⟨"EpochCacheModel", ex_TM, 16, rfl, by decide, (ex_m2 56 rfl rfl), rfl, ⟨(.boolean), by decide +kernel, rfl⟩, fun _ => rfl⟩
theorem ex_frL_ok : ∀ t ∈ ex_frL, ex_frP t := List.forall_mem_cons.mpr ⟨ex_f_2_9, List.forall_mem_cons.mpr ⟨ex_f_2_15, List.forall_mem_cons.mpr ⟨ex_f_1_9, List.forall_mem_cons.mpr ⟨ex_f_1_15, List.forall_mem_cons.mpr ⟨ex_f_0_18, List.forall_mem_cons.mpr ⟨ex_f_0_22, List.forall_mem_cons.mpr ⟨ex_f_0_26, List.forall_mem_cons.mpr ⟨ex_f_0_34, List.forall_mem_cons.mpr ⟨ex_f_0_38, List.forall_mem_cons.mpr ⟨ex_f_0_44, List.forall_mem_cons.mpr ⟨ex_f_0_48, List.forall_mem_cons.mpr ⟨ex_f_0_51, List.forall_mem_cons.mpr ⟨ex_f_0_54, List.forall_mem_cons.mpr ⟨ex_f_0_57, List.forall_mem_cons.mpr ⟨ex_f_0_79, List.forall_mem_cons.mpr ⟨ex_f_0_88, List.forall_mem_cons.mpr ⟨ex_f_0_114, List.forall_mem_cons.mpr ⟨ex_f_0_121, List.forall_mem_cons.mpr ⟨ex_f_0_130, List.forall_mem_cons.mpr ⟨ex_f_0_136, List.forall_mem_cons.mpr ⟨ex_f_3_7, List.forall_mem_cons.mpr ⟨ex_f_3_13, List.forall_mem_cons.mpr ⟨ex_f_3_16, List.forall_mem_cons.mpr ⟨ex_f_3_19, List.forall_mem_cons.mpr ⟨ex_f_3_23, List.forall_mem_cons.mpr ⟨ex_f_3_26, List.forall_mem_cons.mpr ⟨ex_f_3_29, List.forall_mem_cons.mpr ⟨ex_f_3_32, List.forall_mem_cons.mpr ⟨ex_f_3_35, List.forall_mem_cons.mpr ⟨ex_f_3_38, List.forall_mem_cons.mpr ⟨ex_f_3_41, List.forall_mem_cons.mpr ⟨ex_f_3_52, List.forall_mem_cons.mpr ⟨ex_f_3_62, List.forall_mem_cons.mpr ⟨ex_f_3_73, List.forall_mem_cons.mpr ⟨ex_f_3_90, List.forall_mem_cons.mpr ⟨ex_f_3_99, fun _ h => absurd h List.not_mem_nil⟩⟩⟩⟩⟩⟩⟩⟩⟩⟩⟩⟩⟩⟩⟩⟩⟩⟩⟩⟩⟩⟩⟩⟩⟩⟩⟩⟩⟩⟩⟩⟩⟩⟩⟩⟩
def ex_nrP (t : (Nat × Nat) × Nat) : Prop := ∃ (Cn : String) (T : u_T) (N : Nat), ex_cl[t.2]? = some (Cn, T, N) ∧ Cond.classLink (ex_cn t.1.1) t.1.2 Cn ∈ ex_ws ∧ Cond.instantiable Cn N ∈ ex_ws ∧ Cond.initialized Cn ∈ ex_ws ∧ (ex_da t.2).length = N
theorem ex_n_0_29 : ex_nrP ((0, 29), 1) := ⟨"EpochCache$Placement", ex_TP, 2, rfl, (ex_m1 20 rfl rfl), (ex_m1 21 rfl rfl), (ex_m1 3 rfl rfl), rfl⟩
theorem ex_n_0_41 : ex_nrP ((0, 41), 2) := ⟨"EpochCache$BlockList", ex_TB, 2, rfl, (ex_m1 36 rfl rfl), (ex_m1 37 rfl rfl), (ex_m1 4 rfl rfl), rfl⟩
theorem ex_n_4_7 : ex_nrP ((4, 7), 0) := ⟨"EpochCache", ex_TX, 14, rfl, (ex_m1 6 rfl rfl), (ex_m1 7 rfl rfl), (ex_m1 1 rfl rfl), rfl⟩
theorem ex_n_4_18 : ex_nrP ((4, 18), 3) := ⟨"EpochCacheModel", ex_TM, 16, rfl, (ex_m2 39 rfl rfl), (ex_m2 40 rfl rfl), (ex_m1 5 rfl rfl), rfl⟩
theorem ex_nrL_ok : ∀ t ∈ ex_nrL, ex_nrP t := List.forall_mem_cons.mpr ⟨ex_n_0_29, List.forall_mem_cons.mpr ⟨ex_n_0_41, List.forall_mem_cons.mpr ⟨ex_n_4_7, List.forall_mem_cons.mpr ⟨ex_n_4_18, fun _ h => absurd h List.not_mem_nil⟩⟩⟩⟩
def ex_arP (t : Nat × Nat) : Prop := Cond.classLink (ex_cn t.1) t.2 ex_BL ∈ ex_ws
theorem ex_a_0_41 : ex_arP (0, 41) := (ex_m1 36 rfl rfl)
theorem ex_arL_ok : ∀ t ∈ ex_arL, ex_arP t := List.forall_mem_cons.mpr ⟨ex_a_0_41, fun _ h => absurd h List.not_mem_nil⟩
def ex_knP (t : (Nat × Nat) × Int32) : Prop := Cond.constant (ex_cn t.1.1) t.1.2 t.2 ∈ ex_ws
theorem ex_k_3_115 : ex_knP ((3, 115), 2147483647) := (ex_m2 178 rfl rfl)
theorem ex_knL_ok : ∀ t ∈ ex_knL, ex_knP t := List.forall_mem_cons.mpr ⟨ex_k_3_115, fun _ h => absurd h List.not_mem_nil⟩
theorem ex_aI_ok : Cond.arrayClass (newarray.typeOf .int) ∈ ex_ws := (ex_m1 35 rfl rfl)
theorem ex_aZ_ok : Cond.arrayClass (newarray.typeOf .boolean) ∈ ex_ws := (ex_m2 94 rfl rfl)
def ex_yP (y : Nat) : Prop := Cond.code (ex_nam y) (ex_cod y) (ex_mxl y) (ex_rty y) ∈ ex_ws
theorem ex_y_0 : ex_yP 0 := ex_m1 40 rfl rfl
theorem ex_y_1 : ex_yP 1 := ex_m1 123 rfl rfl
theorem ex_y_2 : ex_yP 2 := ex_m1 134 rfl rfl
theorem ex_y_3 : ex_yP 3 := ex_m1 107 rfl rfl
theorem ex_y_4 : ex_yP 4 := ex_m1 119 rfl rfl
theorem ex_y_5 : ex_yP 5 := ex_m1 115 rfl rfl
theorem ex_y_6 : ex_yP 6 := ex_m1 219 rfl rfl
theorem ex_y_7 : ex_yP 7 := ex_m1 24 rfl rfl
theorem ex_y_8 : ex_yP 8 := ex_m1 166 rfl rfl
theorem ex_y_9 : ex_yP 9 := ex_m1 210 rfl rfl
theorem ex_y_10 : ex_yP 10 := ex_m1 150 rfl rfl
theorem ex_y_11 : ex_yP 11 := ex_m1 142 rfl rfl
theorem ex_y_12 : ex_yP 12 := ex_m1 231 rfl rfl
theorem ex_y_13 : ex_yP 13 := ex_m1 158 rfl rfl
theorem ex_y_14 : ex_yP 14 := ex_m1 10 rfl rfl
theorem ex_y_15 : ex_yP 15 := ex_m1 96 rfl rfl
theorem ex_y_16 : ex_yP 16 := ex_m1 194 rfl rfl
theorem ex_y_17 : ex_yP 17 := ex_m1 198 rfl rfl
theorem ex_y_18 : ex_yP 18 := ex_m1 202 rfl rfl
theorem ex_y_19 : ex_yP 19 := ex_m1 206 rfl rfl
theorem ex_y_20 : ex_yP 20 := ex_m1 223 rfl rfl
theorem ex_y_21 : ex_yP 21 := ex_m1 227 rfl rfl
theorem ex_y_22 : ex_yP 22 := ex_m1 235 rfl rfl
theorem ex_y_23 : ex_yP 23 := ex_m1 239 rfl rfl
theorem ex_y_24 : ex_yP 24 := ex_m2 3 rfl rfl
theorem ex_y_25 : ex_yP 25 := ex_m2 7 rfl rfl
theorem ex_y_26 : ex_yP 26 := ex_m2 11 rfl rfl
theorem ex_y_27 : ex_yP 27 := ex_m2 15 rfl rfl
theorem ex_y_28 : ex_yP 28 := ex_m2 19 rfl rfl
theorem ex_y_29 : ex_yP 29 := ex_m2 23 rfl rfl
theorem ex_y_30 : ex_yP 30 := ex_m2 27 rfl rfl
theorem ex_y_31 : ex_yP 31 := ex_m2 31 rfl rfl
theorem ex_y_32 : ex_yP 32 := ex_m2 35 rfl rfl
theorem ex_y_33 : ex_yP 33 := ex_m1 99 rfl rfl
theorem ex_y_34 : ex_yP 34 := ex_m1 190 rfl rfl
theorem ex_y_35 : ex_yP 35 := ex_m1 103 rfl rfl
theorem ex_y_36 : ex_yP 36 := ex_m1 126 rfl rfl
theorem ex_y_37 : ex_yP 37 := ex_m1 170 rfl rfl
theorem ex_y_38 : ex_yP 38 := ex_m1 130 rfl rfl
theorem ex_y_39 : ex_yP 39 := ex_m1 138 rfl rfl
theorem ex_y_40 : ex_yP 40 := ex_m1 111 rfl rfl
theorem ex_y_41 : ex_yP 41 := ex_m1 215 rfl rfl
theorem ex_y_42 : ex_yP 42 := ex_m1 174 rfl rfl
theorem ex_y_43 : ex_yP 43 := ex_m1 178 rfl rfl
theorem ex_y_44 : ex_yP 44 := ex_m1 182 rfl rfl
theorem ex_y_45 : ex_yP 45 := ex_m1 186 rfl rfl
theorem ex_y_46 : ex_yP 46 := ex_m1 146 rfl rfl
theorem ex_y_47 : ex_yP 47 := ex_m1 154 rfl rfl
theorem ex_y_48 : ex_yP 48 := ex_m1 162 rfl rfl
theorem ex_y_49 : ex_yP 49 := ex_m2 43 rfl rfl
theorem ex_y_50 : ex_yP 50 := ex_m2 101 rfl rfl
theorem ex_y_51 : ex_yP 51 := ex_m2 161 rfl rfl
theorem ex_y_52 : ex_yP 52 := ex_m2 157 rfl rfl
theorem ex_y_53 : ex_yP 53 := ex_m2 137 rfl rfl
theorem ex_y_54 : ex_yP 54 := ex_m2 133 rfl rfl
theorem ex_y_55 : ex_yP 55 := ex_m2 153 rfl rfl
theorem ex_y_56 : ex_yP 56 := ex_m2 145 rfl rfl
theorem ex_y_57 : ex_yP 57 := ex_m2 149 rfl rfl
theorem ex_y_58 : ex_yP 58 := ex_m2 141 rfl rfl
theorem ex_y_59 : ex_yP 59 := ex_m2 109 rfl rfl
theorem ex_y_60 : ex_yP 60 := ex_m2 117 rfl rfl
theorem ex_y_61 : ex_yP 61 := ex_m2 129 rfl rfl
theorem ex_y_62 : ex_yP 62 := ex_m2 125 rfl rfl
theorem ex_y_63 : ex_yP 63 := ex_m2 121 rfl rfl
theorem ex_y_64 : ex_yP 64 := ex_m2 113 rfl rfl
theorem ex_y_65 : ex_yP 65 := ex_m2 105 rfl rfl
theorem ex_y_66 : ex_yP 66 := ex_m2 98 rfl rfl
theorem ex_y_67 : ex_yP 67 := ex_m2 165 rfl rfl
theorem ex_y_68 : ex_yP 68 := ex_m2 169 rfl rfl
theorem ex_y_69 : ex_yP 69 := ex_m2 173 rfl rfl
theorem ex_y_70 : ex_yP 70 := ex_m2 182 rfl rfl
theorem ex_y_71 : ex_yP 71 := ex_m2 194 rfl rfl
theorem ex_y_72 : ex_yP 72 := ex_m2 177 rfl rfl
theorem ex_y_73 : ex_yP 73 := ex_m2 186 rfl rfl
theorem ex_y_74 : ex_yP 74 := ex_m2 190 rfl rfl
theorem ex_y_75 : ex_yP 75 := ex_m2 198 rfl rfl
theorem ex_y_76 : ex_yP 76 := ex_m2 202 rfl rfl
theorem ex_y_77 : ex_yP 77 := ex_m2 206 rfl rfl
theorem ex_y_78 : ex_yP 78 := ex_m2 210 rfl rfl
theorem ex_y_79 : ex_yP 79 := ex_m2 214 rfl rfl
theorem ex_y_80 : ex_yP 80 := ex_m2 218 rfl rfl
theorem ex_y_81 : ex_yP 81 := ex_m2 222 rfl rfl
theorem ex_y_82 : ex_yP 82 := ex_m2 226 rfl rfl
theorem ex_y_83 : ex_yP 83 := ex_m2 230 rfl rfl
theorem ex_y_84 : ex_yP 84 := ex_m2 234 rfl rfl
theorem ex_y_85 : ex_yP 85 := ex_m2 238 rfl rfl
theorem ex_y_86 : ex_yP 86 := ex_m2 38 rfl rfl
theorem ex_yL_ok : ∀ y, y < 87 → ex_yP y := by
  intro y h
  match y, h with
  | 0, _ => exact ex_y_0
  | 1, _ => exact ex_y_1
  | 2, _ => exact ex_y_2
  | 3, _ => exact ex_y_3
  | 4, _ => exact ex_y_4
  | 5, _ => exact ex_y_5
  | 6, _ => exact ex_y_6
  | 7, _ => exact ex_y_7
  | 8, _ => exact ex_y_8
  | 9, _ => exact ex_y_9
  | 10, _ => exact ex_y_10
  | 11, _ => exact ex_y_11
  | 12, _ => exact ex_y_12
  | 13, _ => exact ex_y_13
  | 14, _ => exact ex_y_14
  | 15, _ => exact ex_y_15
  | 16, _ => exact ex_y_16
  | 17, _ => exact ex_y_17
  | 18, _ => exact ex_y_18
  | 19, _ => exact ex_y_19
  | 20, _ => exact ex_y_20
  | 21, _ => exact ex_y_21
  | 22, _ => exact ex_y_22
  | 23, _ => exact ex_y_23
  | 24, _ => exact ex_y_24
  | 25, _ => exact ex_y_25
  | 26, _ => exact ex_y_26
  | 27, _ => exact ex_y_27
  | 28, _ => exact ex_y_28
  | 29, _ => exact ex_y_29
  | 30, _ => exact ex_y_30
  | 31, _ => exact ex_y_31
  | 32, _ => exact ex_y_32
  | 33, _ => exact ex_y_33
  | 34, _ => exact ex_y_34
  | 35, _ => exact ex_y_35
  | 36, _ => exact ex_y_36
  | 37, _ => exact ex_y_37
  | 38, _ => exact ex_y_38
  | 39, _ => exact ex_y_39
  | 40, _ => exact ex_y_40
  | 41, _ => exact ex_y_41
  | 42, _ => exact ex_y_42
  | 43, _ => exact ex_y_43
  | 44, _ => exact ex_y_44
  | 45, _ => exact ex_y_45
  | 46, _ => exact ex_y_46
  | 47, _ => exact ex_y_47
  | 48, _ => exact ex_y_48
  | 49, _ => exact ex_y_49
  | 50, _ => exact ex_y_50
  | 51, _ => exact ex_y_51
  | 52, _ => exact ex_y_52
  | 53, _ => exact ex_y_53
  | 54, _ => exact ex_y_54
  | 55, _ => exact ex_y_55
  | 56, _ => exact ex_y_56
  | 57, _ => exact ex_y_57
  | 58, _ => exact ex_y_58
  | 59, _ => exact ex_y_59
  | 60, _ => exact ex_y_60
  | 61, _ => exact ex_y_61
  | 62, _ => exact ex_y_62
  | 63, _ => exact ex_y_63
  | 64, _ => exact ex_y_64
  | 65, _ => exact ex_y_65
  | 66, _ => exact ex_y_66
  | 67, _ => exact ex_y_67
  | 68, _ => exact ex_y_68
  | 69, _ => exact ex_y_69
  | 70, _ => exact ex_y_70
  | 71, _ => exact ex_y_71
  | 72, _ => exact ex_y_72
  | 73, _ => exact ex_y_73
  | 74, _ => exact ex_y_74
  | 75, _ => exact ex_y_75
  | 76, _ => exact ex_y_76
  | 77, _ => exact ex_y_77
  | 78, _ => exact ex_y_78
  | 79, _ => exact ex_y_79
  | 80, _ => exact ex_y_80
  | 81, _ => exact ex_y_81
  | 82, _ => exact ex_y_82
  | 83, _ => exact ex_y_83
  | 84, _ => exact ex_y_84
  | 85, _ => exact ex_y_85
  | 86, _ => exact ex_y_86
  | n + 87, h => omega
def ex_mrP (t : (Nat × Nat) × (Nat × Nat)) : Prop := match t.2.2 with
  | 0 => Cond.methodLink (ex_cn t.1.1) t.1.2 (ex_nam t.2.1) ∈ ex_ws ∧ Cond.static (ex_nam t.2.1) ∈ ex_ws ∧ Cond.initialized (ex_nam t.2.1).cls ∈ ex_ws
  | 1 => Cond.methodLink (ex_cn t.1.1) t.1.2 (ex_nam t.2.1) ∈ ex_ws ∧ Cond.instanceMethod (ex_nam t.2.1) ∈ ex_ws ∧ Cond.selects (ex_own t.2.1) (ex_nam t.2.1) (ex_nam t.2.1) ∈ ex_ws ∧ Cond.initialized (ex_nam t.2.1).cls ∈ ex_ws ∧ (∃ (T : u_T) (N : Nat), ex_cl[ex_cix t.2.1]? = some (ex_own t.2.1, T, N)) ∧ ex_np t.2.1 + 1 ≤ ex_mxl t.2.1
  | 2 => Cond.methodLink (ex_cn t.1.1) t.1.2 (ex_nam t.2.1) ∈ ex_ws ∧ Cond.instanceMethod (ex_nam t.2.1) ∈ ex_ws ∧ Cond.initialized (ex_nam t.2.1).cls ∈ ex_ws ∧ (ex_nam t.2.1).name = "<init>" ∧ ex_rty t.2.1 = none ∧ ex_np t.2.1 + 1 ≤ ex_mxl t.2.1
  | 3 => Cond.methodLink (ex_cn t.1.1) t.1.2 Lib.Math.max.name ∈ ex_ws ∧ Cond.static Lib.Math.max.name ∈ ex_ws ∧ Cond.initialized "java/lang/Math" ∈ ex_ws ∧ Cond.code Lib.Math.max.name Lib.Math.max.code 2 (some .int) ∈ ex_ws
  | 4 => Cond.methodLink (ex_cn t.1.1) t.1.2 Lib.Math.min.name ∈ ex_ws ∧ Cond.static Lib.Math.min.name ∈ ex_ws ∧ Cond.initialized "java/lang/Math" ∈ ex_ws ∧ Cond.code Lib.Math.min.name Lib.Math.min.code 2 (some .int) ∈ ex_ws
  | _ => Cond.methodLink (ex_cn t.1.1) t.1.2 objectInit ∈ ex_ws ∧ Cond.instanceMethod objectInit ∈ ex_ws ∧ Cond.code objectInit ⟨#[0xb1]⟩ 1 none ∈ ex_ws
theorem ex_c_2_3 : ex_mrP ((2, 3), (0, 5)) := ⟨(ex_m1 41 rfl rfl), (ex_m1 12 rfl rfl), (ex_m1 13 rfl rfl)⟩
theorem ex_c_1_3 : ex_mrP ((1, 3), (0, 5)) := ⟨(ex_m1 25 rfl rfl), (ex_m1 12 rfl rfl), (ex_m1 13 rfl rfl)⟩
theorem ex_c_1_18 : ex_mrP ((1, 18), (8, 1)) := ⟨(ex_m1 211 rfl rfl), (ex_m1 164 rfl rfl), (ex_m1 165 rfl rfl), (ex_m1 3 rfl rfl), ⟨ex_TP, 2, rfl⟩, by decide⟩
theorem ex_c_0_1 : ex_mrP ((0, 1), (0, 5)) := ⟨(ex_m1 11 rfl rfl), (ex_m1 12 rfl rfl), (ex_m1 13 rfl rfl)⟩
theorem ex_c_0_9 : ex_mrP ((0, 9), (0, 4)) := ⟨(ex_m1 14 rfl rfl), (ex_m1 15 rfl rfl), (ex_m1 2 rfl rfl), (ex_m1 16 rfl rfl)⟩
theorem ex_c_0_15 : ex_mrP ((0, 15), (0, 3)) := ⟨(ex_m1 17 rfl rfl), (ex_m1 18 rfl rfl), (ex_m1 2 rfl rfl), (ex_m1 19 rfl rfl)⟩
theorem ex_c_0_31 : ex_mrP ((0, 31), (7, 2)) := ⟨(ex_m1 22 rfl rfl), (ex_m1 23 rfl rfl), (ex_m1 3 rfl rfl), rfl, rfl, by decide⟩
theorem ex_c_0_43 : ex_mrP ((0, 43), (0, 2)) := ⟨(ex_m1 38 rfl rfl), (ex_m1 39 rfl rfl), (ex_m1 4 rfl rfl), rfl, rfl, by decide⟩
theorem ex_c_0_61 : ex_mrP ((0, 61), (33, 0)) := ⟨(ex_m1 97 rfl rfl), (ex_m1 98 rfl rfl), (ex_m1 1 rfl rfl)⟩
theorem ex_c_0_65 : ex_mrP ((0, 65), (35, 1)) := ⟨(ex_m1 100 rfl rfl), (ex_m1 102 rfl rfl), (ex_m0 0 rfl rfl), (ex_m1 1 rfl rfl), ⟨ex_TX, 14, rfl⟩, by decide⟩
theorem ex_c_0_68 : ex_mrP ((0, 68), (34, 1)) := ⟨(ex_m1 187 rfl rfl), (ex_m1 189 rfl rfl), (ex_m0 12 rfl rfl), (ex_m1 1 rfl rfl), ⟨ex_TX, 14, rfl⟩, by decide⟩
theorem ex_c_0_72 : ex_mrP ((0, 72), (42, 1)) := ⟨(ex_m1 171 rfl rfl), (ex_m1 173 rfl rfl), (ex_m0 8 rfl rfl), (ex_m1 1 rfl rfl), ⟨ex_TX, 14, rfl⟩, by decide⟩
theorem ex_c_0_76 : ex_mrP ((0, 76), (46, 1)) := ⟨(ex_m1 143 rfl rfl), (ex_m1 145 rfl rfl), (ex_m0 4 rfl rfl), (ex_m1 1 rfl rfl), ⟨ex_TX, 14, rfl⟩, by decide⟩
theorem ex_c_0_82 : ex_mrP ((0, 82), (13, 1)) := ⟨(ex_m1 155 rfl rfl), (ex_m1 156 rfl rfl), (ex_m1 157 rfl rfl), (ex_m1 3 rfl rfl), ⟨ex_TP, 2, rfl⟩, by decide⟩
theorem ex_c_0_85 : ex_mrP ((0, 85), (48, 1)) := ⟨(ex_m1 159 rfl rfl), (ex_m1 161 rfl rfl), (ex_m0 6 rfl rfl), (ex_m1 1 rfl rfl), ⟨ex_TX, 14, rfl⟩, by decide⟩
theorem ex_c_0_91 : ex_mrP ((0, 91), (47, 1)) := ⟨(ex_m1 151 rfl rfl), (ex_m1 153 rfl rfl), (ex_m0 5 rfl rfl), (ex_m1 1 rfl rfl), ⟨ex_TX, 14, rfl⟩, by decide⟩
theorem ex_c_0_94 : ex_mrP ((0, 94), (9, 1)) := ⟨(ex_m1 207 rfl rfl), (ex_m1 208 rfl rfl), (ex_m1 209 rfl rfl), (ex_m1 3 rfl rfl), ⟨ex_TP, 2, rfl⟩, by decide⟩
theorem ex_c_0_97 : ex_mrP ((0, 97), (41, 1)) := ⟨(ex_m1 212 rfl rfl), (ex_m1 214 rfl rfl), (ex_m0 13 rfl rfl), (ex_m1 1 rfl rfl), ⟨ex_TX, 14, rfl⟩, by decide⟩
theorem ex_c_0_100 : ex_mrP ((0, 100), (10, 1)) := ⟨(ex_m1 147 rfl rfl), (ex_m1 148 rfl rfl), (ex_m1 149 rfl rfl), (ex_m1 3 rfl rfl), ⟨ex_TP, 2, rfl⟩, by decide⟩
theorem ex_c_0_104 : ex_mrP ((0, 104), (4, 1)) := ⟨(ex_m1 116 rfl rfl), (ex_m1 117 rfl rfl), (ex_m1 118 rfl rfl), (ex_m1 4 rfl rfl), ⟨ex_TB, 2, rfl⟩, by decide⟩
theorem ex_c_0_107 : ex_mrP ((0, 107), (1, 1)) := ⟨(ex_m1 120 rfl rfl), (ex_m1 121 rfl rfl), (ex_m1 122 rfl rfl), (ex_m1 4 rfl rfl), ⟨ex_TB, 2, rfl⟩, by decide⟩
theorem ex_c_0_111 : ex_mrP ((0, 111), (12, 1)) := ⟨(ex_m1 228 rfl rfl), (ex_m1 229 rfl rfl), (ex_m1 230 rfl rfl), (ex_m1 3 rfl rfl), ⟨ex_TP, 2, rfl⟩, by decide⟩
theorem ex_c_0_118 : ex_mrP ((0, 118), (11, 1)) := ⟨(ex_m1 139 rfl rfl), (ex_m1 140 rfl rfl), (ex_m1 141 rfl rfl), (ex_m1 3 rfl rfl), ⟨ex_TP, 2, rfl⟩, by decide⟩
theorem ex_c_0_124 : ex_mrP ((0, 124), (3, 1)) := ⟨(ex_m1 104 rfl rfl), (ex_m1 105 rfl rfl), (ex_m1 106 rfl rfl), (ex_m1 4 rfl rfl), ⟨ex_TB, 2, rfl⟩, by decide⟩
theorem ex_c_0_127 : ex_mrP ((0, 127), (2, 1)) := ⟨(ex_m1 131 rfl rfl), (ex_m1 132 rfl rfl), (ex_m1 133 rfl rfl), (ex_m1 4 rfl rfl), ⟨ex_TB, 2, rfl⟩, by decide⟩
theorem ex_c_0_133 : ex_mrP ((0, 133), (45, 1)) := ⟨(ex_m1 183 rfl rfl), (ex_m1 185 rfl rfl), (ex_m0 11 rfl rfl), (ex_m1 1 rfl rfl), ⟨ex_TX, 14, rfl⟩, by decide⟩
theorem ex_c_0_139 : ex_mrP ((0, 139), (40, 1)) := ⟨(ex_m1 108 rfl rfl), (ex_m1 110 rfl rfl), (ex_m0 1 rfl rfl), (ex_m1 1 rfl rfl), ⟨ex_TX, 14, rfl⟩, by decide⟩
theorem ex_c_0_143 : ex_mrP ((0, 143), (36, 0)) := ⟨(ex_m1 124 rfl rfl), (ex_m1 125 rfl rfl), (ex_m1 1 rfl rfl)⟩
theorem ex_c_0_146 : ex_mrP ((0, 146), (38, 1)) := ⟨(ex_m1 127 rfl rfl), (ex_m1 129 rfl rfl), (ex_m0 2 rfl rfl), (ex_m1 1 rfl rfl), ⟨ex_TX, 14, rfl⟩, by decide⟩
theorem ex_c_0_149 : ex_mrP ((0, 149), (37, 1)) := ⟨(ex_m1 167 rfl rfl), (ex_m1 169 rfl rfl), (ex_m0 7 rfl rfl), (ex_m1 1 rfl rfl), ⟨ex_TX, 14, rfl⟩, by decide⟩
theorem ex_c_0_152 : ex_mrP ((0, 152), (5, 1)) := ⟨(ex_m1 112 rfl rfl), (ex_m1 113 rfl rfl), (ex_m1 114 rfl rfl), (ex_m1 4 rfl rfl), ⟨ex_TB, 2, rfl⟩, by decide⟩
theorem ex_c_0_155 : ex_mrP ((0, 155), (39, 1)) := ⟨(ex_m1 135 rfl rfl), (ex_m1 137 rfl rfl), (ex_m0 3 rfl rfl), (ex_m1 1 rfl rfl), ⟨ex_TX, 14, rfl⟩, by decide⟩
theorem ex_c_0_158 : ex_mrP ((0, 158), (8, 1)) := ⟨(ex_m1 163 rfl rfl), (ex_m1 164 rfl rfl), (ex_m1 165 rfl rfl), (ex_m1 3 rfl rfl), ⟨ex_TP, 2, rfl⟩, by decide⟩
theorem ex_c_0_161 : ex_mrP ((0, 161), (6, 1)) := ⟨(ex_m1 216 rfl rfl), (ex_m1 217 rfl rfl), (ex_m1 218 rfl rfl), (ex_m1 4 rfl rfl), ⟨ex_TB, 2, rfl⟩, by decide⟩
theorem ex_c_0_162 : ex_mrP ((0, 162), (43, 1)) := ⟨(ex_m1 175 rfl rfl), (ex_m1 177 rfl rfl), (ex_m0 9 rfl rfl), (ex_m1 1 rfl rfl), ⟨ex_TX, 14, rfl⟩, by decide⟩
theorem ex_c_0_165 : ex_mrP ((0, 165), (44, 1)) := ⟨(ex_m1 179 rfl rfl), (ex_m1 181 rfl rfl), (ex_m0 10 rfl rfl), (ex_m1 1 rfl rfl), ⟨ex_TX, 14, rfl⟩, by decide⟩
theorem ex_c_3_1 : ex_mrP ((3, 1), (0, 5)) := ⟨(ex_m2 44 rfl rfl), (ex_m1 12 rfl rfl), (ex_m1 13 rfl rfl)⟩
theorem ex_c_3_45 : ex_mrP ((3, 45), (51, 1)) := ⟨(ex_m2 158 rfl rfl), (ex_m2 160 rfl rfl), (ex_m0 28 rfl rfl), (ex_m1 5 rfl rfl), ⟨ex_TM, 16, rfl⟩, by decide⟩
theorem ex_c_3_49 : ex_mrP ((3, 49), (53, 1)) := ⟨(ex_m2 134 rfl rfl), (ex_m2 136 rfl rfl), (ex_m0 22 rfl rfl), (ex_m1 5 rfl rfl), ⟨ex_TM, 16, rfl⟩, by decide⟩
theorem ex_c_3_55 : ex_mrP ((3, 55), (52, 1)) := ⟨(ex_m2 154 rfl rfl), (ex_m2 156 rfl rfl), (ex_m0 27 rfl rfl), (ex_m1 5 rfl rfl), ⟨ex_TM, 16, rfl⟩, by decide⟩
theorem ex_c_3_59 : ex_mrP ((3, 59), (54, 1)) := ⟨(ex_m2 130 rfl rfl), (ex_m2 132 rfl rfl), (ex_m0 21 rfl rfl), (ex_m1 5 rfl rfl), ⟨ex_TM, 16, rfl⟩, by decide⟩
theorem ex_c_3_65 : ex_mrP ((3, 65), (56, 1)) := ⟨(ex_m2 142 rfl rfl), (ex_m2 144 rfl rfl), (ex_m0 24 rfl rfl), (ex_m1 5 rfl rfl), ⟨ex_TM, 16, rfl⟩, by decide⟩
theorem ex_c_3_69 : ex_mrP ((3, 69), (57, 1)) := ⟨(ex_m2 146 rfl rfl), (ex_m2 148 rfl rfl), (ex_m0 25 rfl rfl), (ex_m1 5 rfl rfl), ⟨ex_TM, 16, rfl⟩, by decide⟩
theorem ex_c_3_76 : ex_mrP ((3, 76), (61, 1)) := ⟨(ex_m2 126 rfl rfl), (ex_m2 128 rfl rfl), (ex_m0 20 rfl rfl), (ex_m1 5 rfl rfl), ⟨ex_TM, 16, rfl⟩, by decide⟩
theorem ex_c_3_80 : ex_mrP ((3, 80), (58, 1)) := ⟨(ex_m2 138 rfl rfl), (ex_m2 140 rfl rfl), (ex_m0 23 rfl rfl), (ex_m1 5 rfl rfl), ⟨ex_TM, 16, rfl⟩, by decide⟩
theorem ex_c_3_83 : ex_mrP ((3, 83), (59, 1)) := ⟨(ex_m2 106 rfl rfl), (ex_m2 108 rfl rfl), (ex_m0 15 rfl rfl), (ex_m1 5 rfl rfl), ⟨ex_TM, 16, rfl⟩, by decide⟩
theorem ex_c_3_87 : ex_mrP ((3, 87), (60, 1)) := ⟨(ex_m2 114 rfl rfl), (ex_m2 116 rfl rfl), (ex_m0 17 rfl rfl), (ex_m1 5 rfl rfl), ⟨ex_TM, 16, rfl⟩, by decide⟩
theorem ex_c_3_93 : ex_mrP ((3, 93), (62, 1)) := ⟨(ex_m2 122 rfl rfl), (ex_m2 124 rfl rfl), (ex_m0 19 rfl rfl), (ex_m1 5 rfl rfl), ⟨ex_TM, 16, rfl⟩, by decide⟩
theorem ex_c_3_96 : ex_mrP ((3, 96), (63, 1)) := ⟨(ex_m2 118 rfl rfl), (ex_m2 120 rfl rfl), (ex_m0 18 rfl rfl), (ex_m1 5 rfl rfl), ⟨ex_TM, 16, rfl⟩, by decide⟩
theorem ex_c_3_103 : ex_mrP ((3, 103), (64, 1)) := ⟨(ex_m2 110 rfl rfl), (ex_m2 112 rfl rfl), (ex_m0 16 rfl rfl), (ex_m1 5 rfl rfl), ⟨ex_TM, 16, rfl⟩, by decide⟩
theorem ex_c_3_106 : ex_mrP ((3, 106), (55, 1)) := ⟨(ex_m2 150 rfl rfl), (ex_m2 152 rfl rfl), (ex_m0 26 rfl rfl), (ex_m1 5 rfl rfl), ⟨ex_TM, 16, rfl⟩, by decide⟩
theorem ex_c_3_109 : ex_mrP ((3, 109), (50, 0)) := ⟨(ex_m2 99 rfl rfl), (ex_m2 100 rfl rfl), (ex_m1 5 rfl rfl)⟩
theorem ex_c_3_112 : ex_mrP ((3, 112), (65, 1)) := ⟨(ex_m2 102 rfl rfl), (ex_m2 104 rfl rfl), (ex_m0 14 rfl rfl), (ex_m1 5 rfl rfl), ⟨ex_TM, 16, rfl⟩, by decide⟩
theorem ex_c_3_116 : ex_mrP ((3, 116), (70, 1)) := ⟨(ex_m2 179 rfl rfl), (ex_m2 181 rfl rfl), (ex_m0 29 rfl rfl), (ex_m1 5 rfl rfl), ⟨ex_TM, 16, rfl⟩, by decide⟩
theorem ex_c_3_119 : ex_mrP ((3, 119), (71, 1)) := ⟨(ex_m2 191 rfl rfl), (ex_m2 193 rfl rfl), (ex_m0 30 rfl rfl), (ex_m1 5 rfl rfl), ⟨ex_TM, 16, rfl⟩, by decide⟩
theorem ex_c_4_9 : ex_mrP ((4, 9), (86, 0)) := ⟨(ex_m2 36 rfl rfl), (ex_m2 37 rfl rfl), (ex_m1 0 rfl rfl)⟩
theorem ex_c_4_15 : ex_mrP ((4, 15), (14, 2)) := ⟨(ex_m1 8 rfl rfl), (ex_m1 9 rfl rfl), (ex_m1 1 rfl rfl), rfl, rfl, by decide⟩
theorem ex_c_4_20 : ex_mrP ((4, 20), (49, 2)) := ⟨(ex_m2 41 rfl rfl), (ex_m2 42 rfl rfl), (ex_m1 5 rfl rfl), rfl, rfl, by decide⟩
theorem ex_c_4_21 : ex_mrP ((4, 21), (15, 1)) := ⟨(ex_m1 93 rfl rfl), (ex_m1 94 rfl rfl), (ex_m1 95 rfl rfl), (ex_m1 1 rfl rfl), ⟨ex_TX, 14, rfl⟩, by decide⟩
theorem ex_c_4_25 : ex_mrP ((4, 25), (66, 1)) := ⟨(ex_m2 95 rfl rfl), (ex_m2 96 rfl rfl), (ex_m2 97 rfl rfl), (ex_m1 5 rfl rfl), ⟨ex_TM, 16, rfl⟩, by decide⟩
theorem ex_c_4_26 : ex_mrP ((4, 26), (16, 1)) := ⟨(ex_m1 191 rfl rfl), (ex_m1 192 rfl rfl), (ex_m1 193 rfl rfl), (ex_m1 1 rfl rfl), ⟨ex_TX, 14, rfl⟩, by decide⟩
theorem ex_c_4_30 : ex_mrP ((4, 30), (67, 1)) := ⟨(ex_m2 162 rfl rfl), (ex_m2 163 rfl rfl), (ex_m2 164 rfl rfl), (ex_m1 5 rfl rfl), ⟨ex_TM, 16, rfl⟩, by decide⟩
theorem ex_c_4_31 : ex_mrP ((4, 31), (17, 1)) := ⟨(ex_m1 195 rfl rfl), (ex_m1 196 rfl rfl), (ex_m1 197 rfl rfl), (ex_m1 1 rfl rfl), ⟨ex_TX, 14, rfl⟩, by decide⟩
theorem ex_c_4_35 : ex_mrP ((4, 35), (68, 1)) := ⟨(ex_m2 166 rfl rfl), (ex_m2 167 rfl rfl), (ex_m2 168 rfl rfl), (ex_m1 5 rfl rfl), ⟨ex_TM, 16, rfl⟩, by decide⟩
theorem ex_c_4_36 : ex_mrP ((4, 36), (18, 1)) := ⟨(ex_m1 199 rfl rfl), (ex_m1 200 rfl rfl), (ex_m1 201 rfl rfl), (ex_m1 1 rfl rfl), ⟨ex_TX, 14, rfl⟩, by decide⟩
theorem ex_c_4_39 : ex_mrP ((4, 39), (69, 1)) := ⟨(ex_m2 170 rfl rfl), (ex_m2 171 rfl rfl), (ex_m2 172 rfl rfl), (ex_m1 5 rfl rfl), ⟨ex_TM, 16, rfl⟩, by decide⟩
theorem ex_c_4_40 : ex_mrP ((4, 40), (19, 1)) := ⟨(ex_m1 203 rfl rfl), (ex_m1 204 rfl rfl), (ex_m1 205 rfl rfl), (ex_m1 1 rfl rfl), ⟨ex_TX, 14, rfl⟩, by decide⟩
theorem ex_c_4_43 : ex_mrP ((4, 43), (72, 1)) := ⟨(ex_m2 174 rfl rfl), (ex_m2 175 rfl rfl), (ex_m2 176 rfl rfl), (ex_m1 5 rfl rfl), ⟨ex_TM, 16, rfl⟩, by decide⟩
theorem ex_c_4_44 : ex_mrP ((4, 44), (20, 1)) := ⟨(ex_m1 220 rfl rfl), (ex_m1 221 rfl rfl), (ex_m1 222 rfl rfl), (ex_m1 1 rfl rfl), ⟨ex_TX, 14, rfl⟩, by decide⟩
theorem ex_c_4_47 : ex_mrP ((4, 47), (73, 1)) := ⟨(ex_m2 183 rfl rfl), (ex_m2 184 rfl rfl), (ex_m2 185 rfl rfl), (ex_m1 5 rfl rfl), ⟨ex_TM, 16, rfl⟩, by decide⟩
theorem ex_c_4_48 : ex_mrP ((4, 48), (21, 1)) := ⟨(ex_m1 224 rfl rfl), (ex_m1 225 rfl rfl), (ex_m1 226 rfl rfl), (ex_m1 1 rfl rfl), ⟨ex_TX, 14, rfl⟩, by decide⟩
theorem ex_c_4_51 : ex_mrP ((4, 51), (74, 1)) := ⟨(ex_m2 187 rfl rfl), (ex_m2 188 rfl rfl), (ex_m2 189 rfl rfl), (ex_m1 5 rfl rfl), ⟨ex_TM, 16, rfl⟩, by decide⟩
theorem ex_c_4_52 : ex_mrP ((4, 52), (22, 1)) := ⟨(ex_m1 232 rfl rfl), (ex_m1 233 rfl rfl), (ex_m1 234 rfl rfl), (ex_m1 1 rfl rfl), ⟨ex_TX, 14, rfl⟩, by decide⟩
theorem ex_c_4_56 : ex_mrP ((4, 56), (75, 1)) := ⟨(ex_m2 195 rfl rfl), (ex_m2 196 rfl rfl), (ex_m2 197 rfl rfl), (ex_m1 5 rfl rfl), ⟨ex_TM, 16, rfl⟩, by decide⟩
theorem ex_c_4_57 : ex_mrP ((4, 57), (23, 1)) := ⟨(ex_m1 236 rfl rfl), (ex_m1 237 rfl rfl), (ex_m1 238 rfl rfl), (ex_m1 1 rfl rfl), ⟨ex_TX, 14, rfl⟩, by decide⟩
theorem ex_c_4_60 : ex_mrP ((4, 60), (76, 1)) := ⟨(ex_m2 199 rfl rfl), (ex_m2 200 rfl rfl), (ex_m2 201 rfl rfl), (ex_m1 5 rfl rfl), ⟨ex_TM, 16, rfl⟩, by decide⟩
theorem ex_c_4_61 : ex_mrP ((4, 61), (24, 1)) := ⟨(ex_m2 0 rfl rfl), (ex_m2 1 rfl rfl), (ex_m2 2 rfl rfl), (ex_m1 1 rfl rfl), ⟨ex_TX, 14, rfl⟩, by decide⟩
theorem ex_c_4_64 : ex_mrP ((4, 64), (77, 1)) := ⟨(ex_m2 203 rfl rfl), (ex_m2 204 rfl rfl), (ex_m2 205 rfl rfl), (ex_m1 5 rfl rfl), ⟨ex_TM, 16, rfl⟩, by decide⟩
theorem ex_c_4_65 : ex_mrP ((4, 65), (25, 1)) := ⟨(ex_m2 4 rfl rfl), (ex_m2 5 rfl rfl), (ex_m2 6 rfl rfl), (ex_m1 1 rfl rfl), ⟨ex_TX, 14, rfl⟩, by decide⟩
theorem ex_c_4_68 : ex_mrP ((4, 68), (78, 1)) := ⟨(ex_m2 207 rfl rfl), (ex_m2 208 rfl rfl), (ex_m2 209 rfl rfl), (ex_m1 5 rfl rfl), ⟨ex_TM, 16, rfl⟩, by decide⟩
theorem ex_c_4_69 : ex_mrP ((4, 69), (26, 1)) := ⟨(ex_m2 8 rfl rfl), (ex_m2 9 rfl rfl), (ex_m2 10 rfl rfl), (ex_m1 1 rfl rfl), ⟨ex_TX, 14, rfl⟩, by decide⟩
theorem ex_c_4_72 : ex_mrP ((4, 72), (79, 1)) := ⟨(ex_m2 211 rfl rfl), (ex_m2 212 rfl rfl), (ex_m2 213 rfl rfl), (ex_m1 5 rfl rfl), ⟨ex_TM, 16, rfl⟩, by decide⟩
theorem ex_c_4_73 : ex_mrP ((4, 73), (27, 1)) := ⟨(ex_m2 12 rfl rfl), (ex_m2 13 rfl rfl), (ex_m2 14 rfl rfl), (ex_m1 1 rfl rfl), ⟨ex_TX, 14, rfl⟩, by decide⟩
theorem ex_c_4_76 : ex_mrP ((4, 76), (80, 1)) := ⟨(ex_m2 215 rfl rfl), (ex_m2 216 rfl rfl), (ex_m2 217 rfl rfl), (ex_m1 5 rfl rfl), ⟨ex_TM, 16, rfl⟩, by decide⟩
theorem ex_c_4_77 : ex_mrP ((4, 77), (28, 1)) := ⟨(ex_m2 16 rfl rfl), (ex_m2 17 rfl rfl), (ex_m2 18 rfl rfl), (ex_m1 1 rfl rfl), ⟨ex_TX, 14, rfl⟩, by decide⟩
theorem ex_c_4_80 : ex_mrP ((4, 80), (81, 1)) := ⟨(ex_m2 219 rfl rfl), (ex_m2 220 rfl rfl), (ex_m2 221 rfl rfl), (ex_m1 5 rfl rfl), ⟨ex_TM, 16, rfl⟩, by decide⟩
theorem ex_c_4_81 : ex_mrP ((4, 81), (29, 1)) := ⟨(ex_m2 20 rfl rfl), (ex_m2 21 rfl rfl), (ex_m2 22 rfl rfl), (ex_m1 1 rfl rfl), ⟨ex_TX, 14, rfl⟩, by decide⟩
theorem ex_c_4_84 : ex_mrP ((4, 84), (82, 1)) := ⟨(ex_m2 223 rfl rfl), (ex_m2 224 rfl rfl), (ex_m2 225 rfl rfl), (ex_m1 5 rfl rfl), ⟨ex_TM, 16, rfl⟩, by decide⟩
theorem ex_c_4_85 : ex_mrP ((4, 85), (30, 1)) := ⟨(ex_m2 24 rfl rfl), (ex_m2 25 rfl rfl), (ex_m2 26 rfl rfl), (ex_m1 1 rfl rfl), ⟨ex_TX, 14, rfl⟩, by decide⟩
theorem ex_c_4_88 : ex_mrP ((4, 88), (83, 1)) := ⟨(ex_m2 227 rfl rfl), (ex_m2 228 rfl rfl), (ex_m2 229 rfl rfl), (ex_m1 5 rfl rfl), ⟨ex_TM, 16, rfl⟩, by decide⟩
theorem ex_c_4_89 : ex_mrP ((4, 89), (31, 1)) := ⟨(ex_m2 28 rfl rfl), (ex_m2 29 rfl rfl), (ex_m2 30 rfl rfl), (ex_m1 1 rfl rfl), ⟨ex_TX, 14, rfl⟩, by decide⟩
theorem ex_c_4_92 : ex_mrP ((4, 92), (84, 1)) := ⟨(ex_m2 231 rfl rfl), (ex_m2 232 rfl rfl), (ex_m2 233 rfl rfl), (ex_m1 5 rfl rfl), ⟨ex_TM, 16, rfl⟩, by decide⟩
theorem ex_c_4_93 : ex_mrP ((4, 93), (32, 1)) := ⟨(ex_m2 32 rfl rfl), (ex_m2 33 rfl rfl), (ex_m2 34 rfl rfl), (ex_m1 1 rfl rfl), ⟨ex_TX, 14, rfl⟩, by decide⟩
theorem ex_c_4_96 : ex_mrP ((4, 96), (85, 1)) := ⟨(ex_m2 235 rfl rfl), (ex_m2 236 rfl rfl), (ex_m2 237 rfl rfl), (ex_m1 5 rfl rfl), ⟨ex_TM, 16, rfl⟩, by decide⟩
theorem ex_mrL_ok : ∀ t ∈ ex_mrL, ex_mrP t := List.forall_mem_cons.mpr ⟨ex_c_2_3, List.forall_mem_cons.mpr ⟨ex_c_1_3, List.forall_mem_cons.mpr ⟨ex_c_1_18, List.forall_mem_cons.mpr ⟨ex_c_0_1, List.forall_mem_cons.mpr ⟨ex_c_0_9, List.forall_mem_cons.mpr ⟨ex_c_0_15, List.forall_mem_cons.mpr ⟨ex_c_0_31, List.forall_mem_cons.mpr ⟨ex_c_0_43, List.forall_mem_cons.mpr ⟨ex_c_0_61, List.forall_mem_cons.mpr ⟨ex_c_0_65, List.forall_mem_cons.mpr ⟨ex_c_0_68, List.forall_mem_cons.mpr ⟨ex_c_0_72, List.forall_mem_cons.mpr ⟨ex_c_0_76, List.forall_mem_cons.mpr ⟨ex_c_0_82, List.forall_mem_cons.mpr ⟨ex_c_0_85, List.forall_mem_cons.mpr ⟨ex_c_0_91, List.forall_mem_cons.mpr ⟨ex_c_0_94, List.forall_mem_cons.mpr ⟨ex_c_0_97, List.forall_mem_cons.mpr ⟨ex_c_0_100, List.forall_mem_cons.mpr ⟨ex_c_0_104, List.forall_mem_cons.mpr ⟨ex_c_0_107, List.forall_mem_cons.mpr ⟨ex_c_0_111, List.forall_mem_cons.mpr ⟨ex_c_0_118, List.forall_mem_cons.mpr ⟨ex_c_0_124, List.forall_mem_cons.mpr ⟨ex_c_0_127, List.forall_mem_cons.mpr ⟨ex_c_0_133, List.forall_mem_cons.mpr ⟨ex_c_0_139, List.forall_mem_cons.mpr ⟨ex_c_0_143, List.forall_mem_cons.mpr ⟨ex_c_0_146, List.forall_mem_cons.mpr ⟨ex_c_0_149, List.forall_mem_cons.mpr ⟨ex_c_0_152, List.forall_mem_cons.mpr ⟨ex_c_0_155, List.forall_mem_cons.mpr ⟨ex_c_0_158, List.forall_mem_cons.mpr ⟨ex_c_0_161, List.forall_mem_cons.mpr ⟨ex_c_0_162, List.forall_mem_cons.mpr ⟨ex_c_0_165, List.forall_mem_cons.mpr ⟨ex_c_3_1, List.forall_mem_cons.mpr ⟨ex_c_3_45, List.forall_mem_cons.mpr ⟨ex_c_3_49, List.forall_mem_cons.mpr ⟨ex_c_3_55, List.forall_mem_cons.mpr ⟨ex_c_3_59, List.forall_mem_cons.mpr ⟨ex_c_3_65, List.forall_mem_cons.mpr ⟨ex_c_3_69, List.forall_mem_cons.mpr ⟨ex_c_3_76, List.forall_mem_cons.mpr ⟨ex_c_3_80, List.forall_mem_cons.mpr ⟨ex_c_3_83, List.forall_mem_cons.mpr ⟨ex_c_3_87, List.forall_mem_cons.mpr ⟨ex_c_3_93, List.forall_mem_cons.mpr ⟨ex_c_3_96, List.forall_mem_cons.mpr ⟨ex_c_3_103, List.forall_mem_cons.mpr ⟨ex_c_3_106, List.forall_mem_cons.mpr ⟨ex_c_3_109, List.forall_mem_cons.mpr ⟨ex_c_3_112, List.forall_mem_cons.mpr ⟨ex_c_3_116, List.forall_mem_cons.mpr ⟨ex_c_3_119, List.forall_mem_cons.mpr ⟨ex_c_4_9, List.forall_mem_cons.mpr ⟨ex_c_4_15, List.forall_mem_cons.mpr ⟨ex_c_4_20, List.forall_mem_cons.mpr ⟨ex_c_4_21, List.forall_mem_cons.mpr ⟨ex_c_4_25, List.forall_mem_cons.mpr ⟨ex_c_4_26, List.forall_mem_cons.mpr ⟨ex_c_4_30, List.forall_mem_cons.mpr ⟨ex_c_4_31, List.forall_mem_cons.mpr ⟨ex_c_4_35, List.forall_mem_cons.mpr ⟨ex_c_4_36, List.forall_mem_cons.mpr ⟨ex_c_4_39, List.forall_mem_cons.mpr ⟨ex_c_4_40, List.forall_mem_cons.mpr ⟨ex_c_4_43, List.forall_mem_cons.mpr ⟨ex_c_4_44, List.forall_mem_cons.mpr ⟨ex_c_4_47, List.forall_mem_cons.mpr ⟨ex_c_4_48, List.forall_mem_cons.mpr ⟨ex_c_4_51, List.forall_mem_cons.mpr ⟨ex_c_4_52, List.forall_mem_cons.mpr ⟨ex_c_4_56, List.forall_mem_cons.mpr ⟨ex_c_4_57, List.forall_mem_cons.mpr ⟨ex_c_4_60, List.forall_mem_cons.mpr ⟨ex_c_4_61, List.forall_mem_cons.mpr ⟨ex_c_4_64, List.forall_mem_cons.mpr ⟨ex_c_4_65, List.forall_mem_cons.mpr ⟨ex_c_4_68, List.forall_mem_cons.mpr ⟨ex_c_4_69, List.forall_mem_cons.mpr ⟨ex_c_4_72, List.forall_mem_cons.mpr ⟨ex_c_4_73, List.forall_mem_cons.mpr ⟨ex_c_4_76, List.forall_mem_cons.mpr ⟨ex_c_4_77, List.forall_mem_cons.mpr ⟨ex_c_4_80, List.forall_mem_cons.mpr ⟨ex_c_4_81, List.forall_mem_cons.mpr ⟨ex_c_4_84, List.forall_mem_cons.mpr ⟨ex_c_4_85, List.forall_mem_cons.mpr ⟨ex_c_4_88, List.forall_mem_cons.mpr ⟨ex_c_4_89, List.forall_mem_cons.mpr ⟨ex_c_4_92, List.forall_mem_cons.mpr ⟨ex_c_4_93, List.forall_mem_cons.mpr ⟨ex_c_4_96, fun _ h => absurd h List.not_mem_nil⟩⟩⟩⟩⟩⟩⟩⟩⟩⟩⟩⟩⟩⟩⟩⟩⟩⟩⟩⟩⟩⟩⟩⟩⟩⟩⟩⟩⟩⟩⟩⟩⟩⟩⟩⟩⟩⟩⟩⟩⟩⟩⟩⟩⟩⟩⟩⟩⟩⟩⟩⟩⟩⟩⟩⟩⟩⟩⟩⟩⟩⟩⟩⟩⟩⟩⟩⟩⟩⟩⟩⟩⟩⟩⟩⟩⟩⟩⟩⟩⟩⟩⟩⟩⟩⟩⟩⟩⟩⟩⟩⟩⟩⟩
/-! what the tables' words say of the tables of the small machine -/
theorem ex_ws_good : ∀ w ∈ ex_ws, (w.onTables && w.keeps) = true ∨ ∃ ty, w = .arrayClass ty := fun w h => good_of_word (List.mem_filter.mp h).2
theorem ex_fr_ok {y i ci k fk : Nat} {fin : Bool} (h : ex_fr y i = some (ci, k, fk, fin)) : ∃ (Cn : String) (T : u_T) (N : Nat), ex_cl[ci]? = some (Cn, T, N) ∧ k < N ∧ Cond.fieldLink (ex_own y) i (T k).1 (T k).2.1 (T k).2.2.1 ∈ ex_ws ∧ (T k).2.2.2 = fin ∧ (∃ ty, parseFieldDescriptor (T k).2.2.1 = some ty ∧ ex_fkt fk ty) ∧ (fin = true → ex_cix y = ci → (T k).1 = ex_own y) := by
  unfold ex_fr at h
  obtain ⟨t, ht, he⟩ := Option.map_eq_some_iff.mp h
  have h1 := List.find?_some ht
  have h2 := ex_frL_ok t (List.mem_of_find?_eq_some ht)
  obtain ⟨⟨c0, i0⟩, v0⟩ := t
  simp only at he
  subst he
  simp only [Bool.and_eq_true, beq_iff_eq] at h1
  obtain ⟨e1, e2⟩ := h1
  subst e1
  subst e2
  obtain ⟨Cn, T, N, g1, g2, g3, g4, g5, g6⟩ := h2
  exact ⟨Cn, T, N, g1, g2, g3, g4, g5, fun _ q => g6 q⟩
theorem ex_cl_ok {ci : Nat} {Cn : String} {T : u_T} {N : Nat} (h : ex_cl[ci]? = some (Cn, T, N)) : (∀ w ∈ u_ws Cn T N, w ∈ ex_ws) ∧ (∃ ty0 : Nat → FieldType, (∀ k, k < N → parseFieldDescriptor (T k).2.2.1 = some (ty0 k)) ∧ ∀ j, j < N → defaultValue (ty0 j) = vp_V (ex_dv ci) j) ∧ ∀ a, a < N → ∀ b, b < N → a ≠ b → (T a).2.1 ≠ (T b).2.1 := by
  rcases ci with _ | _ | _ | _ | ci
  · obtain ⟨rfl, rfl, rfl⟩ : "EpochCache" = Cn ∧ ex_TX = T ∧ 14 = N := by simpa using h
    exact ⟨ex_lX, ⟨ex_tX, by decide +kernel, by decide +kernel⟩, by decide +kernel⟩
  · obtain ⟨rfl, rfl, rfl⟩ : "EpochCache$Placement" = Cn ∧ ex_TP = T ∧ 2 = N := by simpa using h
    exact ⟨ex_lP, ⟨ex_tP, by decide +kernel, by decide +kernel⟩, by decide +kernel⟩
  · obtain ⟨rfl, rfl, rfl⟩ : "EpochCache$BlockList" = Cn ∧ ex_TB = T ∧ 2 = N := by simpa using h
    exact ⟨ex_lB, ⟨ex_tB, by decide +kernel, by decide +kernel⟩, by decide +kernel⟩
  · obtain ⟨rfl, rfl, rfl⟩ : "EpochCacheModel" = Cn ∧ ex_TM = T ∧ 16 = N := by simpa using h
    exact ⟨ex_lM, ⟨ex_tM, by decide +kernel, by decide +kernel⟩, by decide +kernel⟩
  · simp at h
theorem ex_ini_ok {y : Nat} (h : ex_ini y = true) : (ex_nam y).name = "<init>" := by
  unfold ex_ini at h
  split at h <;> first | rfl | cases h
theorem ex_nr_ok {y i ci : Nat} (h : ex_nr y i = some ci) : ∃ (Cn : String) (T : u_T) (N : Nat), ex_cl[ci]? = some (Cn, T, N) ∧ Cond.classLink (ex_own y) i Cn ∈ ex_ws ∧ Cond.instantiable Cn N ∈ ex_ws ∧ Cond.initialized Cn ∈ ex_ws ∧ (ex_da ci).length = N := by
  unfold ex_nr at h
  obtain ⟨t, ht, he⟩ := Option.map_eq_some_iff.mp h
  have h1 := List.find?_some ht
  have h2 := ex_nrL_ok t (List.mem_of_find?_eq_some ht)
  obtain ⟨⟨c0, i0⟩, v0⟩ := t
  simp only at he
  subst he
  simp only [Bool.and_eq_true, beq_iff_eq] at h1
  obtain ⟨e1, e2⟩ := h1
  subst e1
  subst e2
  exact h2
theorem ex_ar_ok {y i : Nat} (h : ex_ar y i = true) : Cond.classLink (ex_own y) i ex_BL ∈ ex_ws := by
  unfold ex_ar at h
  obtain ⟨t, ht, he⟩ := List.any_eq_true.mp h
  have h2 := ex_arL_ok t ht
  obtain ⟨c0, i0⟩ := t
  simp only [Bool.and_eq_true, beq_iff_eq] at he
  obtain ⟨e1, e2⟩ := he
  subst e1
  subst e2
  exact h2
theorem ex_kn_ok {y i : Nat} {v : Int32} (h : ex_kn y i = some v) : Cond.constant (ex_own y) i v ∈ ex_ws := by
  unfold ex_kn at h
  obtain ⟨t, ht, he⟩ := Option.map_eq_some_iff.mp h
  have h1 := List.find?_some ht
  have h2 := ex_knL_ok t (List.mem_of_find?_eq_some ht)
  obtain ⟨⟨c0, i0⟩, v0⟩ := t
  simp only at he
  subst he
  simp only [Bool.and_eq_true, beq_iff_eq] at h1
  obtain ⟨e1, e2⟩ := h1
  subst e1
  subst e2
  exact h2
theorem ex_bl_ok : ∃ (T : u_T) (N : Nat), ex_cl[ex_bl]? = some (ex_BL, T, N) := ⟨ex_TB, 2, rfl⟩
/-! methods -/
def ex_yB (y : Nat) : Bool := decide ((ex_nam y).cls = ex_own y) && (decide ((ex_nam y).cls ≠ "java/lang/invoke/MethodHandle") && (decide ((ex_nam y).cls ≠ "java/lang/invoke/VarHandle") && (decide ((parseMethodDescriptor (ex_nam y).desc).map (fun d => d.parameters.length) = some (ex_np y)) && (plainName (ex_nam y).cls && (decide (ex_mxl y ≤ 21) && decide (ex_np y ≤ ex_mxl y))))))
set_option maxRecDepth 100000 in
theorem ex_yB_ok : (List.range ex_ny).all ex_yB = true := by decide +kernel
theorem ex_y_ok {y : Nat} (h : y < ex_ny) : Cond.code (ex_nam y) (ex_cod y) (ex_mxl y) (ex_rty y) ∈ ex_ws ∧ (ex_nam y).cls = ex_own y ∧ (ex_nam y).cls ≠ "java/lang/invoke/MethodHandle" ∧ (ex_nam y).cls ≠ "java/lang/invoke/VarHandle" ∧ (parseMethodDescriptor (ex_nam y).desc).map (fun d => d.parameters.length) = some (ex_np y) ∧ plainName (ex_nam y).cls = true ∧ ex_mxl y ≤ 21 := by
  have h2 := List.all_eq_true.mp ex_yB_ok y (List.mem_range.mpr h)
  simp only [ex_yB, Bool.and_eq_true, decide_eq_true_eq] at h2
  obtain ⟨g2, g3, g4, g5, g6, g7, -⟩ := h2
  exact ⟨ex_yL_ok y h, g2, g3, g4, g5, g6, g7⟩
theorem ex_np_ok {y : Nat} (h : y < ex_ny) : ex_np y ≤ ex_mxl y := by
  have h2 := List.all_eq_true.mp ex_yB_ok y (List.mem_range.mpr h)
  simp only [ex_yB, Bool.and_eq_true, decide_eq_true_eq] at h2
  exact h2.2.2.2.2.2.2
theorem ex_mr_at {y i y2 k : Nat} (h : ex_mr y i = some (y2, k)) : ex_mrP ((ex_cix y, i), (y2, k)) := by
  unfold ex_mr at h
  obtain ⟨t, ht, he⟩ := Option.map_eq_some_iff.mp h
  have h1 := List.find?_some ht
  have h2 := ex_mrL_ok t (List.mem_of_find?_eq_some ht)
  obtain ⟨⟨c0, i0⟩, v0⟩ := t
  simp only at he
  subst he
  simp only [Bool.and_eq_true, beq_iff_eq] at h1
  obtain ⟨e1, e2⟩ := h1
  subst e1
  subst e2
  exact h2
theorem ex_mr_S {y i y2 : Nat} (h : ex_mr y i = some (y2, 0)) : Cond.methodLink (ex_own y) i (ex_nam y2) ∈ ex_ws ∧ Cond.static (ex_nam y2) ∈ ex_ws ∧ Cond.initialized (ex_nam y2).cls ∈ ex_ws := ex_mr_at h
theorem ex_mr_V {y i y2 : Nat} (h : ex_mr y i = some (y2, 1)) : Cond.methodLink (ex_own y) i (ex_nam y2) ∈ ex_ws ∧ Cond.instanceMethod (ex_nam y2) ∈ ex_ws ∧ Cond.selects (ex_own y2) (ex_nam y2) (ex_nam y2) ∈ ex_ws ∧ Cond.initialized (ex_nam y2).cls ∈ ex_ws ∧ ∃ (T : u_T) (N : Nat), ex_cl[ex_cix y2]? = some (ex_own y2, T, N) := by
  obtain ⟨g1, g2, g3, g4, g5, -⟩ := ex_mr_at h
  exact ⟨g1, g2, g3, g4, g5⟩
theorem ex_np_V {y i y2 : Nat} (h : ex_mr y i = some (y2, 1)) : ex_np y2 + 1 ≤ ex_mxl y2 := by
  obtain ⟨g1, g2, g3, g4, g5, g6⟩ := ex_mr_at h
  exact g6
theorem ex_mr_I {y i y2 : Nat} (h : ex_mr y i = some (y2, 2)) : Cond.methodLink (ex_own y) i (ex_nam y2) ∈ ex_ws ∧ Cond.instanceMethod (ex_nam y2) ∈ ex_ws ∧ Cond.initialized (ex_nam y2).cls ∈ ex_ws ∧ (ex_nam y2).name = "<init>" ∧ ex_rty y2 = none := by
  obtain ⟨g1, g2, g3, g4, g5, -⟩ := ex_mr_at h
  exact ⟨g1, g2, g3, g4, g5⟩
theorem ex_np_I {y i y2 : Nat} (h : ex_mr y i = some (y2, 2)) : ex_np y2 + 1 ≤ ex_mxl y2 := by
  obtain ⟨g1, g2, g3, g4, g5, g6⟩ := ex_mr_at h
  exact g6
theorem ex_mr_max {y i y2 : Nat} (h : ex_mr y i = some (y2, 3)) : Cond.methodLink (ex_own y) i Lib.Math.max.name ∈ ex_ws ∧ Cond.static Lib.Math.max.name ∈ ex_ws ∧ Cond.initialized "java/lang/Math" ∈ ex_ws ∧ Cond.code Lib.Math.max.name Lib.Math.max.code 2 (some .int) ∈ ex_ws := ex_mr_at h
theorem ex_mr_min {y i y2 : Nat} (h : ex_mr y i = some (y2, 4)) : Cond.methodLink (ex_own y) i Lib.Math.min.name ∈ ex_ws ∧ Cond.static Lib.Math.min.name ∈ ex_ws ∧ Cond.initialized "java/lang/Math" ∈ ex_ws ∧ Cond.code Lib.Math.min.name Lib.Math.min.code 2 (some .int) ∈ ex_ws := ex_mr_at h
theorem ex_mr_obj {y i y2 : Nat} (h : ex_mr y i = some (y2, 5)) : Cond.methodLink (ex_own y) i objectInit ∈ ex_ws ∧ Cond.instanceMethod objectInit ∈ ex_ws ∧ Cond.code objectInit ⟨#[0xb1]⟩ 1 none ∈ ex_ws := ex_mr_at h
end
section
/-! A small machine over worlds of cells: values are ints or places; its steps follow 'decode'; what it answers the real machine answers (ex_sim, next part). -/
abbrev ex_V : Type := Int32 ⊕ Nat
abbrev ex_C : Type := (Bool × Nat × (Nat → Int32)) ⊕ ((Nat × (Nat → Nat)) ⊕ (Nat × List ex_V))
abbrev ex_W : Type := List ex_C
abbrev ex_S : Type := Nat × (Nat → Int32)
abbrev ex_R : Type := Option Int32 × ex_W
abbrev ex_F : Type := Nat × List ex_V × List ex_V × ex_W × Nat × Nat
abbrev ex_N : Type := ex_R ⊕ (ex_F ⊕ ((Nat × List ex_V) × List ex_V))
def ex_gf (w : ex_W) (q ci k : Nat) : Option ex_V := match q with
  | 0 => none
  | 1 => none
  | p + 2 => match w[p]? with
    | some (.inr (.inr o)) => if o.1 = ci then o.2[k]? else none
    | _ => none
def ex_fits (fk : Nat) (v : ex_V) : Bool := match v with
  | .inl x => fk == 0 || (fk == 1 && (x == 0 || x == 1))
  | .inr 0 => false
  | .inr 1 => false
  | .inr (_ + 2) => fk == 2
def ex_pf (w : ex_W) (q ci k : Nat) (v : ex_V) : Option ex_W := match q with
  | 0 => none
  | 1 => none
  | p + 2 => match w[p]? with
    | some (.inr (.inr o)) => if o.1 = ci ∧ k < o.2.length then some (w.set p (.inr (.inr (ci, o.2.set k v)))) else none
    | _ => none
def ex_rd (S : ex_S) (w : ex_W) (z : Bool) (q : Nat) (i : Int32) : Option Int32 := match q with
  | 0 => none
  | 1 => if z = false ∧ ¬ (i < 0 ∨ S.1 ≤ i.toNatClampNeg) then some (S.2 i.toNatClampNeg) else none
  | p + 2 => match w[p]? with
    | some (.inl a) => if a.1 = z ∧ ¬ (i < 0 ∨ a.2.1 ≤ i.toNatClampNeg) then some (a.2.2 i.toNatClampNeg) else none
    | _ => none
def ex_wt (w : ex_W) (z : Bool) (q : Nat) (i x : Int32) : Option ex_W := match q with
  | 0 => none
  | 1 => none
  | p + 2 => match w[p]? with
    | some (.inl a) => if a.1 = z ∧ ¬ (i < 0 ∨ a.2.1 ≤ i.toNatClampNeg) then some (w.set p (.inl (z, a.2.1, upd a.2.2 i.toNatClampNeg x))) else none
    | _ => none
def ex_rq (w : ex_W) (q : Nat) (i : Int32) : Option Nat := match q with
  | 0 => none
  | 1 => none
  | p + 2 => match w[p]? with
    | some (.inr (.inl a)) => if ¬ (i < 0 ∨ a.1 ≤ i.toNatClampNeg) then some (a.2 i.toNatClampNeg) else none
    | _ => none
def ex_upq (f : Nat → Nat) (k x : Nat) : Nat → Nat := fun j => if j = k then x else f j
def ex_wq (w : ex_W) (q : Nat) (i : Int32) (x : Nat) : Option ex_W := match q, x with
  | p + 2, r + 2 => match w[p]?, w[r]? with
    | some (.inr (.inl a)), some (.inr (.inr o)) => if o.1 = ex_bl ∧ ¬ (i < 0 ∨ a.1 ≤ i.toNatClampNeg) then some (w.set p (.inr (.inl (a.1, ex_upq a.2 i.toNatClampNeg (r + 2))))) else none
    | _, _ => none
  | _, _ => none
def ex_len (S : ex_S) (w : ex_W) (q : Nat) : Option Int32 := match q with
  | 0 => none
  | 1 => some (Int32.ofNat S.1)
  | p + 2 => match w[p]? with
    | some (.inl a) => some (Int32.ofNat a.2.1)
    | some (.inr (.inl a)) => some (Int32.ofNat a.1)
    | _ => none
def ex_ldI (ls : List ex_V) (i : Nat) : Option Int32 := match ls[i]? with
  | some (.inl x) => some x
  | _ => none
def ex_ldA (ls : List ex_V) (i : Nat) : Option Nat := match ls[i]? with
  | some (.inr (q + 1)) => some (q + 1)
  | _ => none
def ex_nx (pc : Nat) (ls st : List ex_V) (w : ex_W) (c s : Nat) : Option ex_N := some (.inr (.inl (pc, ls, st, w, c, s)))
def ex_go (pc : Nat) (off : Int) (ls st : List ex_V) (w : ex_W) (c s : Nat) : Option ex_N := match (pc : Int) + off with
  | .ofNat t => ex_nx t ls st w c s
  | _ => none
def ex_cnd (k : ClassFile.Cond) (x y : Int32) : Bool := match k with
  | .eq => decide (x = y)
  | .ne => !decide (x = y)
  | .lt => decide (x < y)
  | .ge => decide (y ≤ x)
  | .gt => decide (y < x)
  | .le => decide (x ≤ y)
def ex_br (t : Bool) (pc : Nat) (off : Int) (ls st : List ex_V) (w : ex_W) (c s : Nat) : Option ex_N := match (pc : Int) + off with
  | .ofNat g => ex_nx (if t then g else pc + 3) ls st w c s
  | _ => none
def ex_sw (lo hi dflt : Int) (offs : Array Int) (x : Int32) : Option Int := if x.toInt < lo ∨ hi < x.toInt then some dflt else offs[(x.toInt - lo).toNat]?
def ex_obj (w : ex_W) (q ci : Nat) : Bool := match q with
  | 0 => false
  | 1 => false
  | p + 2 => match w[p]? with
    | some (.inr (.inr o)) => decide (o.1 = ci)
    | _ => false
/-- may method y, with c cells and s slots made, call y2 with the rest of the stack of this length? -/
def ex_cok (y y2 c s n : Nat) : Bool := decide (ex_lev y2 < ex_lev y) && decide (c + ex_mc y2 ≤ ex_mc y) && decide (s + ex_ms y2 ≤ ex_ms y) && decide (n ≤ 8) && decide (y2 < ex_ny)
def ex_rok (y c s : Nat) : Bool := decide (c ≤ ex_mc y) && decide (s ≤ ex_ms y)
def ex_dec (S : ex_S) (y pc : Nat) (ls st : List ex_V) (w : ex_W) (c s : Nat) : Option ex_N :=
  match decode (ex_cod y) pc with
  | .ok (.iconst n, 1) => ex_nx (pc + 1) ls (.inl (Int32.ofInt n) :: st) w c s
  | .ok (.bipush n, 2) => ex_nx (pc + 2) ls (.inl (Int8.ofInt n).toInt32 :: st) w c s
  | .ok (.sipush n, 3) => ex_nx (pc + 3) ls (.inl (Int16.ofInt n).toInt32 :: st) w c s
  | .ok (.ldc i, 2) => match ex_kn y i with
    | some v => ex_nx (pc + 2) ls (.inl v :: st) w c s
    | none => none
  | .ok (.iload_n k, 1) => match ex_ldI ls k with
    | some x => ex_nx (pc + 1) ls (.inl x :: st) w c s
    | none => none
  | .ok (.iload k, 2) => match ex_ldI ls k with
    | some x => ex_nx (pc + 2) ls (.inl x :: st) w c s
    | none => none
  | .ok (.aload_n k, 1) => match ex_ldA ls k with
    | some q => ex_nx (pc + 1) ls (.inr q :: st) w c s
    | none => none
  | .ok (.aload k, 2) => match ex_ldA ls k with
    | some q => ex_nx (pc + 2) ls (.inr q :: st) w c s
    | none => none
  | .ok (.istore_n k, 1) => match st with
    | .inl x :: st => if (k : Nat) < ex_mxl y then ex_nx (pc + 1) (ls.set k (.inl x)) st w c s else none
    | _ => none
  | .ok (.istore k, 2) => match st with
    | .inl x :: st => if k < ex_mxl y then ex_nx (pc + 2) (ls.set k (.inl x)) st w c s else none
    | _ => none
  | .ok (.astore_n k, 1) => match st with
    | .inr (q + 1) :: st => if (k : Nat) < ex_mxl y then ex_nx (pc + 1) (ls.set k (.inr (q + 1))) st w c s else none
    | _ => none
  | .ok (.astore k, 2) => match st with
    | .inr (q + 1) :: st => if k < ex_mxl y then ex_nx (pc + 2) (ls.set k (.inr (q + 1))) st w c s else none
    | _ => none
  | .ok (.iinc k n, 3) => match ex_ldI ls k with
    | some x => if k < ex_mxl y then ex_nx (pc + 3) (ls.set k (.inl (x + Int32.ofInt n))) st w c s else none
    | none => none
  | .ok (.iadd, 1) => match st with
    | .inl b :: .inl a :: st => ex_nx (pc + 1) ls (.inl (a + b) :: st) w c s
    | _ => none
  | .ok (.isub, 1) => match st with
    | .inl b :: .inl a :: st => ex_nx (pc + 1) ls (.inl (a - b) :: st) w c s
    | _ => none
  | .ok (.imul, 1) => match st with
    | .inl b :: .inl a :: st => ex_nx (pc + 1) ls (.inl (a * b) :: st) w c s
    | _ => none
  | .ok (.iand, 1) => match st with
    | .inl b :: .inl a :: st => ex_nx (pc + 1) ls (.inl (a &&& b) :: st) w c s
    | _ => none
  | .ok (.idiv, 1) => match st with
    | .inl b :: .inl a :: st => if b = 0 then none else ex_nx (pc + 1) ls (.inl (a / b) :: st) w c s
    | _ => none
  | .ok (.dup, 1) => match st with
    | v :: st => ex_nx (pc + 1) ls (v :: v :: st) w c s
    | _ => none
  | .ok (.pop, 1) => match st with
    | _ :: st => ex_nx (pc + 1) ls st w c s
    | _ => none
  | .ok (.goto off, 3) => ex_go pc off ls st w c s
  | .ok (.ifCond k off, 3) => match st with
    | .inl x :: st => ex_br (ex_cnd k x 0) pc off ls st w c s
    | _ => none
  | .ok (.if_icmp k off, 3) => match st with
    | .inl b :: .inl a :: st => ex_br (ex_cnd k a b) pc off ls st w c s
    | _ => none
  | .ok (.tableswitch dflt lo hi offs, _) => match st with
    | .inl x :: st => match ex_sw lo hi dflt offs x with
      | some off => ex_go pc off ls st w c s
      | none => none
    | _ => none
  | .ok (.getfield i, 3) => match ex_fr y i, st with
    | some (ci, k, _, _), .inr q :: st => match ex_gf w q ci k with
      | some v => ex_nx (pc + 3) ls (v :: st) w c s
      | none => none
    | _, _ => none
  | .ok (.putfield i, 3) => match ex_fr y i, st with
    | some (ci, k, fk, fin), v :: .inr q :: st => if ex_fits fk v = true ∧ (fin = false ∨ (ex_ini y = true ∧ ex_cix y = ci)) then match ex_pf w q ci k v with
        | some w2 => ex_nx (pc + 3) ls st w2 c s
        | none => none
      else none
    | _, _ => none
  | .ok (.iaload, 1) => match st with
    | .inl i :: .inr q :: st => match ex_rd S w false q i with
      | some x => ex_nx (pc + 1) ls (.inl x :: st) w c s
      | none => none
    | _ => none
  | .ok (.baload, 1) => match st with
    | .inl i :: .inr q :: st => match ex_rd S w true q i with
      | some x => ex_nx (pc + 1) ls (.inl x :: st) w c s
      | none => none
    | _ => none
  | .ok (.iastore, 1) => match st with
    | .inl x :: .inl i :: .inr q :: st => match ex_wt w false q i x with
      | some w2 => ex_nx (pc + 1) ls st w2 c s
      | none => none
    | _ => none
  | .ok (.bastore, 1) => match st with
    | .inl x :: .inl i :: .inr q :: st => match ex_wt w true q i (vp_nar .boolean x) with
      | some w2 => ex_nx (pc + 1) ls st w2 c s
      | none => none
    | _ => none
  | .ok (.aaload, 1) => match st with
    | .inl i :: .inr q :: st => match ex_rq w q i with
      | some x => ex_nx (pc + 1) ls (.inr x :: st) w c s
      | none => none
    | _ => none
  | .ok (.aastore, 1) => match st with
    | .inr x :: .inl i :: .inr q :: st => match ex_wq w q i x with
      | some w2 => ex_nx (pc + 1) ls st w2 c s
      | none => none
    | _ => none
  | .ok (.arraylength, 1) => match st with
    | .inr q :: st => match ex_len S w q with
      | some x => ex_nx (pc + 1) ls (.inl x :: st) w c s
      | none => none
    | _ => none
  | .ok (.newarray .int, 2) => match st with
    | .inl n :: st => if ¬ n < 0 ∧ n.toNatClampNeg ≤ 1000 ∧ c + 1 ≤ ex_mc y ∧ s + n.toNatClampNeg ≤ ex_ms y then ex_nx (pc + 2) ls (.inr (w.length + 2) :: st) (w ++ [.inl (false, n.toNatClampNeg, fun _ => 0)]) (c + 1) (s + n.toNatClampNeg) else none
    | _ => none
  | .ok (.newarray .boolean, 2) => match st with
    | .inl n :: st => if ¬ n < 0 ∧ n.toNatClampNeg ≤ 1000 ∧ c + 1 ≤ ex_mc y ∧ s + n.toNatClampNeg ≤ ex_ms y then ex_nx (pc + 2) ls (.inr (w.length + 2) :: st) (w ++ [.inl (true, n.toNatClampNeg, fun _ => 0)]) (c + 1) (s + n.toNatClampNeg) else none
    | _ => none
  | .ok (.anewarray i, 3) => match st with
    | .inl n :: st => if ex_ar y i = true ∧ ¬ n < 0 ∧ n.toNatClampNeg ≤ 1000 ∧ c + 1 ≤ ex_mc y ∧ s + n.toNatClampNeg ≤ ex_ms y then ex_nx (pc + 3) ls (.inr (w.length + 2) :: st) (w ++ [.inr (.inl (n.toNatClampNeg, fun _ => 0))]) (c + 1) (s + n.toNatClampNeg) else none
    | _ => none
  | .ok (.new i, 3) => match ex_nr y i with
    | some ci => if c + 1 ≤ ex_mc y ∧ s + (ex_da ci).length ≤ ex_ms y then ex_nx (pc + 3) ls (.inr (w.length + 2) :: st) (w ++ [.inr (.inr (ci, ex_da ci))]) (c + 1) (s + (ex_da ci).length) else none
    | none => none
  | .ok (.invokestatic i, 3) => match ex_mr y i with
    | some (y2, 0) => if ex_np y2 ≤ st.length ∧ ex_cok y y2 c s (st.drop (ex_np y2)).length = true then some (.inr (.inr ((y2, (st.take (ex_np y2)).reverse), st.drop (ex_np y2)))) else none
    | some (_, 3) => match st with
      | .inl b :: .inl a :: st => if 1 ≤ ex_lev y ∧ st.length ≤ 8 ∧ ex_rok y c s = true then ex_nx (pc + 3) ls (.inl (if a < b then b else a) :: st) w c s else none
      | _ => none
    | some (_, 4) => match st with
      | .inl b :: .inl a :: st => if 1 ≤ ex_lev y ∧ st.length ≤ 8 ∧ ex_rok y c s = true then ex_nx (pc + 3) ls (.inl (if b < a then b else a) :: st) w c s else none
      | _ => none
    | _ => none
  | .ok (.invokevirtual i, 3) => match ex_mr y i with
    | some (y2, 1) => match st.drop (ex_np y2) with
      | .inr q :: rest => if ex_obj w q (ex_cix y2) = true ∧ ex_cok y y2 c s rest.length = true then some (.inr (.inr ((y2, .inr q :: (st.take (ex_np y2)).reverse), rest))) else none
      | _ => none
    | _ => none
  | .ok (.invokespecial i, 3) => match ex_mr y i with
    | some (y2, 2) => match st.drop (ex_np y2) with
      | .inr q :: rest => if ex_obj w q (ex_cix y2) = true ∧ ex_cok y y2 c s rest.length = true then some (.inr (.inr ((y2, .inr q :: (st.take (ex_np y2)).reverse), rest))) else none
      | _ => none
    | some (_, 5) => match st with
      | .inr (_ + 2) :: rest => if 1 ≤ ex_lev y ∧ rest.length ≤ 8 then ex_nx (pc + 3) ls rest w c s else none
      | _ => none
    | _ => none
  | .ok (.ireturn, 1) => match st with
    | [.inl x] => if ex_rok y c s = true ∧ (ex_rty y = some .int ∨ (ex_rty y = some .boolean ∧ (x = 0 ∨ x = 1))) then some (.inl (some x, w)) else none
    | _ => none
  | .ok (.return_, 1) => match st with
    | [] => if ex_rok y c s = true ∧ ex_rty y = none then some (.inl (none, w)) else none
    | _ => none
  | _ => none
def ex_rl (r : Option Int32) : List ex_V := match r with
  | some x => [.inl x]
  | none => []
def ex_pad (y : Nat) (as : List ex_V) : List ex_V := as ++ List.replicate (ex_mxl y - as.length) (.inr 0)
def ex_run (S : ex_S) : Nat → Nat → Nat → List ex_V → List ex_V → ex_W → Nat → Nat → Option ex_R
  | 0, _, _, _, _, _, _, _ => none
  | n + 1, y, pc, ls, st, w, c, s => match ex_dec S y pc ls st w c s with
    | some (.inl r) => some r
    | some (.inr (.inl F)) => ex_run S n y F.1 F.2.1 F.2.2.1 F.2.2.2.1 F.2.2.2.2.1 F.2.2.2.2.2
    | some (.inr (.inr q)) => match ex_run S n q.1.1 0 (ex_pad q.1.1 q.1.2) [] w 0 0 with
      | some r => ex_run S n y (pc + 3) ls (ex_rl r.1 ++ q.2) r.2 (c + ex_mc q.1.1) (s + ex_ms q.1.1)
      | none => none
    | none => none
end
section
/-! what the small machine's states stand for on the real one -/
def ex_cv (b : Nat) (ad : List Nat) (v : ex_V) (x : Value) : Prop := match v with
  | .inl n => x = .int n
  | .inr 0 => x = .null
  | .inr 1 => x = .ref b
  | .inr (k + 2) => ∃ a, ad[k]? = some a ∧ x = .ref a
def ex_sr (b : Nat) (ad : List Nat) : List ex_V → List Value → Prop
  | [], [] => True
  | v :: vs, x :: xs => ex_cv b ad v x ∧ ex_sr b ad vs xs
  | _, _ => False
def ex_le (ad ad2 : List Nat) : Prop := ∀ (k a : Nat), ad[k]? = some a → ad2[k]? = some a
def ex_qv (ad : List Nat) (q : Nat) (o : Option Nat) : Prop := match q with
  | 0 => o = none
  | 1 => False
  | k + 2 => ∃ a, ad[k]? = some a ∧ o = some a
def ex_ce (b : Nat) (ad : List Nat) (kc : Nat → ClassId) (c : ex_C) (e : va_E) : Prop := match c with
  | .inl z => e = .inl (kc (if z.1 then 1 else 0), z.2.1, .inl z.2.2)
  | .inr (.inl z) => ∃ g : Nat → Option Nat, e = .inl (kc 2, z.1, .inr (.inr (.inr (.inr g)))) ∧ ∀ j, ex_qv ad (z.2 j) (g j)
  | .inr (.inr o) => ∃ vs, e = .inr (o.1, vs) ∧ ex_sr b ad o.2 vs
def ex_wr (b : Nat) (ad : List Nat) (kc : Nat → ClassId) (w : ex_W) (ws : va_W) : Prop := ad.length = w.length ∧ ws.length = w.length ∧ ∀ (k : Nat) (c : ex_C), w[k]? = some c → ∃ (a : Nat) (e : va_E), ad[k]? = some a ∧ ws[k]? = some (a, e) ∧ ex_ce b ad kc c e
def ex_lr (b : Nat) (ad : List Nat) (ls : List ex_V) (lv : List (Nat × Value)) : Prop := ∀ (i : Nat) (v : ex_V), ls[i]? = some v → v ≠ .inr 0 → ∃ x, ex_cv b ad v x ∧ (i, x) ∈ lv
theorem ex_le_rf (ad : List Nat) : ex_le ad ad := fun _ _ h => h
theorem ex_le_tr {a1 a2 a3 : List Nat} (h : ex_le a1 a2) (h2 : ex_le a2 a3) : ex_le a1 a3 := fun k a x => h2 k a (h k a x)
theorem ex_le_push (ad : List Nat) (q : Nat) : ex_le ad (ad ++ [q]) := fun k a h => by
  have hk : k < ad.length := (List.getElem?_eq_some_iff.mp h).1
  rw [List.getElem?_append_left hk]; exact h
theorem ex_cv_cat {b : Nat} {ad : List Nat} {v : ex_V} {x : Value} (h : ex_cv b ad v x) : x.category = 1 := by
  rcases v with n | (_ | _ | k)
  · have h : x = .int n := h
    subst h; rfl
  · have h : x = .null := h
    subst h; rfl
  · have h : x = .ref b := h
    subst h; rfl
  · obtain ⟨a, -, rfl⟩ := h
    rfl
theorem ex_cv_mono {b : Nat} {ad ad2 : List Nat} {v : ex_V} {x : Value} (hl : ex_le ad ad2) (h : ex_cv b ad v x) : ex_cv b ad2 v x := by
  rcases v with n | (_ | _ | k)
  · exact h
  · exact h
  · exact h
  · obtain ⟨a, h1, h2⟩ := h
    exact ⟨a, hl k a h1, h2⟩
theorem ex_sr_mono {b : Nat} {ad ad2 : List Nat} (hl : ex_le ad ad2) : ∀ {vs : List ex_V} {xs : List Value}, ex_sr b ad vs xs → ex_sr b ad2 vs xs
  | [], [], _ => trivial
  | _ :: _, _ :: _, h => ⟨ex_cv_mono hl h.1, ex_sr_mono hl h.2⟩
theorem ex_qv_mono {ad ad2 : List Nat} {q : Nat} {o : Option Nat} (hl : ex_le ad ad2) (h : ex_qv ad q o) : ex_qv ad2 q o := by
  rcases q with _ | _ | k
  · exact h
  · exact h
  · obtain ⟨a, h1, h2⟩ := h
    exact ⟨a, hl k a h1, h2⟩
theorem ex_ce_mono {b : Nat} {ad ad2 : List Nat} {kc : Nat → ClassId} {c : ex_C} {e : va_E} (hl : ex_le ad ad2) (h : ex_ce b ad kc c e) : ex_ce b ad2 kc c e := by
  rcases c with z | z | o
  · exact h
  · obtain ⟨g, h1, h2⟩ := h
    exact ⟨g, h1, fun j => ex_qv_mono hl (h2 j)⟩
  · obtain ⟨vs, h1, h2⟩ := h
    exact ⟨vs, h1, ex_sr_mono hl h2⟩
theorem ex_lr_mono {b : Nat} {ad ad2 : List Nat} {ls : List ex_V} {lv : List (Nat × Value)} (hl : ex_le ad ad2) (h : ex_lr b ad ls lv) : ex_lr b ad2 ls lv := fun i v h1 h2 => by
  obtain ⟨x, h3, h4⟩ := h i v h1 h2
  exact ⟨x, ex_cv_mono hl h3, h4⟩
theorem ex_sr_len {b : Nat} {ad : List Nat} : ∀ {vs : List ex_V} {xs : List Value}, ex_sr b ad vs xs → vs.length = xs.length
  | [], [], _ => rfl
  | _ :: _, _ :: _, h => by simp only [List.length_cons, ex_sr_len h.2]
theorem ex_sr_c {b : Nat} {ad : List Nat} {v : ex_V} {vs : List ex_V} {xs : List Value} (h : ex_sr b ad (v :: vs) xs) : ∃ (x : Value) (r : List Value), xs = x :: r ∧ ex_cv b ad v x ∧ ex_sr b ad vs r := by
  cases xs with
  | nil => exact h.elim
  | cons x r => exact ⟨x, r, rfl, h.1, h.2⟩
theorem ex_sr_i {b : Nat} {ad : List Nat} {n : Int32} {vs : List ex_V} {xs : List Value} (h : ex_sr b ad (.inl n :: vs) xs) : ∃ r : List Value, xs = .int n :: r ∧ ex_sr b ad vs r := by
  obtain ⟨x, r, h1, h2, h3⟩ := ex_sr_c h
  have h2 : x = .int n := h2
  subst h2
  exact ⟨r, h1, h3⟩
theorem ex_sr_r {b : Nat} {ad : List Nat} {k : Nat} {vs : List ex_V} {xs : List Value} (h : ex_sr b ad (.inr (k + 2) :: vs) xs) : ∃ (a : Nat) (r : List Value), ad[k]? = some a ∧ xs = .ref a :: r ∧ ex_sr b ad vs r := by
  obtain ⟨x, r, h1, ⟨a, h2, h3⟩, h4⟩ := ex_sr_c h
  subst h3
  exact ⟨a, r, h2, h1, h4⟩
theorem ex_sr_b {b : Nat} {ad : List Nat} {vs : List ex_V} {xs : List Value} (h : ex_sr b ad (.inr 1 :: vs) xs) : ∃ r : List Value, xs = .ref b :: r ∧ ex_sr b ad vs r := by
  obtain ⟨x, r, h1, h2, h3⟩ := ex_sr_c h
  have h2 : x = .ref b := h2
  subst h2
  exact ⟨r, h1, h3⟩
theorem ex_sr_nil {b : Nat} {ad : List Nat} {xs : List Value} (h : ex_sr b ad [] xs) : xs = [] := by
  cases xs with
  | nil => rfl
  | cons x r => exact h.elim
theorem ex_sr_get {b : Nat} {ad : List Nat} : ∀ {vs : List ex_V} {xs : List Value} {k : Nat} {v : ex_V}, ex_sr b ad vs xs → vs[k]? = some v → ∃ x, xs[k]? = some x ∧ ex_cv b ad v x
  | [], [], k, v, _, h => by simp at h
  | u :: vs, x :: xs, 0, v, h, hk => by
    have : u = v := by simpa using hk
    subst this
    exact ⟨x, rfl, h.1⟩
  | u :: vs, x :: xs, k + 1, v, h, hk => by
    have hk : vs[k]? = some v := by simpa using hk
    obtain ⟨z, h1, h2⟩ := ex_sr_get h.2 hk
    exact ⟨z, by simpa using h1, h2⟩
theorem ex_sr_set {b : Nat} {ad : List Nat} {v : ex_V} {x : Value} (hv : ex_cv b ad v x) : ∀ {vs : List ex_V} {xs : List Value} {k : Nat}, ex_sr b ad vs xs → ex_sr b ad (vs.set k v) (xs.set k x)
  | [], [], _, _ => trivial
  | _ :: _, _ :: _, 0, h => ⟨hv, h.2⟩
  | _ :: _, _ :: _, _ + 1, h => ⟨h.1, ex_sr_set hv h.2⟩
theorem ex_sr_app {b : Nat} {ad : List Nat} : ∀ {vs vs2 : List ex_V} {xs xs2 : List Value}, ex_sr b ad vs xs → ex_sr b ad vs2 xs2 → ex_sr b ad (vs ++ vs2) (xs ++ xs2)
  | [], _, [], _, _, h2 => h2
  | _ :: _, _, _ :: _, _, h, h2 => ⟨h.1, ex_sr_app h.2 h2⟩
theorem ex_sr_take {b : Nat} {ad : List Nat} : ∀ (n : Nat) {vs : List ex_V} {xs : List Value}, ex_sr b ad vs xs → ex_sr b ad (vs.take n) (xs.take n)
  | 0, _, _, _ => by simp only [List.take_zero]; exact trivial
  | _ + 1, [], [], _ => trivial
  | n + 1, _ :: _, _ :: _, h => ⟨h.1, ex_sr_take n h.2⟩
theorem ex_sr_drop {b : Nat} {ad : List Nat} : ∀ (n : Nat) {vs : List ex_V} {xs : List Value}, ex_sr b ad vs xs → ex_sr b ad (vs.drop n) (xs.drop n)
  | 0, _, _, h => h
  | _ + 1, [], [], _ => trivial
  | n + 1, _ :: _, _ :: _, h => ex_sr_drop n h.2
theorem ex_sr_rev {b : Nat} {ad : List Nat} : ∀ {vs : List ex_V} {xs : List Value}, ex_sr b ad vs xs → ex_sr b ad vs.reverse xs.reverse
  | [], [], _ => trivial
  | v :: vs, x :: xs, h => by
    rw [List.reverse_cons, List.reverse_cons]
    exact ex_sr_app (ex_sr_rev h.2) ⟨h.1, trivial⟩
theorem ex_sr_cat {b : Nat} {ad : List Nat} : ∀ {vs : List ex_V} {xs : List Value}, ex_sr b ad vs xs → (xs.map fun v => v.category).sum = vs.length
  | [], [], _ => rfl
  | _ :: _, _ :: _, h => by
    rw [List.map_cons, List.sum_cons, ex_cv_cat h.1, ex_sr_cat h.2, List.length_cons]; omega
theorem ex_lr_set {b : Nat} {ad : List Nat} {ls : List ex_V} {lv : List (Nat × Value)} {i : Nat} {v : ex_V} {x : Value} (h : ex_lr b ad ls lv) (hv : ex_cv b ad v x) : ex_lr b ad (ls.set i v) ((i, x) :: lv.filter (fun q => !(q.1 == i) && !(q.1 + 1 == i && q.2.category == 2))) := by
  intro j u hj hu
  by_cases hij : j = i
  · subst hij
    have hlt : j < ls.length := by
      have := (List.getElem?_eq_some_iff.mp hj).1
      simpa using this
    rw [List.getElem?_set_self hlt] at hj
    cases hj
    exact ⟨x, hv, List.mem_cons_self⟩
  · rw [List.getElem?_set_ne (fun q => hij q.symm)] at hj
    obtain ⟨z, h1, h2⟩ := h j u hj hu
    refine ⟨z, h1, List.mem_cons_of_mem _ (List.mem_filter.mpr ⟨h2, ?_⟩)⟩
    have hc := ex_cv_cat h1
    simp [hij, hc]
theorem ex_wr_set {b : Nat} {ad : List Nat} {kc : Nat → ClassId} {w : ex_W} {ws : va_W} {k a : Nat} {c : ex_C} {e : va_E} (h : ex_wr b ad kc w ws) (ha : ad[k]? = some a) (he : ex_ce b ad kc c e) : ex_wr b ad kc (w.set k c) (ws.set k (a, e)) := by
  obtain ⟨h1, h2, h3⟩ := h
  refine ⟨by rw [List.length_set]; exact h1, by rw [List.length_set, List.length_set]; exact h2, fun j u hj => ?_⟩
  by_cases hjk : j = k
  · subst hjk
    have hlt : j < w.length := by
      have := (List.getElem?_eq_some_iff.mp hj).1
      simpa using this
    rw [List.getElem?_set_self hlt] at hj
    cases hj
    exact ⟨a, e, ha, List.getElem?_set_self (by omega), he⟩
  · rw [List.getElem?_set_ne (fun q => hjk q.symm)] at hj
    obtain ⟨a', e', g1, g2, g3⟩ := h3 j u hj
    exact ⟨a', e', g1, by rw [List.getElem?_set_ne (fun q => hjk q.symm)]; exact g2, g3⟩
theorem ex_wr_push {b : Nat} {ad : List Nat} {kc : Nat → ClassId} {w : ex_W} {ws : va_W} {a : Nat} {c : ex_C} {e : va_E} (h : ex_wr b ad kc w ws) (he : ex_ce b (ad ++ [a]) kc c e) : ex_wr b (ad ++ [a]) kc (w ++ [c]) (ws ++ [(a, e)]) := by
  obtain ⟨h1, h2, h3⟩ := h
  refine ⟨by simp [h1], by simp [h2], fun j u hj => ?_⟩
  by_cases hjk : j < w.length
  · rw [List.getElem?_append_left hjk] at hj
    obtain ⟨a', e', g1, g2, g3⟩ := h3 j u hj
    exact ⟨a', e', ex_le_push ad a j a' g1, by rw [List.getElem?_append_left (by omega)]; exact g2, ex_ce_mono (ex_le_push ad a) g3⟩
  · have hlt : j < w.length + 1 := by
      have := (List.getElem?_eq_some_iff.mp hj).1
      simpa using this
    have hj2 : j = w.length := by omega
    subst hj2
    have : c = u := by simpa using hj
    subst this
    exact ⟨a, e, by rw [← h1]; simp, by rw [← h2]; simp, he⟩
theorem ex_wr_new {b : Nat} {ad : List Nat} {kc : Nat → ClassId} {w : ex_W} {ws : va_W} (h : ex_wr b ad kc w ws) (a : Nat) : (ad ++ [a])[w.length]? = some a := by
  rw [← h.1]; simp
/-! the small machine's reads and writes, inverted -/
theorem ex_gf_some {w : ex_W} {q ci k : Nat} {v : ex_V} (h : ex_gf w q ci k = some v) : ∃ (p0 : Nat) (fs : List ex_V), q = p0 + 2 ∧ w[p0]? = some (.inr (.inr (ci, fs))) ∧ fs[k]? = some v := by
  rcases q with _ | _ | p0
  · simp [ex_gf] at h
  · simp [ex_gf] at h
  · simp only [ex_gf] at h
    split at h
    · rename_i o ho
      split at h
      · rename_i hc
        exact ⟨p0, o.2, rfl, by rw [ho, ← hc], h⟩
      · cases h
    · cases h
theorem ex_pf_some {w w2 : ex_W} {q ci k : Nat} {v : ex_V} (h : ex_pf w q ci k v = some w2) : ∃ (p0 : Nat) (fs : List ex_V), q = p0 + 2 ∧ w[p0]? = some (.inr (.inr (ci, fs))) ∧ k < fs.length ∧ w2 = w.set p0 (.inr (.inr (ci, fs.set k v))) := by
  rcases q with _ | _ | p0
  · simp [ex_pf] at h
  · simp [ex_pf] at h
  · simp only [ex_pf] at h
    split at h
    · rename_i o ho
      split at h
      · rename_i hc
        exact ⟨p0, o.2, rfl, by rw [ho, ← hc.1], hc.2, (Option.some.inj h).symm⟩
      · cases h
    · cases h
theorem ex_rd_some {S : ex_S} {w : ex_W} {z : Bool} {q : Nat} {i x : Int32} (h : ex_rd S w z q i = some x) : (q = 1 ∧ z = false ∧ vp_in i S.1 ∧ x = S.2 i.toNatClampNeg) ∨ ∃ (p0 n : Nat) (f : Nat → Int32), q = p0 + 2 ∧ w[p0]? = some (.inl (z, n, f)) ∧ vp_in i n ∧ x = f i.toNatClampNeg := by
  rcases q with _ | _ | p0
  · simp [ex_rd] at h
  · simp only [ex_rd] at h
    split at h
    · rename_i hc
      exact Or.inl ⟨rfl, hc.1, hc.2, (Option.some.inj h).symm⟩
    · cases h
  · simp only [ex_rd] at h
    split at h
    · rename_i a ha
      split at h
      · rename_i hc
        exact Or.inr ⟨p0, a.2.1, a.2.2, rfl, by rw [ha, ← hc.1], hc.2, (Option.some.inj h).symm⟩
      · cases h
    · cases h
theorem ex_wt_some {w w2 : ex_W} {z : Bool} {q : Nat} {i x : Int32} (h : ex_wt w z q i x = some w2) : ∃ (p0 n : Nat) (f : Nat → Int32), q = p0 + 2 ∧ w[p0]? = some (.inl (z, n, f)) ∧ vp_in i n ∧ w2 = w.set p0 (.inl (z, n, upd f i.toNatClampNeg x)) := by
  rcases q with _ | _ | p0
  · simp [ex_wt] at h
  · simp [ex_wt] at h
  · simp only [ex_wt] at h
    split at h
    · rename_i a ha
      split at h
      · rename_i hc
        exact ⟨p0, a.2.1, a.2.2, rfl, by rw [ha, ← hc.1], hc.2, (Option.some.inj h).symm⟩
      · cases h
    · cases h
theorem ex_rq_some {w : ex_W} {q x : Nat} {i : Int32} (h : ex_rq w q i = some x) : ∃ (p0 n : Nat) (f : Nat → Nat), q = p0 + 2 ∧ w[p0]? = some (.inr (.inl (n, f))) ∧ vp_in i n ∧ x = f i.toNatClampNeg := by
  rcases q with _ | _ | p0
  · simp [ex_rq] at h
  · simp [ex_rq] at h
  · simp only [ex_rq] at h
    split at h
    · rename_i a ha
      split at h
      · rename_i hc
        exact ⟨p0, a.1, a.2, rfl, ha, hc, (Option.some.inj h).symm⟩
      · cases h
    · cases h
theorem ex_wq_some {w w2 : ex_W} {q x : Nat} {i : Int32} (h : ex_wq w q i x = some w2) : ∃ (p0 r0 n : Nat) (f : Nat → Nat) (fs : List ex_V), q = p0 + 2 ∧ x = r0 + 2 ∧ w[p0]? = some (.inr (.inl (n, f))) ∧ w[r0]? = some (.inr (.inr (ex_bl, fs))) ∧ vp_in i n ∧ w2 = w.set p0 (.inr (.inl (n, ex_upq f i.toNatClampNeg (r0 + 2)))) := by
  unfold ex_wq at h
  split at h
  · rename_i p0 r0
    split at h
    · rename_i a o ha ho
      split at h
      · rename_i hc
        exact ⟨p0, r0, a.1, a.2, o.2, rfl, rfl, ha, by rw [ho, ← hc.1], hc.2, (Option.some.inj h).symm⟩
      · cases h
    · cases h
  · cases h
theorem ex_ldI_some {ls : List ex_V} {i : Nat} {x : Int32} (h : ex_ldI ls i = some x) : ls[i]? = some (.inl x) := by
  unfold ex_ldI at h
  split at h
  · rename_i z hz
    rw [hz, Option.some.inj h]
  · cases h
theorem ex_ldA_some {ls : List ex_V} {i q : Nat} (h : ex_ldA ls i = some q) : ∃ r, q = r + 1 ∧ ls[i]? = some (.inr (r + 1)) := by
  unfold ex_ldA at h
  split at h
  · rename_i z hz
    exact ⟨z, (Option.some.inj h).symm, hz⟩
  · cases h
theorem ex_cv_ref {b : Nat} {ad : List Nat} {r : Nat} {x : Value} (h : ex_cv b ad (.inr (r + 1)) x) : ∃ a, x = .ref a := by
  rcases r with _ | k
  · exact ⟨b, h⟩
  · obtain ⟨a, -, h⟩ := h
    exact ⟨a, h⟩
theorem ex_obj_some {w : ex_W} {q ci : Nat} (h : ex_obj w q ci = true) : ∃ (p0 : Nat) (fs : List ex_V), q = p0 + 2 ∧ w[p0]? = some (.inr (.inr (ci, fs))) := by
  rcases q with _ | _ | p0
  · simp [ex_obj] at h
  · simp [ex_obj] at h
  · simp only [ex_obj] at h
    split at h
    · rename_i o ho
      have hc : o.1 = ci := by simpa using h
      exact ⟨p0, o.2, rfl, by rw [ho, ← hc]⟩
    · cases h
def ex_tys (kc : Nat → ClassId) : List (ClassId × FieldType) := [(kc 0, .int), (kc 1, .boolean), (kc 2, .object ex_BL)]
/-- what stands fast while method y runs -/
def ex_Cx (S : ex_S) (b : Nat) (p : Program) (R : Room) (s : State) (m : MethodId) (args : Array Value) (meth : Method) (c : Code) (A : Nat → Prop) (H0 : Heap) (D : va_G) (kc : Nat → ClassId) (y : Nat) : Prop :=
  p.tables.exec = Jvm.exec ∧ c.code = ex_cod y ∧ c.maxLocals = ex_mxl y ∧ s.vm.findClass (ex_own y) = some m.cls ∧ (∀ w ∈ ex_ws, w.before args s = true) ∧ meth.name = (ex_nam y).name ∧ va_K D ex_cl (ex_tys kc) s ∧ (∀ q, H0.size ≤ q → A q) ∧ (va_X b S.1 S.2 s H0 ∧ b < H0.size ∧ ¬ A b) ∧ (ex_lev y ≤ R.frames ∧ ex_lev y * 40 ≤ R.locals ∧ ex_mc y ≤ R.cells ∧ ex_ms y ≤ R.slots ∧ va_AO ex_BL s)
/-- from every real state that this state of the small machine stands for, Q is reached -/
def ex_Ok (S : ex_S) (b : Nat) (p : Program) (l : Launch) (e : Env) (R : Room) (s : State) (m : MethodId) (args : Array Value) (below : List Frame) (meth : Method) (c : Code) (Q : State → Prop) (A : Nat → Prop) (H0 : Heap) (D : va_G) (kc : Nat → ClassId) (y : Nat) (ad0 : List Nat) (pc : Nat) (ls st : List ex_V) (w : ex_W) (cN sN : Nat) : Prop :=
  ∀ (ad : List Nat) (ls' : Array Slot) (lv : List (Nat × Value)) (st' : List Value) (ws : va_W) (H : Heap) (locs : List Loc), ex_le ad0 ad → lv_has ls' (ex_mxl y) lv → ex_lr b ad ls lv → ex_sr b ad st st' → ex_wr b ad kc w ws → va_P D ex_cl ws H → va_D A ws → va_S A H0 H locs → W p l e R s m args below meth c H locs cN sN Q (F0 m pc ls' st')
section EXK
variable {S : ex_S} {b : Nat} {p : Program} {l : Launch} {e : Env} {R : Room} {s : State} {m : MethodId} {args : Array Value} {below : List Frame} {meth : Method} {c : Code} {Q : State → Prop} {A : Nat → Prop} {H0 : Heap} {D : va_G} {kc : Nat → ClassId} {y : Nat} {ad0 : List Nat} {pc : Nat} {ls st : List ex_V} {w : ex_W} {cN sN : Nat}
theorem ex_k_iconst (C : ex_Cx S b p R s m args meth c A H0 D kc y) {n : Int} (hd : decode (ex_cod y) pc = .ok (.iconst n, 1)) (k : ex_Ok S b p l e R s m args below meth c Q A H0 D kc y ad0 (pc + 1) ls (.inl (Int32.ofInt n) :: st) w cN sN) : ex_Ok S b p l e R s m args below meth c Q A H0 D kc y ad0 pc ls st w cN sN :=
  fun ad ls' lv st' ws H locs h1 h2 h3 h4 h5 h6 h7 h8 => lv_iconst C.1 C.2.1 hd rfl (k ad ls' lv (.int (Int32.ofInt n) :: st') ws H locs h1 h2 h3 ⟨rfl, h4⟩ h5 h6 h7 h8)
theorem ex_k_bipush (C : ex_Cx S b p R s m args meth c A H0 D kc y) {n : Int} (hd : decode (ex_cod y) pc = .ok (.bipush n, 2)) (k : ex_Ok S b p l e R s m args below meth c Q A H0 D kc y ad0 (pc + 2) ls (.inl (Int8.ofInt n).toInt32 :: st) w cN sN) : ex_Ok S b p l e R s m args below meth c Q A H0 D kc y ad0 pc ls st w cN sN :=
  fun ad ls' lv st' ws H locs h1 h2 h3 h4 h5 h6 h7 h8 => lv_bipush C.1 C.2.1 hd rfl (k ad ls' lv (.int (Int8.ofInt n).toInt32 :: st') ws H locs h1 h2 h3 ⟨rfl, h4⟩ h5 h6 h7 h8)
theorem ex_k_sipush (C : ex_Cx S b p R s m args meth c A H0 D kc y) {n : Int} (hd : decode (ex_cod y) pc = .ok (.sipush n, 3)) (k : ex_Ok S b p l e R s m args below meth c Q A H0 D kc y ad0 (pc + 3) ls (.inl (Int16.ofInt n).toInt32 :: st) w cN sN) : ex_Ok S b p l e R s m args below meth c Q A H0 D kc y ad0 pc ls st w cN sN :=
  fun ad ls' lv st' ws H locs h1 h2 h3 h4 h5 h6 h7 h8 => lv_sipush C.1 C.2.1 hd rfl (k ad ls' lv (.int (Int16.ofInt n).toInt32 :: st') ws H locs h1 h2 h3 ⟨rfl, h4⟩ h5 h6 h7 h8)
theorem ex_k_ldc (C : ex_Cx S b p R s m args meth c A H0 D kc y) {i : Nat} {v : Int32} (hd : decode (ex_cod y) pc = .ok (.ldc i, 2)) (hk : ex_kn y i = some v) (k : ex_Ok S b p l e R s m args below meth c Q A H0 D kc y ad0 (pc + 2) ls (.inl v :: st) w cN sN) : ex_Ok S b p l e R s m args below meth c Q A H0 D kc y ad0 pc ls st w cN sN :=
  fun ad ls' lv st' ws H locs h1 h2 h3 h4 h5 h6 h7 h8 => lv_ldc C.1 C.2.1 C.2.2.2.1 (C.2.2.2.2.1 _ (ex_kn_ok hk)) hd (k ad ls' lv (.int v :: st') ws H locs h1 h2 h3 ⟨rfl, h4⟩ h5 h6 h7 h8)
theorem ex_k_iload_n (C : ex_Cx S b p R s m args meth c A H0 D kc y) {i : Fin 4} {x : Int32} (hd : decode (ex_cod y) pc = .ok (.iload_n i, 1)) (hx : ex_ldI ls i = some x) (k : ex_Ok S b p l e R s m args below meth c Q A H0 D kc y ad0 (pc + 1) ls (.inl x :: st) w cN sN) : ex_Ok S b p l e R s m args below meth c Q A H0 D kc y ad0 pc ls st w cN sN := by
  intro ad ls' lv st' ws H locs h1 h2 h3 h4 h5 h6 h7 h8
  obtain ⟨z, hz, hm⟩ := h3 _ _ (ex_ldI_some hx) (by simp)
  have hz : z = .int x := hz
  subst hz
  exact lv_iload_n C.1 C.2.1 hd rfl (h2.2.2 _ hm) (k ad ls' lv (.int x :: st') ws H locs h1 h2 h3 ⟨rfl, h4⟩ h5 h6 h7 h8)
theorem ex_k_iload (C : ex_Cx S b p R s m args meth c A H0 D kc y) {i : Nat} {x : Int32} (hd : decode (ex_cod y) pc = .ok (.iload i, 2)) (hx : ex_ldI ls i = some x) (k : ex_Ok S b p l e R s m args below meth c Q A H0 D kc y ad0 (pc + 2) ls (.inl x :: st) w cN sN) : ex_Ok S b p l e R s m args below meth c Q A H0 D kc y ad0 pc ls st w cN sN := by
  intro ad ls' lv st' ws H locs h1 h2 h3 h4 h5 h6 h7 h8
  obtain ⟨z, hz, hm⟩ := h3 _ _ (ex_ldI_some hx) (by simp)
  have hz : z = .int x := hz
  subst hz
  exact lv_iload C.1 C.2.1 hd (h2.2.2 _ hm) (k ad ls' lv (.int x :: st') ws H locs h1 h2 h3 ⟨rfl, h4⟩ h5 h6 h7 h8)
theorem ex_k_aload_n (C : ex_Cx S b p R s m args meth c A H0 D kc y) {i : Fin 4} {q : Nat} (hd : decode (ex_cod y) pc = .ok (.aload_n i, 1)) (hx : ex_ldA ls i = some q) (k : ex_Ok S b p l e R s m args below meth c Q A H0 D kc y ad0 (pc + 1) ls (.inr q :: st) w cN sN) : ex_Ok S b p l e R s m args below meth c Q A H0 D kc y ad0 pc ls st w cN sN := by
  intro ad ls' lv st' ws H locs h1 h2 h3 h4 h5 h6 h7 h8
  obtain ⟨r, rfl, hr⟩ := ex_ldA_some hx
  obtain ⟨z, hz, hm⟩ := h3 _ _ hr (by simp)
  obtain ⟨a, rfl⟩ := ex_cv_ref hz
  exact lv_aload_n C.1 C.2.1 hd rfl (h2.2.2 _ hm) (k ad ls' lv (.ref a :: st') ws H locs h1 h2 h3 ⟨hz, h4⟩ h5 h6 h7 h8)
theorem ex_k_aload (C : ex_Cx S b p R s m args meth c A H0 D kc y) {i : Nat} {q : Nat} (hd : decode (ex_cod y) pc = .ok (.aload i, 2)) (hx : ex_ldA ls i = some q) (k : ex_Ok S b p l e R s m args below meth c Q A H0 D kc y ad0 (pc + 2) ls (.inr q :: st) w cN sN) : ex_Ok S b p l e R s m args below meth c Q A H0 D kc y ad0 pc ls st w cN sN := by
  intro ad ls' lv st' ws H locs h1 h2 h3 h4 h5 h6 h7 h8
  obtain ⟨r, rfl, hr⟩ := ex_ldA_some hx
  obtain ⟨z, hz, hm⟩ := h3 _ _ hr (by simp)
  obtain ⟨a, rfl⟩ := ex_cv_ref hz
  exact lv_aload C.1 C.2.1 hd (h2.2.2 _ hm) (k ad ls' lv (.ref a :: st') ws H locs h1 h2 h3 ⟨hz, h4⟩ h5 h6 h7 h8)
theorem ex_k_istore_n (C : ex_Cx S b p R s m args meth c A H0 D kc y) {i : Fin 4} {x : Int32} (hd : decode (ex_cod y) pc = .ok (.istore_n i, 1)) (hi : (i : Nat) < ex_mxl y) (k : ex_Ok S b p l e R s m args below meth c Q A H0 D kc y ad0 (pc + 1) (ls.set i (.inl x)) st w cN sN) : ex_Ok S b p l e R s m args below meth c Q A H0 D kc y ad0 pc ls (.inl x :: st) w cN sN := by
  intro ad ls' lv st' ws H locs h1 h2 h3 h4 h5 h6 h7 h8
  obtain ⟨r, rfl, h4a⟩ := ex_sr_i h4
  exact lv_istore_n C.1 C.2.1 hd rfl h2 hi rfl (fun ls2 g => k ad ls2 _ r ws H locs h1 g (ex_lr_set h3 rfl) h4a h5 h6 h7 h8)
theorem ex_k_istore (C : ex_Cx S b p R s m args meth c A H0 D kc y) {i : Nat} {x : Int32} (hd : decode (ex_cod y) pc = .ok (.istore i, 2)) (hi : i < ex_mxl y) (k : ex_Ok S b p l e R s m args below meth c Q A H0 D kc y ad0 (pc + 2) (ls.set i (.inl x)) st w cN sN) : ex_Ok S b p l e R s m args below meth c Q A H0 D kc y ad0 pc ls (.inl x :: st) w cN sN := by
  intro ad ls' lv st' ws H locs h1 h2 h3 h4 h5 h6 h7 h8
  obtain ⟨r, rfl, h4a⟩ := ex_sr_i h4
  exact lv_istore C.1 C.2.1 hd h2 hi rfl (fun ls2 g => k ad ls2 _ r ws H locs h1 g (ex_lr_set h3 rfl) h4a h5 h6 h7 h8)
theorem ex_k_astore_n (C : ex_Cx S b p R s m args meth c A H0 D kc y) {i : Fin 4} {q : Nat} (hd : decode (ex_cod y) pc = .ok (.astore_n i, 1)) (hi : (i : Nat) < ex_mxl y) (k : ex_Ok S b p l e R s m args below meth c Q A H0 D kc y ad0 (pc + 1) (ls.set i (.inr (q + 1))) st w cN sN) : ex_Ok S b p l e R s m args below meth c Q A H0 D kc y ad0 pc ls (.inr (q + 1) :: st) w cN sN := by
  intro ad ls' lv st' ws H locs h1 h2 h3 h4 h5 h6 h7 h8
  obtain ⟨x, r, rfl, hx, h4a⟩ := ex_sr_c h4
  obtain ⟨a, rfl⟩ := ex_cv_ref hx
  exact lv_astore_n C.1 C.2.1 hd rfl h2 hi rfl (fun ls2 g => k ad ls2 _ r ws H locs h1 g (ex_lr_set h3 hx) h4a h5 h6 h7 h8)
theorem ex_k_astore (C : ex_Cx S b p R s m args meth c A H0 D kc y) {i : Nat} {q : Nat} (hd : decode (ex_cod y) pc = .ok (.astore i, 2)) (hi : i < ex_mxl y) (k : ex_Ok S b p l e R s m args below meth c Q A H0 D kc y ad0 (pc + 2) (ls.set i (.inr (q + 1))) st w cN sN) : ex_Ok S b p l e R s m args below meth c Q A H0 D kc y ad0 pc ls (.inr (q + 1) :: st) w cN sN := by
  intro ad ls' lv st' ws H locs h1 h2 h3 h4 h5 h6 h7 h8
  obtain ⟨x, r, rfl, hx, h4a⟩ := ex_sr_c h4
  obtain ⟨a, rfl⟩ := ex_cv_ref hx
  exact lv_astore C.1 C.2.1 hd h2 hi rfl (fun ls2 g => k ad ls2 _ r ws H locs h1 g (ex_lr_set h3 hx) h4a h5 h6 h7 h8)
theorem ex_k_iinc (C : ex_Cx S b p R s m args meth c A H0 D kc y) {i : Nat} {n : Int} {x : Int32} (hd : decode (ex_cod y) pc = .ok (.iinc i n, 3)) (hx : ex_ldI ls i = some x) (hi : i < ex_mxl y) (k : ex_Ok S b p l e R s m args below meth c Q A H0 D kc y ad0 (pc + 3) (ls.set i (.inl (x + Int32.ofInt n))) st w cN sN) : ex_Ok S b p l e R s m args below meth c Q A H0 D kc y ad0 pc ls st w cN sN := by
  intro ad ls' lv st' ws H locs h1 h2 h3 h4 h5 h6 h7 h8
  obtain ⟨z, hz, hm⟩ := h3 _ _ (ex_ldI_some hx) (by simp)
  have hz : z = .int x := hz
  subst hz
  obtain ⟨j, hj⟩ := List.getElem?_of_mem hm
  exact lv_iinc C.1 C.2.1 hd h2 hj rfl hi rfl (fun ls2 g => k ad ls2 _ st' ws H locs h1 g (ex_lr_set h3 rfl) h4 h5 h6 h7 h8)
theorem ex_k_iadd (C : ex_Cx S b p R s m args meth c A H0 D kc y) {x z : Int32} (hd : decode (ex_cod y) pc = .ok (.iadd, 1)) (k : ex_Ok S b p l e R s m args below meth c Q A H0 D kc y ad0 (pc + 1) ls (.inl (x + z) :: st) w cN sN) : ex_Ok S b p l e R s m args below meth c Q A H0 D kc y ad0 pc ls (.inl z :: .inl x :: st) w cN sN := by
  intro ad ls' lv st' ws H locs h1 h2 h3 h4 h5 h6 h7 h8
  obtain ⟨r, rfl, h4a⟩ := ex_sr_i h4
  obtain ⟨r, rfl, h4b⟩ := ex_sr_i h4a
  exact lv_iadd C.1 C.2.1 hd (k ad ls' lv (.int (x + z) :: r) ws H locs h1 h2 h3 ⟨rfl, h4b⟩ h5 h6 h7 h8)
theorem ex_k_isub (C : ex_Cx S b p R s m args meth c A H0 D kc y) {x z : Int32} (hd : decode (ex_cod y) pc = .ok (.isub, 1)) (k : ex_Ok S b p l e R s m args below meth c Q A H0 D kc y ad0 (pc + 1) ls (.inl (x - z) :: st) w cN sN) : ex_Ok S b p l e R s m args below meth c Q A H0 D kc y ad0 pc ls (.inl z :: .inl x :: st) w cN sN := by
  intro ad ls' lv st' ws H locs h1 h2 h3 h4 h5 h6 h7 h8
  obtain ⟨r, rfl, h4a⟩ := ex_sr_i h4
  obtain ⟨r, rfl, h4b⟩ := ex_sr_i h4a
  exact lv_isub C.1 C.2.1 hd (k ad ls' lv (.int (x - z) :: r) ws H locs h1 h2 h3 ⟨rfl, h4b⟩ h5 h6 h7 h8)
theorem ex_k_imul (C : ex_Cx S b p R s m args meth c A H0 D kc y) {x z : Int32} (hd : decode (ex_cod y) pc = .ok (.imul, 1)) (k : ex_Ok S b p l e R s m args below meth c Q A H0 D kc y ad0 (pc + 1) ls (.inl (x * z) :: st) w cN sN) : ex_Ok S b p l e R s m args below meth c Q A H0 D kc y ad0 pc ls (.inl z :: .inl x :: st) w cN sN := by
  intro ad ls' lv st' ws H locs h1 h2 h3 h4 h5 h6 h7 h8
  obtain ⟨r, rfl, h4a⟩ := ex_sr_i h4
  obtain ⟨r, rfl, h4b⟩ := ex_sr_i h4a
  exact lv_imul C.1 C.2.1 hd (k ad ls' lv (.int (x * z) :: r) ws H locs h1 h2 h3 ⟨rfl, h4b⟩ h5 h6 h7 h8)
theorem ex_k_iand (C : ex_Cx S b p R s m args meth c A H0 D kc y) {x z : Int32} (hd : decode (ex_cod y) pc = .ok (.iand, 1)) (k : ex_Ok S b p l e R s m args below meth c Q A H0 D kc y ad0 (pc + 1) ls (.inl (x &&& z) :: st) w cN sN) : ex_Ok S b p l e R s m args below meth c Q A H0 D kc y ad0 pc ls (.inl z :: .inl x :: st) w cN sN := by
  intro ad ls' lv st' ws H locs h1 h2 h3 h4 h5 h6 h7 h8
  obtain ⟨r, rfl, h4a⟩ := ex_sr_i h4
  obtain ⟨r, rfl, h4b⟩ := ex_sr_i h4a
  exact lv_iand C.1 C.2.1 hd (k ad ls' lv (.int (x &&& z) :: r) ws H locs h1 h2 h3 ⟨rfl, h4b⟩ h5 h6 h7 h8)
theorem ex_k_idiv (C : ex_Cx S b p R s m args meth c A H0 D kc y) {x z : Int32} (hd : decode (ex_cod y) pc = .ok (.idiv, 1)) (hz : ¬ z = 0) (k : ex_Ok S b p l e R s m args below meth c Q A H0 D kc y ad0 (pc + 1) ls (.inl (x / z) :: st) w cN sN) : ex_Ok S b p l e R s m args below meth c Q A H0 D kc y ad0 pc ls (.inl z :: .inl x :: st) w cN sN := by
  intro ad ls' lv st' ws H locs h1 h2 h3 h4 h5 h6 h7 h8
  obtain ⟨r, rfl, h4a⟩ := ex_sr_i h4
  obtain ⟨r, rfl, h4b⟩ := ex_sr_i h4a
  exact lv_idiv C.1 C.2.1 hd hz (k ad ls' lv (.int (x / z) :: r) ws H locs h1 h2 h3 ⟨rfl, h4b⟩ h5 h6 h7 h8)
theorem ex_k_dup (C : ex_Cx S b p R s m args meth c A H0 D kc y) {v : ex_V} (hd : decode (ex_cod y) pc = .ok (.dup, 1)) (k : ex_Ok S b p l e R s m args below meth c Q A H0 D kc y ad0 (pc + 1) ls (v :: v :: st) w cN sN) : ex_Ok S b p l e R s m args below meth c Q A H0 D kc y ad0 pc ls (v :: st) w cN sN := by
  intro ad ls' lv st' ws H locs h1 h2 h3 h4 h5 h6 h7 h8
  obtain ⟨x, r, rfl, hx, h4a⟩ := ex_sr_c h4
  exact lv_dup C.1 C.2.1 hd (ex_cv_cat hx) (k ad ls' lv (x :: x :: r) ws H locs h1 h2 h3 ⟨hx, hx, h4a⟩ h5 h6 h7 h8)
theorem ex_k_pop (C : ex_Cx S b p R s m args meth c A H0 D kc y) {v : ex_V} (hd : decode (ex_cod y) pc = .ok (.pop, 1)) (k : ex_Ok S b p l e R s m args below meth c Q A H0 D kc y ad0 (pc + 1) ls st w cN sN) : ex_Ok S b p l e R s m args below meth c Q A H0 D kc y ad0 pc ls (v :: st) w cN sN := by
  intro ad ls' lv st' ws H locs h1 h2 h3 h4 h5 h6 h7 h8
  obtain ⟨x, r, rfl, hx, h4a⟩ := ex_sr_c h4
  exact lv_pop C.1 C.2.1 hd (ex_cv_cat hx) (k ad ls' lv r ws H locs h1 h2 h3 h4a h5 h6 h7 h8)
theorem ex_k_goto (C : ex_Cx S b p R s m args meth c A H0 D kc y) {off : Int} {t : Nat} (hd : decode (ex_cod y) pc = .ok (.goto off, 3)) (ht : (pc : Int) + off = (t : Int)) (k : ex_Ok S b p l e R s m args below meth c Q A H0 D kc y ad0 t ls st w cN sN) : ex_Ok S b p l e R s m args below meth c Q A H0 D kc y ad0 pc ls st w cN sN :=
  fun ad ls' lv st' ws H locs h1 h2 h3 h4 h5 h6 h7 h8 => lv_goto C.1 C.2.1 hd ht (k ad ls' lv st' ws H locs h1 h2 h3 h4 h5 h6 h7 h8)
theorem ex_ite_t {c1 : Bool} {x z : Nat} (h : c1 = true) : (if c1 = true then x else z) = x := if_pos h
theorem ex_ite_f {c1 : Bool} {x z : Nat} (h : c1 = false) : (if c1 = true then x else z) = z := if_neg (by rw [h]; decide)
theorem ex_k_if (C : ex_Cx S b p R s m args meth c A H0 D kc y) {k0 : ClassFile.Cond} {off : Int} {x : Int32} {t : Nat} (hd : decode (ex_cod y) pc = .ok (.ifCond k0 off, 3)) (ht : (pc : Int) + off = (t : Int)) (k : ex_Ok S b p l e R s m args below meth c Q A H0 D kc y ad0 (if ex_cnd k0 x 0 = true then t else pc + 3) ls st w cN sN) : ex_Ok S b p l e R s m args below meth c Q A H0 D kc y ad0 pc ls (.inl x :: st) w cN sN := by
  intro ad ls' lv st' ws H locs h1 h2 h3 h4 h5 h6 h7 h8
  obtain ⟨r, rfl, h4a⟩ := ex_sr_i h4
  have kk := k ad ls' lv r ws H locs h1 h2 h3 h4a h5 h6 h7 h8
  cases k0 with
  | eq => exact lv_if_eq C.1 C.2.1 hd ht (fun q => by rw [ex_ite_t (show ex_cnd .eq x 0 = true from decide_eq_true q)] at kk; exact kk) (fun q => by rw [ex_ite_f (show ex_cnd .eq x 0 = false from decide_eq_false q)] at kk; exact kk)
  | ne => exact lv_if_ne C.1 C.2.1 hd ht (fun q => by rw [ex_ite_t (show ex_cnd .ne x 0 = true from by show (!decide (x = 0)) = true; rw [decide_eq_false q]; rfl)] at kk; exact kk) (fun q => by rw [ex_ite_f (show ex_cnd .ne x 0 = false from by show (!decide (x = 0)) = false; rw [decide_eq_true q]; rfl)] at kk; exact kk)
  | lt => exact lv_if_lt C.1 C.2.1 hd ht (fun q => by rw [ex_ite_t (show ex_cnd .lt x 0 = true from decide_eq_true q)] at kk; exact kk) (fun q => by rw [ex_ite_f (show ex_cnd .lt x 0 = false from decide_eq_false q)] at kk; exact kk)
  | ge => exact lv_if_ge C.1 C.2.1 hd ht (fun q => by rw [ex_ite_t (show ex_cnd .ge x 0 = true from decide_eq_true q)] at kk; exact kk) (fun q => by rw [ex_ite_f (show ex_cnd .ge x 0 = false from decide_eq_false q)] at kk; exact kk)
  | gt => exact lv_if_gt C.1 C.2.1 hd ht (fun q => by rw [ex_ite_t (show ex_cnd .gt x 0 = true from decide_eq_true q)] at kk; exact kk) (fun q => by rw [ex_ite_f (show ex_cnd .gt x 0 = false from decide_eq_false q)] at kk; exact kk)
  | le => exact lv_if_le C.1 C.2.1 hd ht (fun q => by rw [ex_ite_t (show ex_cnd .le x 0 = true from decide_eq_true q)] at kk; exact kk) (fun q => by rw [ex_ite_f (show ex_cnd .le x 0 = false from decide_eq_false q)] at kk; exact kk)
theorem ex_k_icmp (C : ex_Cx S b p R s m args meth c A H0 D kc y) {k0 : ClassFile.Cond} {off : Int} {x z : Int32} {t : Nat} (hd : decode (ex_cod y) pc = .ok (.if_icmp k0 off, 3)) (ht : (pc : Int) + off = (t : Int)) (k : ex_Ok S b p l e R s m args below meth c Q A H0 D kc y ad0 (if ex_cnd k0 x z = true then t else pc + 3) ls st w cN sN) : ex_Ok S b p l e R s m args below meth c Q A H0 D kc y ad0 pc ls (.inl z :: .inl x :: st) w cN sN := by
  intro ad ls' lv st' ws H locs h1 h2 h3 h4 h5 h6 h7 h8
  obtain ⟨r, rfl, h4a⟩ := ex_sr_i h4
  obtain ⟨r, rfl, h4b⟩ := ex_sr_i h4a
  have kk := k ad ls' lv r ws H locs h1 h2 h3 h4b h5 h6 h7 h8
  cases k0 with
  | eq => exact lv_icmp_eq C.1 C.2.1 hd ht (fun q => by rw [ex_ite_t (show ex_cnd .eq x z = true from decide_eq_true q)] at kk; exact kk) (fun q => by rw [ex_ite_f (show ex_cnd .eq x z = false from decide_eq_false q)] at kk; exact kk)
  | ne => exact lv_icmp_ne C.1 C.2.1 hd ht (fun q => by rw [ex_ite_t (show ex_cnd .ne x z = true from by show (!decide (x = z)) = true; rw [decide_eq_false q]; rfl)] at kk; exact kk) (fun q => by rw [ex_ite_f (show ex_cnd .ne x z = false from by show (!decide (x = z)) = false; rw [decide_eq_true q]; rfl)] at kk; exact kk)
  | lt => exact lv_icmp_lt C.1 C.2.1 hd ht (fun q => by rw [ex_ite_t (show ex_cnd .lt x z = true from decide_eq_true q)] at kk; exact kk) (fun q => by rw [ex_ite_f (show ex_cnd .lt x z = false from decide_eq_false q)] at kk; exact kk)
  | ge => exact lv_icmp_ge C.1 C.2.1 hd ht (fun q => by rw [ex_ite_t (show ex_cnd .ge x z = true from decide_eq_true q)] at kk; exact kk) (fun q => by rw [ex_ite_f (show ex_cnd .ge x z = false from decide_eq_false q)] at kk; exact kk)
  | gt => exact lv_icmp_gt C.1 C.2.1 hd ht (fun q => by rw [ex_ite_t (show ex_cnd .gt x z = true from decide_eq_true q)] at kk; exact kk) (fun q => by rw [ex_ite_f (show ex_cnd .gt x z = false from decide_eq_false q)] at kk; exact kk)
  | le => exact lv_icmp_le C.1 C.2.1 hd ht (fun q => by rw [ex_ite_t (show ex_cnd .le x z = true from decide_eq_true q)] at kk; exact kk) (fun q => by rw [ex_ite_f (show ex_cnd .le x z = false from decide_eq_false q)] at kk; exact kk)
theorem ex_k_switch (C : ex_Cx S b p R s m args meth c A H0 D kc y) {dflt lo hi off : Int} {offs : Array Int} {len : Nat} {x : Int32} {t : Nat} (hd : decode (ex_cod y) pc = .ok (.tableswitch dflt lo hi offs, len)) (hs : ex_sw lo hi dflt offs x = some off) (ht : (pc : Int) + off = (t : Int)) (k : ex_Ok S b p l e R s m args below meth c Q A H0 D kc y ad0 t ls st w cN sN) : ex_Ok S b p l e R s m args below meth c Q A H0 D kc y ad0 pc ls (.inl x :: st) w cN sN := by
  intro ad ls' lv st' ws H locs h1 h2 h3 h4 h5 h6 h7 h8
  obtain ⟨r, rfl, h4a⟩ := ex_sr_i h4
  have kk := k ad ls' lv r ws H locs h1 h2 h3 h4a h5 h6 h7 h8
  unfold ex_sw at hs
  split at hs
  · rename_i hc
    cases hs
    exact lv_tableOut C.1 C.2.1 hd hc ht kk
  · rename_i hc
    exact lv_tableIn C.1 C.2.1 hd (fun q => hc (Or.inl q)) (fun q => hc (Or.inr q)) hs ht kk
theorem ex_k_getfield (C : ex_Cx S b p R s m args meth c A H0 D kc y) {i q ci k0 fk : Nat} {fin : Bool} {v : ex_V} (hd : decode (ex_cod y) pc = .ok (.getfield i, 3)) (hf : ex_fr y i = some (ci, k0, fk, fin)) (hv : ex_gf w q ci k0 = some v) (k : ex_Ok S b p l e R s m args below meth c Q A H0 D kc y ad0 (pc + 3) ls (v :: st) w cN sN) : ex_Ok S b p l e R s m args below meth c Q A H0 D kc y ad0 pc ls (.inr q :: st) w cN sN := by
  intro ad ls' lv st' ws H locs h1 h2 h3 h4 h5 h6 h7 h8
  obtain ⟨p0, fs, rfl, hw0, hfs⟩ := ex_gf_some hv
  obtain ⟨a, r, ha, rfl, h4a⟩ := ex_sr_r h4
  obtain ⟨a', e', g1, g2, vs, rfl, g4⟩ := h5.2.2 p0 _ hw0
  obtain rfl : a = a' := Option.some.inj (ha.symm.trans g1)
  obtain ⟨x, hx1, hx2⟩ := ex_sr_get g4 hfs
  obtain ⟨Cn, T, N, f1, f2, f3, -⟩ := ex_fr_ok hf
  exact va_get C.1 C.2.1 C.2.2.2.2.1 (ex_cl_ok f1).1 C.2.2.2.1 C.2.2.2.2.2.2.1 h6 p0 g2 f1 k0 f2 (C.2.2.2.2.1 _ f3) (fun _ z => z) hx1 hd (k ad ls' lv (x :: r) ws H locs h1 h2 h3 ⟨hx2, h4a⟩ h5 h6 h7 h8)
theorem ex_fits_ok {fk : Nat} {v : ex_V} {b : Nat} {ad : List Nat} {x : Value} {ty : FieldType} (h : ex_fits fk v = true) (hv : ex_cv b ad v x) (ht : ex_fkt fk ty) : narrow ty x = x ∧ fits ty x = true := by
  rcases v with n | (_ | _ | k)
  · have hv : x = .int n := hv
    subst hv
    rcases fk with _ | _ | fk
    · have ht : ty = .int := ht
      subst ht
      exact ⟨rfl, rfl⟩
    · have ht : ty = .boolean := ht
      subst ht
      have hn : n = 0 ∨ n = 1 := by simpa [ex_fits] using h
      rcases hn with rfl | rfl <;> exact ⟨by decide, by decide⟩
    · simp [ex_fits] at h
  · simp [ex_fits] at h
  · simp [ex_fits] at h
  · obtain ⟨a, -, rfl⟩ := hv
    have hk : fk = 2 := by simpa [ex_fits] using h
    subst hk
    rcases ht with ⟨n, rfl⟩ | ⟨t, rfl⟩
    · exact ⟨rfl, rfl⟩
    · exact ⟨rfl, rfl⟩
theorem ex_k_putfield (C : ex_Cx S b p R s m args meth c A H0 D kc y) {i q ci k0 fk : Nat} {fin : Bool} {v : ex_V} {w2 : ex_W} (hd : decode (ex_cod y) pc = .ok (.putfield i, 3)) (hf : ex_fr y i = some (ci, k0, fk, fin)) (hfit : ex_fits fk v = true) (hfin : fin = false ∨ (ex_ini y = true ∧ ex_cix y = ci)) (hv : ex_pf w q ci k0 v = some w2) (k : ex_Ok S b p l e R s m args below meth c Q A H0 D kc y ad0 (pc + 3) ls st w2 cN sN) : ex_Ok S b p l e R s m args below meth c Q A H0 D kc y ad0 pc ls (v :: .inr q :: st) w cN sN := by
  intro ad ls' lv st' ws H locs h1 h2 h3 h4 h5 h6 h7 h8
  obtain ⟨p0, fs, rfl, hw0, hk0, rfl⟩ := ex_pf_some hv
  obtain ⟨x, r, rfl, hx, h4a⟩ := ex_sr_c h4
  obtain ⟨a, r, ha, rfl, h4b⟩ := ex_sr_r h4a
  obtain ⟨a', e', g1, g2, vs, rfl, g4⟩ := h5.2.2 p0 _ hw0
  obtain rfl : a = a' := Option.some.inj (ha.symm.trans g1)
  obtain ⟨Cn, T, N, f1, f2, f3, f4, ⟨ty, f5, f6⟩, f7⟩ := ex_fr_ok hf
  obtain ⟨u1, ⟨ty0, u2, -⟩, u3⟩ := ex_cl_ok f1
  obtain ⟨v1, v2⟩ := ex_fits_ok hfit hx f6
  have hl : k0 < vs.length := by rw [← ex_sr_len g4]; exact hk0
  have hset : ex_wr b ad kc (w.set p0 (.inr (.inr (ci, fs.set k0 v)))) (ws.set p0 (a, .inr (ci, vs.set k0 x))) := ex_wr_set h5 g1 ⟨_, rfl, ex_sr_set hx g4⟩
  cases fin with
  | false => exact va_put C.1 C.2.1 C.2.2.2.2.1 u1 ty0 u2 u3 C.2.2.2.1 C.2.2.2.2.2.2.1 h6 h7 h8 p0 g2 f1 k0 f2 (C.2.2.2.2.1 _ f3) (fun _ z => z) f4 f5 v1 v2 hl hd (fun H1 locs1 i1 i2 i3 => k ad ls' lv r _ H1 locs1 h1 h2 h3 h4b hset i1 i2 i3)
  | true =>
    obtain ⟨q1, q2⟩ : ex_ini y = true ∧ ex_cix y = ci := by
      rcases hfin with h | h
      · cases h
      · exact h
    exact va_putF C.1 C.2.1 C.2.2.2.2.1 u1 ty0 u2 u3 C.2.2.2.1 C.2.2.2.2.2.2.1 h6 h7 h8 p0 g2 f1 k0 f2 (C.2.2.2.2.1 _ f3) (fun _ z => z) f4 (by rw [C.2.2.2.2.2.1]; exact ex_ini_ok q1) (f7 rfl q2) f5 v1 v2 hl hd (fun H1 locs1 i1 i2 i3 => k ad ls' lv r _ H1 locs1 h1 h2 h3 h4b hset i1 i2 i3)
theorem ex_k_iaload (C : ex_Cx S b p R s m args meth c A H0 D kc y) {q : Nat} {i x : Int32} (hd : decode (ex_cod y) pc = .ok (.iaload, 1)) (hx : ex_rd S w false q i = some x) (k : ex_Ok S b p l e R s m args below meth c Q A H0 D kc y ad0 (pc + 1) ls (.inl x :: st) w cN sN) : ex_Ok S b p l e R s m args below meth c Q A H0 D kc y ad0 pc ls (.inl i :: .inr q :: st) w cN sN := by
  intro ad ls' lv st' ws H locs h1 h2 h3 h4 h5 h6 h7 h8
  obtain ⟨r, rfl, h4a⟩ := ex_sr_i h4
  rcases ex_rd_some hx with ⟨rfl, -, hin, rfl⟩ | ⟨p0, n, f, rfl, hw0, hin, rfl⟩
  · obtain ⟨r, rfl, h4b⟩ := ex_sr_b h4a
    obtain ⟨x1, x2, x3⟩ := C.2.2.2.2.2.2.2.2.1
    exact va_sld C.1 C.2.1 x1 x2 x3 h8 hin hd (k ad ls' lv (.int _ :: r) ws H locs h1 h2 h3 ⟨rfl, h4b⟩ h5 h6 h7 h8)
  · obtain ⟨a, r, ha, rfl, h4c⟩ := ex_sr_r h4a
    obtain ⟨a', e', g1, g2, g3⟩ := h5.2.2 p0 _ hw0
    obtain rfl : a = a' := Option.some.inj (ha.symm.trans g1)
    have g3 : e' = .inl (kc 0, n, .inl f) := g3
    subst g3
    exact va_iald C.1 C.2.1 C.2.2.2.2.2.2.1 h6 p0 0 g2 rfl hin hd (k ad ls' lv (.int _ :: r) ws H locs h1 h2 h3 ⟨rfl, h4c⟩ h5 h6 h7 h8)
theorem ex_k_baload (C : ex_Cx S b p R s m args meth c A H0 D kc y) {q : Nat} {i x : Int32} (hd : decode (ex_cod y) pc = .ok (.baload, 1)) (hx : ex_rd S w true q i = some x) (k : ex_Ok S b p l e R s m args below meth c Q A H0 D kc y ad0 (pc + 1) ls (.inl x :: st) w cN sN) : ex_Ok S b p l e R s m args below meth c Q A H0 D kc y ad0 pc ls (.inl i :: .inr q :: st) w cN sN := by
  intro ad ls' lv st' ws H locs h1 h2 h3 h4 h5 h6 h7 h8
  obtain ⟨r, rfl, h4a⟩ := ex_sr_i h4
  rcases ex_rd_some hx with ⟨-, hz, -, -⟩ | ⟨p0, n, f, rfl, hw0, hin, rfl⟩
  · cases hz
  · obtain ⟨a, r, ha, rfl, h4b⟩ := ex_sr_r h4a
    obtain ⟨a', e', g1, g2, g3⟩ := h5.2.2 p0 _ hw0
    obtain rfl : a = a' := Option.some.inj (ha.symm.trans g1)
    have g3 : e' = .inl (kc 1, n, .inl f) := g3
    subst g3
    exact va_zald C.1 C.2.1 C.2.2.2.2.2.2.1 h6 p0 1 g2 rfl hin hd (k ad ls' lv (.int _ :: r) ws H locs h1 h2 h3 ⟨rfl, h4b⟩ h5 h6 h7 h8)
theorem ex_k_iastore (C : ex_Cx S b p R s m args meth c A H0 D kc y) {q : Nat} {i x : Int32} {w2 : ex_W} (hd : decode (ex_cod y) pc = .ok (.iastore, 1)) (hx : ex_wt w false q i x = some w2) (k : ex_Ok S b p l e R s m args below meth c Q A H0 D kc y ad0 (pc + 1) ls st w2 cN sN) : ex_Ok S b p l e R s m args below meth c Q A H0 D kc y ad0 pc ls (.inl x :: .inl i :: .inr q :: st) w cN sN := by
  intro ad ls' lv st' ws H locs h1 h2 h3 h4 h5 h6 h7 h8
  obtain ⟨r, rfl, h4a⟩ := ex_sr_i h4
  obtain ⟨r, rfl, h4b⟩ := ex_sr_i h4a
  obtain ⟨p0, n, f, rfl, hw0, hin, rfl⟩ := ex_wt_some hx
  obtain ⟨a, r, ha, rfl, h4c⟩ := ex_sr_r h4b
  obtain ⟨a', e', g1, g2, g3⟩ := h5.2.2 p0 _ hw0
  obtain rfl : a = a' := Option.some.inj (ha.symm.trans g1)
  have g3 : e' = .inl (kc 0, n, .inl f) := g3
  subst g3
  exact va_iast C.1 C.2.1 C.2.2.2.2.2.2.1 h6 h7 h8 p0 0 g2 rfl hin hd (fun H1 locs1 i1 i2 i3 => k ad ls' lv r _ H1 locs1 h1 h2 h3 h4c (ex_wr_set h5 g1 rfl) i1 i2 i3)
theorem ex_k_bastore (C : ex_Cx S b p R s m args meth c A H0 D kc y) {q : Nat} {i x : Int32} {w2 : ex_W} (hd : decode (ex_cod y) pc = .ok (.bastore, 1)) (hx : ex_wt w true q i (vp_nar .boolean x) = some w2) (k : ex_Ok S b p l e R s m args below meth c Q A H0 D kc y ad0 (pc + 1) ls st w2 cN sN) : ex_Ok S b p l e R s m args below meth c Q A H0 D kc y ad0 pc ls (.inl x :: .inl i :: .inr q :: st) w cN sN := by
  intro ad ls' lv st' ws H locs h1 h2 h3 h4 h5 h6 h7 h8
  obtain ⟨r, rfl, h4a⟩ := ex_sr_i h4
  obtain ⟨r, rfl, h4b⟩ := ex_sr_i h4a
  obtain ⟨p0, n, f, rfl, hw0, hin, rfl⟩ := ex_wt_some hx
  obtain ⟨a, r, ha, rfl, h4c⟩ := ex_sr_r h4b
  obtain ⟨a', e', g1, g2, g3⟩ := h5.2.2 p0 _ hw0
  obtain rfl : a = a' := Option.some.inj (ha.symm.trans g1)
  have g3 : e' = .inl (kc 1, n, .inl f) := g3
  subst g3
  exact va_zast C.1 C.2.1 C.2.2.2.2.2.2.1 h6 h7 h8 p0 1 g2 rfl hin hd (fun H1 locs1 i1 i2 i3 => k ad ls' lv r _ H1 locs1 h1 h2 h3 h4c (ex_wr_set h5 g1 rfl) i1 i2 i3)
theorem ex_qv_cv {b : Nat} {ad : List Nat} {q : Nat} {o : Option Nat} (h : ex_qv ad q o) : ex_cv b ad (.inr q) (va_rf o) := by
  rcases q with _ | _ | k
  · have h : o = none := h
    subst h; rfl
  · exact h.elim
  · obtain ⟨a, h1, rfl⟩ := h
    exact ⟨a, h1, rfl⟩
theorem ex_k_aaload (C : ex_Cx S b p R s m args meth c A H0 D kc y) {q x : Nat} {i : Int32} (hd : decode (ex_cod y) pc = .ok (.aaload, 1)) (hx : ex_rq w q i = some x) (k : ex_Ok S b p l e R s m args below meth c Q A H0 D kc y ad0 (pc + 1) ls (.inr x :: st) w cN sN) : ex_Ok S b p l e R s m args below meth c Q A H0 D kc y ad0 pc ls (.inl i :: .inr q :: st) w cN sN := by
  intro ad ls' lv st' ws H locs h1 h2 h3 h4 h5 h6 h7 h8
  obtain ⟨r, rfl, h4a⟩ := ex_sr_i h4
  obtain ⟨p0, n, f, rfl, hw0, hin, rfl⟩ := ex_rq_some hx
  obtain ⟨a, r, ha, rfl, h4b⟩ := ex_sr_r h4a
  obtain ⟨a', e', g1, g2, g, rfl, g4⟩ := h5.2.2 p0 _ hw0
  obtain rfl : a = a' := Option.some.inj (ha.symm.trans g1)
  exact va_aldq C.1 C.2.1 C.2.2.2.2.2.2.1 h6 p0 2 g2 rfl hin hd (k ad ls' lv (va_rf _ :: r) ws H locs h1 h2 h3 ⟨ex_qv_cv (g4 _), h4b⟩ h5 h6 h7 h8)
theorem ex_k_aastore (C : ex_Cx S b p R s m args meth c A H0 D kc y) {q x : Nat} {i : Int32} {w2 : ex_W} (hd : decode (ex_cod y) pc = .ok (.aastore, 1)) (hx : ex_wq w q i x = some w2) (k : ex_Ok S b p l e R s m args below meth c Q A H0 D kc y ad0 (pc + 1) ls st w2 cN sN) : ex_Ok S b p l e R s m args below meth c Q A H0 D kc y ad0 pc ls (.inr x :: .inl i :: .inr q :: st) w cN sN := by
  intro ad ls' lv st' ws H locs h1 h2 h3 h4 h5 h6 h7 h8
  obtain ⟨p0, r0, n, f, fs, rfl, rfl, hw0, hw1, hin, rfl⟩ := ex_wq_some hx
  obtain ⟨v, r, hv, rfl, h4a⟩ := ex_sr_r h4
  obtain ⟨r, rfl, h4b⟩ := ex_sr_i h4a
  obtain ⟨a, r, ha, rfl, h4c⟩ := ex_sr_r h4b
  obtain ⟨a', e', g1, g2, g, rfl, g4⟩ := h5.2.2 p0 _ hw0
  obtain rfl : a = a' := Option.some.inj (ha.symm.trans g1)
  obtain ⟨v', e'', i1, i2, vs, rfl, i4⟩ := h5.2.2 r0 _ hw1
  obtain rfl : v = v' := Option.some.inj (hv.symm.trans i1)
  obtain ⟨T, N, hc⟩ := ex_bl_ok
  have hset : ex_wr b ad kc (w.set p0 (.inr (.inl (n, ex_upq f i.toNatClampNeg (r0 + 2))))) (ws.set p0 (a, .inl (kc 2, n, .inr (.inr (.inr (.inr (va_up g i.toNatClampNeg (some v)))))))) := ex_wr_set h5 g1 ⟨_, rfl, fun j => by
    by_cases hj : j = i.toNatClampNeg
    · subst hj
      simp only [ex_upq, va_up, if_true]
      exact ⟨v, hv, rfl⟩
    · simp only [ex_upq, va_up, if_neg hj]
      exact g4 j⟩
  exact va_astq (r := (ex_BL, T, N)) C.1 C.2.1 C.2.2.2.2.2.2.1 h6 h7 h8 p0 2 r0 ex_bl g2 rfl i2 hc hin hd (fun H1 locs1 j1 j2 j3 => k ad ls' lv r _ H1 locs1 h1 h2 h3 h4c hset j1 j2 j3)
theorem ex_k_len (C : ex_Cx S b p R s m args meth c A H0 D kc y) {q : Nat} {x : Int32} (hd : decode (ex_cod y) pc = .ok (.arraylength, 1)) (hx : ex_len S w q = some x) (k : ex_Ok S b p l e R s m args below meth c Q A H0 D kc y ad0 (pc + 1) ls (.inl x :: st) w cN sN) : ex_Ok S b p l e R s m args below meth c Q A H0 D kc y ad0 pc ls (.inr q :: st) w cN sN := by
  intro ad ls' lv st' ws H locs h1 h2 h3 h4 h5 h6 h7 h8
  rcases q with _ | _ | p0
  · simp [ex_len] at hx
  · obtain ⟨r, rfl, h4a⟩ := ex_sr_b h4
    obtain ⟨x1, x2, x3⟩ := C.2.2.2.2.2.2.2.2.1
    have hx : Int32.ofNat S.1 = x := Option.some.inj hx
    subst hx
    exact va_slen C.1 C.2.1 x1 x2 x3 h8 hd (k ad ls' lv (.int _ :: r) ws H locs h1 h2 h3 ⟨rfl, h4a⟩ h5 h6 h7 h8)
  · obtain ⟨a, r, ha, rfl, h4b⟩ := ex_sr_r h4
    simp only [ex_len] at hx
    split at hx
    · rename_i z hw0
      obtain ⟨a', e', g1, g2, g3⟩ := h5.2.2 p0 _ hw0
      obtain rfl : a = a' := Option.some.inj (ha.symm.trans g1)
      have g3 : e' = .inl (kc (if z.1 then 1 else 0), z.2.1, .inl z.2.2) := g3
      subst g3
      have hx : Int32.ofNat z.2.1 = x := Option.some.inj hx
      subst hx
      obtain ⟨zb, zn, zf⟩ := z
      cases zb
      · exact va_alen C.1 C.2.1 C.2.2.2.2.2.2.1 h6 p0 0 g2 (ty := .int) rfl rfl hd (k ad ls' lv (.int _ :: r) ws H locs h1 h2 h3 ⟨rfl, h4b⟩ h5 h6 h7 h8)
      · exact va_alen C.1 C.2.1 C.2.2.2.2.2.2.1 h6 p0 1 g2 (ty := .boolean) rfl rfl hd (k ad ls' lv (.int _ :: r) ws H locs h1 h2 h3 ⟨rfl, h4b⟩ h5 h6 h7 h8)
    · rename_i z hw0
      obtain ⟨a', e', g1, g2, g, rfl, g4⟩ := h5.2.2 p0 _ hw0
      obtain rfl : a = a' := Option.some.inj (ha.symm.trans g1)
      have hx : Int32.ofNat z.1 = x := Option.some.inj hx
      subst hx
      exact va_alen C.1 C.2.1 C.2.2.2.2.2.2.1 h6 p0 2 g2 (ty := .object ex_BL) rfl rfl hd (k ad ls' lv (.int _ :: r) ws H locs h1 h2 h3 ⟨rfl, h4b⟩ h5 h6 h7 h8)
    · cases hx
theorem ex_kc_p {U : State} {t : FieldType} {c1 c2 : ClassId} (h1 : va_RA U c1 t) (h2 : va_RA U c2 t) : c1 = c2 := by
  cases t with
  | object C =>
    obtain ⟨_, _, -, -, -, h1⟩ := h1
    obtain ⟨_, _, -, -, -, h2⟩ := h2
    exact Option.some.inj (h1.symm.trans h2)
  | _ => exact Option.some.inj (Eq.trans (Eq.symm h1) h2)
theorem ex_k_newI (C : ex_Cx S b p R s m args meth c A H0 D kc y) {n : Int32} (hd : decode (ex_cod y) pc = .ok (.newarray .int, 2)) (hn : ¬ n < 0) (hm : n.toNatClampNeg ≤ 1000) (hc : cN + 1 ≤ ex_mc y) (hs : sN + n.toNatClampNeg ≤ ex_ms y) (k : ex_Ok S b p l e R s m args below meth c Q A H0 D kc y ad0 (pc + 2) ls (.inr (w.length + 2) :: st) (w ++ [.inl (false, n.toNatClampNeg, fun _ => 0)]) (cN + 1) (sN + n.toNatClampNeg)) : ex_Ok S b p l e R s m args below meth c Q A H0 D kc y ad0 pc ls (.inl n :: st) w cN sN := by
  intro ad ls' lv st' ws H locs h1 h2 h3 h4 h5 h6 h7 h8
  obtain ⟨r, rfl, h4a⟩ := ex_sr_i h4
  obtain ⟨r1, r2, r3, r4, r5⟩ := C.2.2.2.2.2.2.2.2.2
  refine va_newa C.1 C.2.1 (C.2.2.2.2.1 _ ex_aI_ok) rfl C.2.2.2.2.2.2.1 h6 h7 h8 C.2.2.2.2.2.2.2.1 (N' := n.toNatClampNeg) (a0 := (n.toNatClampNeg, .inl (fun _ => 0))) (fun cA => rfl) hn rfl (by show n.toNatClampNeg * 4 ≤ _; omega) (by omega) (by omega) hd (fun q cA H1 i1 i2 i3 i4 => ?_)
  have hk : cA = kc 0 := ex_kc_p (i1.2 3 (cA, .int) rfl).2 (i1.2 0 (kc 0, .int) rfl).2
  subst hk
  exact k (ad ++ [q]) ls' lv (.ref q :: r) _ H1 locs (ex_le_tr h1 (ex_le_push ad q)) h2 (ex_lr_mono (ex_le_push ad q) h3) ⟨⟨q, ex_wr_new h5 q, rfl⟩, ex_sr_mono (ex_le_push ad q) h4a⟩ (ex_wr_push h5 rfl) i2 i3 i4
theorem ex_k_newZ (C : ex_Cx S b p R s m args meth c A H0 D kc y) {n : Int32} (hd : decode (ex_cod y) pc = .ok (.newarray .boolean, 2)) (hn : ¬ n < 0) (hm : n.toNatClampNeg ≤ 1000) (hc : cN + 1 ≤ ex_mc y) (hs : sN + n.toNatClampNeg ≤ ex_ms y) (k : ex_Ok S b p l e R s m args below meth c Q A H0 D kc y ad0 (pc + 2) ls (.inr (w.length + 2) :: st) (w ++ [.inl (true, n.toNatClampNeg, fun _ => 0)]) (cN + 1) (sN + n.toNatClampNeg)) : ex_Ok S b p l e R s m args below meth c Q A H0 D kc y ad0 pc ls (.inl n :: st) w cN sN := by
  intro ad ls' lv st' ws H locs h1 h2 h3 h4 h5 h6 h7 h8
  obtain ⟨r, rfl, h4a⟩ := ex_sr_i h4
  obtain ⟨r1, r2, r3, r4, r5⟩ := C.2.2.2.2.2.2.2.2.2
  refine va_newa C.1 C.2.1 (C.2.2.2.2.1 _ ex_aZ_ok) rfl C.2.2.2.2.2.2.1 h6 h7 h8 C.2.2.2.2.2.2.2.1 (N' := n.toNatClampNeg) (a0 := (n.toNatClampNeg, .inl (fun _ => 0))) (fun cA => rfl) hn rfl (by show n.toNatClampNeg * 1 ≤ _; omega) (by omega) (by omega) hd (fun q cA H1 i1 i2 i3 i4 => ?_)
  have hk : cA = kc 1 := ex_kc_p (i1.2 3 (cA, .boolean) rfl).2 (i1.2 1 (kc 1, .boolean) rfl).2
  subst hk
  exact k (ad ++ [q]) ls' lv (.ref q :: r) _ H1 locs (ex_le_tr h1 (ex_le_push ad q)) h2 (ex_lr_mono (ex_le_push ad q) h3) ⟨⟨q, ex_wr_new h5 q, rfl⟩, ex_sr_mono (ex_le_push ad q) h4a⟩ (ex_wr_push h5 rfl) i2 i3 i4
theorem ex_k_newQ (C : ex_Cx S b p R s m args meth c A H0 D kc y) {i : Nat} {n : Int32} (hd : decode (ex_cod y) pc = .ok (.anewarray i, 3)) (ha : ex_ar y i = true) (hn : ¬ n < 0) (hm : n.toNatClampNeg ≤ 1000) (hc : cN + 1 ≤ ex_mc y) (hs : sN + n.toNatClampNeg ≤ ex_ms y) (k : ex_Ok S b p l e R s m args below meth c Q A H0 D kc y ad0 (pc + 3) ls (.inr (w.length + 2) :: st) (w ++ [.inr (.inl (n.toNatClampNeg, fun _ => 0))]) (cN + 1) (sN + n.toNatClampNeg)) : ex_Ok S b p l e R s m args below meth c Q A H0 D kc y ad0 pc ls (.inl n :: st) w cN sN := by
  intro ad ls' lv st' ws H locs h1 h2 h3 h4 h5 h6 h7 h8
  obtain ⟨r, rfl, h4a⟩ := ex_sr_i h4
  obtain ⟨r1, r2, r3, r4, r5⟩ := C.2.2.2.2.2.2.2.2.2
  have q1 := ex_ar_ok ha
  refine va_newq C.1 C.2.1 C.2.2.2.1 (C.2.2.2.2.1 _ q1) r5 C.2.2.2.2.2.2.1 h6 h7 h8 C.2.2.2.2.2.2.2.1 (N' := n.toNatClampNeg) hn rfl (by omega) (by omega) (by omega) hd (fun q cA H1 i1 i2 i3 i4 => ?_)
  have hk : cA = kc 2 := ex_kc_p (i1.2 3 (cA, .object ex_BL) rfl).2 (i1.2 2 (kc 2, .object ex_BL) rfl).2
  subst hk
  exact k (ad ++ [q]) ls' lv (.ref q :: r) _ H1 locs (ex_le_tr h1 (ex_le_push ad q)) h2 (ex_lr_mono (ex_le_push ad q) h3) ⟨⟨q, ex_wr_new h5 q, rfl⟩, ex_sr_mono (ex_le_push ad q) h4a⟩ (ex_wr_push h5 ⟨_, rfl, fun _ => rfl⟩) i2 i3 i4
theorem ex_da_ok (ci : Nat) {b : Nat} {ad : List Nat} : ex_sr b ad (ex_da ci) (ex_dv ci) := by
  rcases ci with _ | _ | _ | ci <;> simp [ex_da, ex_dv, ex_sr, ex_cv]
theorem ex_k_new (C : ex_Cx S b p R s m args meth c A H0 D kc y) {i ci : Nat} (hd : decode (ex_cod y) pc = .ok (.new i, 3)) (ha : ex_nr y i = some ci) (hc : cN + 1 ≤ ex_mc y) (hs : sN + (ex_da ci).length ≤ ex_ms y) (k : ex_Ok S b p l e R s m args below meth c Q A H0 D kc y ad0 (pc + 3) ls (.inr (w.length + 2) :: st) (w ++ [.inr (.inr (ci, ex_da ci))]) (cN + 1) (sN + (ex_da ci).length)) : ex_Ok S b p l e R s m args below meth c Q A H0 D kc y ad0 pc ls st w cN sN := by
  intro ad ls' lv st' ws H locs h1 h2 h3 h4 h5 h6 h7 h8
  obtain ⟨r1, r2, r3, r4, r5⟩ := C.2.2.2.2.2.2.2.2.2
  obtain ⟨Cn, T, N, f1, f2, f3, f4, f5⟩ := ex_nr_ok ha
  obtain ⟨u1, ⟨ty0, u2, u4⟩, u3⟩ := ex_cl_ok f1
  refine va_new C.1 C.2.1 C.2.2.2.2.1 u1 ty0 u2 C.2.2.2.1 (C.2.2.2.2.1 _ f2) (C.2.2.2.2.1 _ f3) (C.2.2.2.2.1 _ f4) C.2.2.2.2.2.2.1 h6 h7 h8 C.2.2.2.2.2.2.2.1 f1 (fs := ex_dv ci) u4 (by omega) (by omega) hd (fun q H1 i2 i3 i4 => ?_)
  rw [← f5]
  exact k (ad ++ [q]) ls' lv (.ref q :: st') _ H1 locs (ex_le_tr h1 (ex_le_push ad q)) h2 (ex_lr_mono (ex_le_push ad q) h3) ⟨⟨q, ex_wr_new h5 q, rfl⟩, ex_sr_mono (ex_le_push ad q) h4⟩ (ex_wr_push h5 ⟨_, rfl, ex_da_ok ci⟩) i2 i3 i4
theorem ex_k_max (C : ex_Cx S b p R s m args meth c A H0 D kc y) {i y2 : Nat} {x z : Int32} (hd : decode (ex_cod y) pc = .ok (.invokestatic i, 3)) (hm : ex_mr y i = some (y2, 3)) (hl : 1 ≤ ex_lev y) (hn : st.length ≤ 8) (hr : ex_rok y cN sN = true) (k : ex_Ok S b p l e R s m args below meth c Q A H0 D kc y ad0 (pc + 3) ls (.inl (if x < z then z else x) :: st) w cN sN) : ex_Ok S b p l e R s m args below meth c Q A H0 D kc y ad0 pc ls (.inl z :: .inl x :: st) w cN sN := by
  intro ad ls' lv st' ws H locs h1 h2 h3 h4 h5 h6 h7 h8
  obtain ⟨r, rfl, h4a⟩ := ex_sr_i h4
  obtain ⟨r, rfl, h4b⟩ := ex_sr_i h4a
  obtain ⟨r1, r2, r3, r4, r5⟩ := C.2.2.2.2.2.2.2.2.2
  obtain ⟨q1, q2, q3, q4⟩ := ex_mr_max hm
  simp only [ex_rok, Bool.and_eq_true, decide_eq_true_eq] at hr
  have hcat := ex_sr_cat h4b
  exact va_mmax C.1 C.2.1 (by rw [C.2.2.1, h2.1]) C.2.2.2.1 (C.2.2.2.2.1 _ q1) (C.2.2.2.2.1 _ q2) (C.2.2.2.2.1 _ q3) (C.2.2.2.2.1 _ q4) (by omega) (by omega) (by omega) (by omega) hd (k ad ls' lv (.int _ :: r) ws H locs h1 h2 h3 ⟨rfl, h4b⟩ h5 h6 h7 h8)
theorem ex_k_min (C : ex_Cx S b p R s m args meth c A H0 D kc y) {i y2 : Nat} {x z : Int32} (hd : decode (ex_cod y) pc = .ok (.invokestatic i, 3)) (hm : ex_mr y i = some (y2, 4)) (hl : 1 ≤ ex_lev y) (hn : st.length ≤ 8) (hr : ex_rok y cN sN = true) (k : ex_Ok S b p l e R s m args below meth c Q A H0 D kc y ad0 (pc + 3) ls (.inl (if z < x then z else x) :: st) w cN sN) : ex_Ok S b p l e R s m args below meth c Q A H0 D kc y ad0 pc ls (.inl z :: .inl x :: st) w cN sN := by
  intro ad ls' lv st' ws H locs h1 h2 h3 h4 h5 h6 h7 h8
  obtain ⟨r, rfl, h4a⟩ := ex_sr_i h4
  obtain ⟨r, rfl, h4b⟩ := ex_sr_i h4a
  obtain ⟨r1, r2, r3, r4, r5⟩ := C.2.2.2.2.2.2.2.2.2
  obtain ⟨q1, q2, q3, q4⟩ := ex_mr_min hm
  simp only [ex_rok, Bool.and_eq_true, decide_eq_true_eq] at hr
  have hcat := ex_sr_cat h4b
  exact va_mmin C.1 C.2.1 (by rw [C.2.2.1, h2.1]) C.2.2.2.1 (C.2.2.2.2.1 _ q1) (C.2.2.2.2.1 _ q2) (C.2.2.2.2.1 _ q3) (C.2.2.2.2.1 _ q4) (by omega) (by omega) (by omega) (by omega) hd (k ad ls' lv (.int _ :: r) ws H locs h1 h2 h3 ⟨rfl, h4b⟩ h5 h6 h7 h8)
theorem ex_k_obj (C : ex_Cx S b p R s m args meth c A H0 D kc y) {i y2 q : Nat} (hd : decode (ex_cod y) pc = .ok (.invokespecial i, 3)) (hm : ex_mr y i = some (y2, 5)) (hl : 1 ≤ ex_lev y) (hn : st.length ≤ 8) (k : ex_Ok S b p l e R s m args below meth c Q A H0 D kc y ad0 (pc + 3) ls st w cN sN) : ex_Ok S b p l e R s m args below meth c Q A H0 D kc y ad0 pc ls (.inr (q + 2) :: st) w cN sN := by
  intro ad ls' lv st' ws H locs h1 h2 h3 h4 h5 h6 h7 h8
  obtain ⟨a, r, ha, rfl, h4a⟩ := ex_sr_r h4
  obtain ⟨r1, r2, r3, r4, r5⟩ := C.2.2.2.2.2.2.2.2.2
  obtain ⟨q1, q2, q3⟩ := ex_mr_obj hm
  have hcat := ex_sr_cat h4a
  exact W.objInit C.1 C.2.1 C.2.2.2.1 (C.2.2.2.2.1 _ q1) (C.2.2.2.2.1 _ q2) (C.2.2.2.2.1 _ q3) rfl (by rw [C.2.2.1, ← h2.1]) rfl hd (by omega) (by show 2 * 0 + _ + 12 ≤ _; omega) (k ad ls' lv r ws H locs h1 h2 h3 h4a h5 h6 h7 h8)
/-! calls -/
theorem ex_callgo {H : Heap} {locs : List Loc} {cells slots mc ms : Nat} {lsr : Array Slot} {rest st0 : List Value} {A1 : Nat → Prop} {free : Addr → Prop} {v0 : Option Value} {Bq : State → Prop}
    (hr : va_Run p l e R s m args below meth c H locs cells slots mc ms (F0 m pc lsr st0) rest (fun st oc t => (oc = .returned v0 ∧ Bq t) ∧ va_F A1 st t) free) (hS : va_S A H0 H locs) (hA : ∀ q, q < H.size → A1 q → A q) (hf : ∀ q, free q → A q)
    (kk : ∀ (t : State) (H1 : Heap) (locs1 : List Loc), t.heap = H1 → Bq t → va_S A H0 H1 locs1 → W p l e R s m args below meth c H1 locs1 (cells + mc) (slots + ms) Q (F0 m (pc + 3) lsr (v0.toList ++ rest))) : W p l e R s m args below meth c H locs cells slots Q (F0 m pc lsr st0) := by
  intro T hT X
  obtain ⟨v, st₀, t, T', L, h0, X', hL, e1, e2, ⟨⟨hv, hb⟩, hz, hk⟩, st⟩ := hr T hT X
  cases hv
  rw [h0] at hz hk
  obtain ⟨t2, a1, b1⟩ := kk t T'.heap (locs ++ L) e1.symm hb
    ⟨Nat.le_trans hS.1 (by rw [e1]; exact hz), fun q h1 h2 => by rw [e1, hk q (Nat.lt_of_lt_of_le h1 hS.1) (fun z => h2 (hA q (Nat.lt_of_lt_of_le h1 hS.1) z))]; exact hS.2.1 q h1 h2, fun q hq => by
      rcases List.mem_append.mp hq with h | h
      · exact hS.2.2 q h
      · exact hf _ (hL q h)⟩ T' rfl X'
  exact ⟨t2, st t2 a1, b1⟩
/-- what holds at the start of a call of y with these arguments, and behind it -/
def ex_pre (S : ex_S) (b : Nat) (D : va_G) (kc : Nat → ClassId) (ws : va_W) (sz : Nat) (as' : List Value) : Array Value → State → Prop := va_Pc as' (fun U => U.heap.size = sz ∧ va_P D ex_cl ws U.heap ∧ va_K D ex_cl (ex_tys kc) U ∧ va_X b S.1 S.2 U U.heap ∧ va_AO ex_BL U)
def ex_post (b : Nat) (D : va_G) (kc : Nat → ClassId) (ad : List Nat) (ws : va_W) (sz : Nat) (r : Option Int32) (w2 : ex_W) : Array Value → State → Outcome → State → Prop := fun _ st oc t => (oc = .returned (r.map Value.int) ∧ ∃ (ad2 : List Nat) (ws2 : va_W), ex_le ad ad2 ∧ ex_wr b ad2 kc w2 ws2 ∧ va_P D ex_cl ws2 t.heap ∧ va_D (va_A ws sz) ws2) ∧ va_F (va_A ws sz) st t
def ex_rm (y : Nat) : Room := { frames := ex_lev y, cells := ex_mc y, slots := ex_ms y, locals := ex_lev y * 40 }
def ex_wsy (y : Nat) : List Cond := .code (ex_nam y) (ex_cod y) (ex_mxl y) (ex_rty y) :: ex_ws
def ex_Met (S : ex_S) (b : Nat) (l : Launch) (D : va_G) (kc : Nat → ClassId) (y : Nat) (as : List ex_V) (w : ex_W) (r : Option Int32) (w2 : ex_W) : Prop := ∀ (ad : List Nat) (as' : List Value) (ws : va_W) (sz : Nat), ex_sr b ad as as' → ex_wr b ad kc w ws → va_D (fun _ => True) ws → b < sz → (∀ (k : Nat) (x : va_E), ws[k]? ≠ some (b, x)) →
  Met l (ex_nam y) (ex_wsy y) (ex_rm y) (ex_pre S b D kc ws sz as') (ex_post b D kc ad ws sz r w2) (ex_mc y) (ex_ms y) (va_A ws sz)
theorem ex_good (y : Nat) (h : y < ex_ny) : GoodIn ex_ws (ex_wsy y) := by
  intro w hw
  rcases List.mem_cons.mp hw with rfl | hw
  · exact ⟨(ex_y_ok h).1, Or.inl rfl⟩
  · exact ⟨hw, ex_ws_good w hw⟩
theorem ex_blind {ws : va_W} {sz : Nat} {as' : List Value} : FrameBlind (ex_pre S b D kc ws sz as') := fun a U g mk q => by
  obtain ⟨q0, q1, qP, qK, qX, qA⟩ := q
  exact ⟨q0, q1, qP, va_K.moved (u := U) (U := U.calling g mk a) (Vm.Alike.refl U.vm) qK, va_X.moved (u := U) (U := U.calling g mk a) (Vm.Alike.refl U.vm) qX, va_AO.moved (u := U) (U := U.calling g mk a) (Vm.Alike.refl U.vm) qA⟩
theorem ex_pre_at {ws : va_W} {H : Heap} {locs : List Loc} {as' : List Value} (C : ex_Cx S b p R s m args meth c A H0 D kc y) (h6 : va_P D ex_cl ws H) (h8 : va_S A H0 H locs) : ∀ U : State, U.heap = H → s.WarmedH U.vm → ex_pre S b D kc ws H.size as' as'.toArray U := fun U hU hW => by
  obtain ⟨x1, x2, x3⟩ := C.2.2.2.2.2.2.2.2.1
  obtain ⟨r1, r2, r3, r4, r5⟩ := C.2.2.2.2.2.2.2.2.2
  refine ⟨rfl, by rw [hU], by rw [hU]; exact h6, va_K.moved hW.alike C.2.2.2.2.2.2.1, ?_, va_AO.moved hW.alike r5⟩
  rw [hU]
  exact (x1.kept (h8.2.1 b x2 x3)).moved hW.alike
theorem ex_k_static (C : ex_Cx S b p R s m args meth c A H0 D kc y) {i y2 : Nat} {r : Option Int32} {w2 : ex_W} (hd : decode (ex_cod y) pc = .ok (.invokestatic i, 3)) (hm : ex_mr y i = some (y2, 0)) (hn : ex_np y2 ≤ st.length) (hok : ex_cok y y2 cN sN (st.drop (ex_np y2)).length = true) (hM : ex_Met S b l D kc y2 (st.take (ex_np y2)).reverse w r w2) (k : ex_Ok S b p l e R s m args below meth c Q A H0 D kc y ad0 (pc + 3) ls (ex_rl r ++ st.drop (ex_np y2)) w2 (cN + ex_mc y2) (sN + ex_ms y2)) : ex_Ok S b p l e R s m args below meth c Q A H0 D kc y ad0 pc ls st w cN sN := by
  intro ad ls' lv st' ws H locs h1 h2 h3 h4 h5 h6 h7 h8
  obtain ⟨r1, r2, r3, r4, r5⟩ := C.2.2.2.2.2.2.2.2.2
  obtain ⟨x1, x2, x3⟩ := C.2.2.2.2.2.2.2.2.1
  simp only [ex_cok, Bool.and_eq_true, decide_eq_true_eq] at hok
  obtain ⟨⟨⟨⟨c1, c2⟩, c3⟩, c4⟩, c5⟩ := hok
  obtain ⟨y1, y3, y4, y5, y6, y7, y8⟩ := ex_y_ok c5
  obtain ⟨q1, q2, q3⟩ := ex_mr_S hm
  have hrest := ex_sr_drop (ex_np y2) h4
  have hargs := ex_sr_rev (ex_sr_take (ex_np y2) h4)
  have hcat := ex_sr_cat hrest
  have hfree : ∀ q, va_A ws H.size q → A q := fun q hq => by
    rcases hq with ⟨k0, x0, hq⟩ | hq
    · exact h7.2 k0 _ hq
    · exact C.2.2.2.2.2.2.2.1 q (Nat.le_trans h8.1 hq)
  have hbs : b < H.size := Nat.lt_of_lt_of_le x2 h8.1
  have hbw : ∀ (k0 : Nat) (x0 : va_E), ws[k0]? ≠ some (b, x0) := fun k0 x0 hq => x3 (h7.2 k0 _ hq)
  have hMM := hM ad _ ws H.size hargs h5 (h7.weaken (fun _ _ _ _ => trivial)) hbs hbw
  have hlen : (st'.take (ex_np y2)).reverse.length = ex_np y2 := by
    rw [← ex_sr_len hargs, List.length_reverse, List.length_take]; omega
  refine ex_callgo (va_runS (As := (st'.take (ex_np y2)).reverse) (rest := st'.drop (ex_np y2)) ⟨C.1, C.2.1, C.2.2.1, C.2.2.2.1, C.2.2.2.2.1⟩ hMM ⟨callB_of (ex_np y2) C.2.2.2.2.1 (ex_good y2 c5) rfl rfl rfl (C.2.2.2.2.1 _ q3) (C.2.2.2.2.1 _ q1) ⟨y4, y5, y6⟩ ⟨by show ex_lev y2 + 1 ≤ _; omega, by show 8 + (ex_mxl y2 + 11) + ex_lev y2 * 40 ≤ _; omega⟩, C.2.2.2.2.1 _ q2⟩ ⟨ex_blind, ex_pre_at C h6 h8⟩ rfl hlen h2.1 (by show st' = _; rw [List.reverse_reverse, List.take_append_drop]) (by show 2 * 0 + _ ≤ 8; omega) hd ⟨by omega, by omega⟩) h8 (fun q _ h => hfree q h) hfree (fun t H1 locs1 ht hB hS => ?_)
  obtain ⟨ad2, ws2, b1, b2, b3, b4⟩ := hB
  rw [ht] at b3
  have hst : ex_sr b ad2 (ex_rl r ++ st.drop (ex_np y2)) ((r.map Value.int).toList ++ st'.drop (ex_np y2)) := ex_sr_app (by cases r <;> first | exact trivial | exact ⟨rfl, trivial⟩) (ex_sr_mono b1 hrest)
  exact k ad2 ls' lv _ ws2 H1 locs1 (ex_le_tr h1 b1) h2 (ex_lr_mono b1 h3) hst b2 b3 (b4.weaken (fun k0 q0 _ h => hfree q0.1 h)) hS
theorem ex_k_virtual (C : ex_Cx S b p R s m args meth c A H0 D kc y) {i y2 q : Nat} {r : Option Int32} {w2 : ex_W} {rest : List ex_V} (hd : decode (ex_cod y) pc = .ok (.invokevirtual i, 3)) (hm : ex_mr y i = some (y2, 1)) (hst0 : st.drop (ex_np y2) = .inr q :: rest) (hob : ex_obj w q (ex_cix y2) = true) (hok : ex_cok y y2 cN sN rest.length = true) (hM : ex_Met S b l D kc y2 (.inr q :: (st.take (ex_np y2)).reverse) w r w2) (k : ex_Ok S b p l e R s m args below meth c Q A H0 D kc y ad0 (pc + 3) ls (ex_rl r ++ rest) w2 (cN + ex_mc y2) (sN + ex_ms y2)) : ex_Ok S b p l e R s m args below meth c Q A H0 D kc y ad0 pc ls st w cN sN := by
  intro ad ls' lv st' ws H locs h1 h2 h3 h4 h5 h6 h7 h8
  obtain ⟨r1, r2, r3, r4, r5⟩ := C.2.2.2.2.2.2.2.2.2
  obtain ⟨x1, x2, x3⟩ := C.2.2.2.2.2.2.2.2.1
  simp only [ex_cok, Bool.and_eq_true, decide_eq_true_eq] at hok
  obtain ⟨⟨⟨⟨c1, c2⟩, c3⟩, c4⟩, c5⟩ := hok
  obtain ⟨y1, y3, y4, y5, y6, y7, y8⟩ := ex_y_ok c5
  obtain ⟨q1, q2, q3, q4, T, N, q5⟩ := ex_mr_V hm
  obtain ⟨p0, fs, rfl, hw0⟩ := ex_obj_some hob
  have hdr := ex_sr_drop (ex_np y2) h4
  rw [hst0] at hdr
  obtain ⟨a, rest', ha, hdr', hrest⟩ := ex_sr_r hdr
  obtain ⟨a', e', g1, g2, vs, rfl, g4⟩ := h5.2.2 p0 _ hw0
  obtain rfl : a = a' := Option.some.inj (ha.symm.trans g1)
  have hargs := ex_sr_rev (ex_sr_take (ex_np y2) h4)
  have hcat := ex_sr_cat hrest
  have hfree : ∀ q, va_A ws H.size q → A q := fun q hq => by
    rcases hq with ⟨k0, x0, hq⟩ | hq
    · exact h7.2 k0 _ hq
    · exact C.2.2.2.2.2.2.2.1 q (Nat.le_trans h8.1 hq)
  have hbs : b < H.size := Nat.lt_of_lt_of_le x2 h8.1
  have hbw : ∀ (k0 : Nat) (x0 : va_E), ws[k0]? ≠ some (b, x0) := fun k0 x0 hq => x3 (h7.2 k0 _ hq)
  have hMM := hM ad (.ref a :: (st'.take (ex_np y2)).reverse) ws H.size ⟨⟨a, ha, rfl⟩, hargs⟩ h5 (h7.weaken (fun _ _ _ _ => trivial)) hbs hbw
  have hnp : ex_np y2 ≤ st'.length := by
    have e1 := congrArg List.length hdr'
    rw [List.length_drop, List.length_cons] at e1
    omega
  have hlen : (st'.take (ex_np y2)).reverse.length = ex_np y2 := by
    rw [List.length_reverse, List.length_take]; omega
  refine ex_callgo (va_runV (C := ex_own y2) (b := a) (As := (st'.take (ex_np y2)).reverse) (rest := rest') ⟨C.1, C.2.1, C.2.2.1, C.2.2.2.1, C.2.2.2.2.1⟩ hMM ⟨callB_of (ex_np y2) C.2.2.2.2.1 (ex_good y2 c5) rfl rfl rfl (C.2.2.2.2.1 _ q4) (C.2.2.2.2.1 _ q1) ⟨y4, y5, y6⟩ ⟨by show ex_lev y2 + 1 ≤ _; omega, by show 8 + (ex_mxl y2 + 11) + ex_lev y2 * 40 ≤ _; omega⟩, C.2.2.2.2.1 _ q2, C.2.2.2.2.1 _ q3⟩ ⟨ex_blind, va_recv C.2.2.2.2.2.2.1 h6 q5 g2, ex_pre_at C h6 h8⟩ rfl hlen h2.1 (by show st' = _; rw [List.reverse_reverse, ← hdr', List.take_append_drop]) (by show 2 * 0 + _ ≤ 8; omega) hd ⟨by omega, by omega⟩) h8 (fun q _ h => hfree q h) hfree (fun t H1 locs1 ht hB hS => ?_)
  obtain ⟨ad2, ws2, b1, b2, b3, b4⟩ := hB
  rw [ht] at b3
  have hst : ex_sr b ad2 (ex_rl r ++ rest) ((r.map Value.int).toList ++ rest') := ex_sr_app (by cases r <;> first | exact trivial | exact ⟨rfl, trivial⟩) (ex_sr_mono b1 hrest)
  exact k ad2 ls' lv _ ws2 H1 locs1 (ex_le_tr h1 b1) h2 (ex_lr_mono b1 h3) hst b2 b3 (b4.weaken (fun k0 q0 _ h => hfree q0.1 h)) hS
theorem ex_k_special (C : ex_Cx S b p R s m args meth c A H0 D kc y) {i y2 q : Nat} {r : Option Int32} {w2 : ex_W} {rest : List ex_V} (hd : decode (ex_cod y) pc = .ok (.invokespecial i, 3)) (hm : ex_mr y i = some (y2, 2)) (hst0 : st.drop (ex_np y2) = .inr q :: rest) (hob : ex_obj w q (ex_cix y2) = true) (hok : ex_cok y y2 cN sN rest.length = true) (hM : ex_Met S b l D kc y2 (.inr q :: (st.take (ex_np y2)).reverse) w r w2) (k : ex_Ok S b p l e R s m args below meth c Q A H0 D kc y ad0 (pc + 3) ls (ex_rl r ++ rest) w2 (cN + ex_mc y2) (sN + ex_ms y2)) : ex_Ok S b p l e R s m args below meth c Q A H0 D kc y ad0 pc ls st w cN sN := by
  intro ad ls' lv st' ws H locs h1 h2 h3 h4 h5 h6 h7 h8
  obtain ⟨r1, r2, r3, r4, r5⟩ := C.2.2.2.2.2.2.2.2.2
  obtain ⟨x1, x2, x3⟩ := C.2.2.2.2.2.2.2.2.1
  simp only [ex_cok, Bool.and_eq_true, decide_eq_true_eq] at hok
  obtain ⟨⟨⟨⟨c1, c2⟩, c3⟩, c4⟩, c5⟩ := hok
  obtain ⟨y1, y3, y4, y5, y6, y7, y8⟩ := ex_y_ok c5
  obtain ⟨q1, q2, q3, q4, q5⟩ := ex_mr_I hm
  obtain ⟨p0, fs, rfl, hw0⟩ := ex_obj_some hob
  have hdr := ex_sr_drop (ex_np y2) h4
  rw [hst0] at hdr
  obtain ⟨a, rest', ha, hdr', hrest⟩ := ex_sr_r hdr
  have hargs := ex_sr_rev (ex_sr_take (ex_np y2) h4)
  have hcat := ex_sr_cat hrest
  have hfree : ∀ q, va_A ws H.size q → A q := fun q hq => by
    rcases hq with ⟨k0, x0, hq⟩ | hq
    · exact h7.2 k0 _ hq
    · exact C.2.2.2.2.2.2.2.1 q (Nat.le_trans h8.1 hq)
  have hbs : b < H.size := Nat.lt_of_lt_of_le x2 h8.1
  have hbw : ∀ (k0 : Nat) (x0 : va_E), ws[k0]? ≠ some (b, x0) := fun k0 x0 hq => x3 (h7.2 k0 _ hq)
  have hMM := hM ad (.ref a :: (st'.take (ex_np y2)).reverse) ws H.size ⟨⟨a, ha, rfl⟩, hargs⟩ h5 (h7.weaken (fun _ _ _ _ => trivial)) hbs hbw
  have hnp : ex_np y2 ≤ st'.length := by
    have e1 := congrArg List.length hdr'
    rw [List.length_drop, List.length_cons] at e1
    omega
  have hlen : (st'.take (ex_np y2)).reverse.length = ex_np y2 := by
    rw [List.length_reverse, List.length_take]; omega
  have hret : ex_wsy y2 = Cond.code (ex_nam y2) (ex_cod y2) (ex_mxl y2) none :: ex_ws := by rw [← q5]; rfl
  refine ex_callgo (va_runI (b := a) (As := (st'.take (ex_np y2)).reverse) (rest := rest') ⟨C.1, C.2.1, C.2.2.1, C.2.2.2.1, C.2.2.2.2.1⟩ hMM ⟨callB_of (ex_np y2) C.2.2.2.2.1 (ex_good y2 c5) hret rfl rfl (C.2.2.2.2.1 _ q3) (C.2.2.2.2.1 _ q1) ⟨y4, y5, y6⟩ ⟨by show ex_lev y2 + 1 ≤ _; omega, by show 8 + (ex_mxl y2 + 11) + ex_lev y2 * 40 ≤ _; omega⟩, q4, C.2.2.2.2.1 _ q2⟩ ⟨ex_blind, ex_pre_at C h6 h8⟩ rfl hlen h2.1 (by show st' = _; rw [List.reverse_reverse, ← hdr', List.take_append_drop]) (by show 2 * 0 + _ ≤ 8; omega) hd ⟨by omega, by omega⟩) h8 (fun q _ h => hfree q h) hfree (fun t H1 locs1 ht hB hS => ?_)
  obtain ⟨ad2, ws2, b1, b2, b3, b4⟩ := hB
  rw [ht] at b3
  have hst : ex_sr b ad2 (ex_rl r ++ rest) ((r.map Value.int).toList ++ rest') := ex_sr_app (by cases r <;> first | exact trivial | exact ⟨rfl, trivial⟩) (ex_sr_mono b1 hrest)
  exact k ad2 ls' lv _ ws2 H1 locs1 (ex_le_tr h1 b1) h2 (ex_lr_mono b1 h3) hst b2 b3 (b4.weaken (fun k0 q0 _ h => hfree q0.1 h)) hS
end EXK
/-! the small machine's step is the real one's -/
theorem ex_nx_inj {pc : Nat} {ls st : List ex_V} {w : ex_W} {c s : Nat} {F : ex_F} (h : ex_nx pc ls st w c s = some (.inr (.inl F))) : F = (pc, ls, st, w, c, s) := by
  unfold ex_nx at h
  cases h
  rfl
theorem ex_nx_ret {pc : Nat} {ls st : List ex_V} {w : ex_W} {c s : Nat} {r : ex_R} (h : ex_nx pc ls st w c s = some (.inl r)) : False := by
  unfold ex_nx at h
  cases h
theorem ex_nx_call {pc : Nat} {ls st : List ex_V} {w : ex_W} {c s : Nat} {q : (Nat × List ex_V) × List ex_V} (h : ex_nx pc ls st w c s = some (.inr (.inr q))) : False := by
  unfold ex_nx at h
  cases h
theorem ex_go_inj {pc : Nat} {off : Int} {ls st : List ex_V} {w : ex_W} {c s : Nat} {F : ex_F} (h : ex_go pc off ls st w c s = some (.inr (.inl F))) : ∃ t : Nat, (pc : Int) + off = (t : Int) ∧ F = (t, ls, st, w, c, s) := by
  unfold ex_go at h
  split at h
  · rename_i t ht
    exact ⟨t, ht, ex_nx_inj h⟩
  · cases h
theorem ex_br_inj {t0 : Bool} {pc : Nat} {off : Int} {ls st : List ex_V} {w : ex_W} {c s : Nat} {F : ex_F} (h : ex_br t0 pc off ls st w c s = some (.inr (.inl F))) : ∃ t : Nat, (pc : Int) + off = (t : Int) ∧ F = (if t0 = true then t else pc + 3, ls, st, w, c, s) := by
  unfold ex_br at h
  split at h
  · rename_i t ht
    exact ⟨t, ht, ex_nx_inj h⟩
  · cases h
def ex_rt (y pc : Nat) (r : Option Int32) : Prop := match r with
  | none => decode (ex_cod y) pc = .ok (.return_, 1) ∧ ex_rty y = none
  | some x => decode (ex_cod y) pc = .ok (.ireturn, 1) ∧ ∃ ty, ex_rty y = some ty ∧ narrow ty (.int x) = .int x
section EXS
variable {S : ex_S} {b : Nat} {p : Program} {l : Launch} {e : Env} {R : Room} {s : State} {m : MethodId} {args : Array Value} {below : List Frame} {meth : Method} {c : Code} {Q : State → Prop} {A : Nat → Prop} {H0 : Heap} {D : va_G} {kc : Nat → ClassId} {y : Nat} {ad0 : List Nat} {pc : Nat} {ls st : List ex_V} {w : ex_W} {cN sN : Nat}
set_option maxHeartbeats 4000000 in
set_option maxRecDepth 100000 in
theorem ex_next (C : ex_Cx S b p R s m args meth c A H0 D kc y) {F : ex_F} (h : ex_dec S y pc ls st w cN sN = some (.inr (.inl F))) (k : ex_Ok S b p l e R s m args below meth c Q A H0 D kc y ad0 F.1 F.2.1 F.2.2.1 F.2.2.2.1 F.2.2.2.2.1 F.2.2.2.2.2) : ex_Ok S b p l e R s m args below meth c Q A H0 D kc y ad0 pc ls st w cN sN := by
  unfold ex_dec at h
  split at h
  · rename_i n hd
    cases ex_nx_inj h
    exact ex_k_iconst C hd k
  · rename_i n hd
    cases ex_nx_inj h
    exact ex_k_bipush C hd k
  · rename_i n hd
    cases ex_nx_inj h
    exact ex_k_sipush C hd k
  · rename_i n hd
    split at h
    · rename_i v hv
      cases ex_nx_inj h
      exact ex_k_ldc C hd hv k
    · cases h
  · rename_i n hd
    split at h
    · rename_i v hv
      cases ex_nx_inj h
      exact ex_k_iload_n C hd hv k
    · cases h
  · rename_i n hd
    split at h
    · rename_i v hv
      cases ex_nx_inj h
      exact ex_k_iload C hd hv k
    · cases h
  · rename_i n hd
    split at h
    · rename_i v hv
      cases ex_nx_inj h
      exact ex_k_aload_n C hd hv k
    · cases h
  · rename_i n hd
    split at h
    · rename_i v hv
      cases ex_nx_inj h
      exact ex_k_aload C hd hv k
    · cases h
  · rename_i n hd
    split at h
    · split at h
      · rename_i hi
        cases ex_nx_inj h
        exact ex_k_istore_n C hd hi k
      · cases h
    · cases h
  · rename_i n hd
    split at h
    · split at h
      · rename_i hi
        cases ex_nx_inj h
        exact ex_k_istore C hd hi k
      · cases h
    · cases h
  · rename_i n hd
    split at h
    · split at h
      · rename_i hi
        cases ex_nx_inj h
        exact ex_k_astore_n C hd hi k
      · cases h
    · cases h
  · rename_i n hd
    split at h
    · split at h
      · rename_i hi
        cases ex_nx_inj h
        exact ex_k_astore C hd hi k
      · cases h
    · cases h
  · rename_i i n hd
    split at h
    · rename_i x hx
      split at h
      · rename_i hi
        cases ex_nx_inj h
        exact ex_k_iinc C hd hx hi k
      · cases h
    · cases h
  · rename_i hd
    split at h
    · cases ex_nx_inj h
      exact ex_k_iadd C hd k
    · cases h
  · rename_i hd
    split at h
    · cases ex_nx_inj h
      exact ex_k_isub C hd k
    · cases h
  · rename_i hd
    split at h
    · cases ex_nx_inj h
      exact ex_k_imul C hd k
    · cases h
  · rename_i hd
    split at h
    · cases ex_nx_inj h
      exact ex_k_iand C hd k
    · cases h
  · rename_i hd
    split at h
    · split at h
      · cases h
      · rename_i hz
        cases ex_nx_inj h
        exact ex_k_idiv C hd hz k
    · cases h
  · rename_i hd
    split at h
    · cases ex_nx_inj h
      exact ex_k_dup C hd k
    · cases h
  · rename_i hd
    split at h
    · cases ex_nx_inj h
      exact ex_k_pop C hd k
    · cases h
  · rename_i off hd
    obtain ⟨t, ht, rfl⟩ := ex_go_inj h
    exact ex_k_goto C hd ht k
  · rename_i k0 off hd
    split at h
    · obtain ⟨t, ht, rfl⟩ := ex_br_inj h
      exact ex_k_if C hd ht k
    · cases h
  · rename_i k0 off hd
    split at h
    · obtain ⟨t, ht, rfl⟩ := ex_br_inj h
      exact ex_k_icmp C hd ht k
    · cases h
  · rename_i dflt lo hi offs len hd
    split at h
    · split at h
      · rename_i off ho
        obtain ⟨t, ht, rfl⟩ := ex_go_inj h
        exact ex_k_switch C hd ho ht k
      · cases h
    · cases h
  · rename_i i hd
    split at h
    · rename_i hf
      split at h
      · rename_i v hv
        cases ex_nx_inj h
        exact ex_k_getfield C hd hf hv k
      · cases h
    · cases h
  · rename_i i hd
    split at h
    · rename_i hf
      split at h
      · rename_i hc
        split at h
        · rename_i w2 hw2
          cases ex_nx_inj h
          exact ex_k_putfield C hd hf hc.1 hc.2 hw2 k
        · cases h
      · cases h
    · cases h
  · rename_i hd
    split at h
    · split at h
      · rename_i x hx
        cases ex_nx_inj h
        exact ex_k_iaload C hd hx k
      · cases h
    · cases h
  · rename_i hd
    split at h
    · split at h
      · rename_i x hx
        cases ex_nx_inj h
        exact ex_k_baload C hd hx k
      · cases h
    · cases h
  · rename_i hd
    split at h
    · split at h
      · rename_i x hx
        cases ex_nx_inj h
        exact ex_k_iastore C hd hx k
      · cases h
    · cases h
  · rename_i hd
    split at h
    · split at h
      · rename_i x hx
        cases ex_nx_inj h
        exact ex_k_bastore C hd hx k
      · cases h
    · cases h
  · rename_i hd
    split at h
    · split at h
      · rename_i x hx
        cases ex_nx_inj h
        exact ex_k_aaload C hd hx k
      · cases h
    · cases h
  · rename_i hd
    split at h
    · split at h
      · rename_i x hx
        cases ex_nx_inj h
        exact ex_k_aastore C hd hx k
      · cases h
    · cases h
  · rename_i hd
    split at h
    · split at h
      · rename_i x hx
        cases ex_nx_inj h
        exact ex_k_len C hd hx k
      · cases h
    · cases h
  · rename_i hd
    split at h
    · split at h
      · rename_i hc
        cases ex_nx_inj h
        exact ex_k_newI C hd hc.1 hc.2.1 hc.2.2.1 hc.2.2.2 k
      · cases h
    · cases h
  · rename_i hd
    split at h
    · split at h
      · rename_i hc
        cases ex_nx_inj h
        exact ex_k_newZ C hd hc.1 hc.2.1 hc.2.2.1 hc.2.2.2 k
      · cases h
    · cases h
  · rename_i i hd
    split at h
    · split at h
      · rename_i hc
        cases ex_nx_inj h
        exact ex_k_newQ C hd hc.1 hc.2.1 hc.2.2.1 hc.2.2.2.1 hc.2.2.2.2 k
      · cases h
    · cases h
  · rename_i i hd
    split at h
    · rename_i ci hci
      split at h
      · rename_i hc
        cases ex_nx_inj h
        exact ex_k_new C hd hci hc.1 hc.2 k
      · cases h
    · cases h
  · rename_i i hd
    split at h
    · split at h <;> cases h
    · rename_i y2 hm
      split at h
      · split at h
        · rename_i hc
          cases ex_nx_inj h
          exact ex_k_max C hd hm hc.1 hc.2.1 hc.2.2 k
        · cases h
      · cases h
    · rename_i y2 hm
      split at h
      · split at h
        · rename_i hc
          cases ex_nx_inj h
          exact ex_k_min C hd hm hc.1 hc.2.1 hc.2.2 k
        · cases h
      · cases h
    · cases h
  · rename_i i hd
    split at h
    · split at h
      · split at h <;> cases h
      · cases h
    · cases h
  · rename_i i hd
    split at h
    · split at h
      · split at h <;> cases h
      · cases h
    · rename_i y2 hm
      split at h
      · split at h
        · rename_i hc
          cases ex_nx_inj h
          exact ex_k_obj C hd hm hc.1 hc.2 k
        · cases h
      · cases h
    · cases h
  · split at h
    · split at h <;> cases h
    · cases h
  · split at h
    · split at h <;> cases h
    · cases h
  · cases h
def ex_Fin (b : Nat) (p : Program) (l : Launch) (e : Env) (R : Room) (s : State) (m : MethodId) (args : Array Value) (below : List Frame) (meth : Method) (c : Code) (Q : State → Prop) (A : Nat → Prop) (H0 : Heap) (D : va_G) (kc : Nat → ClassId) (y : Nat) (ad0 : List Nat) (r : Option Int32) (w2 : ex_W) : Prop :=
  ∀ (pc' : Nat) (ls2 : Array Slot) (ad2 : List Nat) (ws2 : va_W) (H1 : Heap) (locs1 : List Loc), ex_rt y pc' r → ex_le ad0 ad2 → ex_wr b ad2 kc w2 ws2 → va_P D ex_cl ws2 H1 → va_D A ws2 → va_S A H0 H1 locs1 → W p l e R s m args below meth c H1 locs1 (ex_mc y) (ex_ms y) Q (F0 m pc' ls2 (r.map Value.int).toList)
set_option maxHeartbeats 4000000 in
set_option maxRecDepth 100000 in
/-- what the instruction is where the small machine returns -/
theorem ex_dec_ret {r : Option Int32} {w2 : ex_W} (h : ex_dec S y pc ls st w cN sN = some (.inl (r, w2))) : ex_rt y pc r ∧ w2 = w ∧ cN ≤ ex_mc y ∧ sN ≤ ex_ms y ∧ st = ex_rl r := by
  unfold ex_dec at h
  split at h
  all_goals first
    | exact (ex_nx_ret h).elim
    | (exfalso; cases h; done)
    | skip
  all_goals try (exfalso; revert h; (repeat' split) <;> first | exact fun h => ex_nx_ret h | (intro h; unfold ex_go at h; split at h <;> first | exact ex_nx_ret h | cases h) | (intro h; unfold ex_br at h; split at h <;> first | exact ex_nx_ret h | cases h) | (intro h; cases h; done))
  · rename_i hd
    split at h
    · split at h
      · rename_i x hc
        cases h
        obtain ⟨h1, h2⟩ := hc
        simp only [ex_rok, Bool.and_eq_true, decide_eq_true_eq] at h1
        refine ⟨⟨hd, ?_⟩, rfl, h1.1, h1.2, rfl⟩
        rcases h2 with h2 | ⟨h2, rfl | rfl⟩
        · exact ⟨_, h2, rfl⟩
        · exact ⟨_, h2, by decide⟩
        · exact ⟨_, h2, by decide⟩
      · cases h
    · cases h
  · rename_i hd
    split at h
    · split at h
      · rename_i hc
        cases h
        obtain ⟨h1, h2⟩ := hc
        simp only [ex_rok, Bool.and_eq_true, decide_eq_true_eq] at h1
        exact ⟨⟨hd, h2⟩, rfl, h1.1, h1.2, rfl⟩
      · cases h
    · cases h
set_option maxHeartbeats 4000000 in
set_option maxRecDepth 100000 in
/-- what the instruction is where the small machine calls -/
theorem ex_dec_call {y2 : Nat} {as rest : List ex_V} (h : ex_dec S y pc ls st w cN sN = some (.inr (.inr ((y2, as), rest)))) :
    (∃ i, decode (ex_cod y) pc = .ok (.invokestatic i, 3) ∧ ex_mr y i = some (y2, 0) ∧ ex_np y2 ≤ st.length ∧ ex_cok y y2 cN sN (st.drop (ex_np y2)).length = true ∧ as = (st.take (ex_np y2)).reverse ∧ rest = st.drop (ex_np y2))
    ∨ ∃ i q k0, st.drop (ex_np y2) = .inr q :: rest ∧ ex_obj w q (ex_cix y2) = true ∧ ex_cok y y2 cN sN rest.length = true ∧ as = .inr q :: (st.take (ex_np y2)).reverse ∧ ((k0 = 1 ∧ decode (ex_cod y) pc = .ok (.invokevirtual i, 3)) ∨ (k0 = 2 ∧ decode (ex_cod y) pc = .ok (.invokespecial i, 3))) ∧ ex_mr y i = some (y2, k0) := by
  unfold ex_dec at h
  split at h
  all_goals first
    | exact (ex_nx_call h).elim
    | (exfalso; cases h; done)
    | skip
  all_goals try (exfalso; revert h; (repeat' split) <;> first | exact fun h => ex_nx_call h | (intro h; unfold ex_go at h; split at h <;> first | exact ex_nx_call h | cases h) | (intro h; unfold ex_br at h; split at h <;> first | exact ex_nx_call h | cases h) | (intro h; cases h; done))
  · rename_i i hd
    left
    split at h
    · rename_i y3 hm
      split at h
      · rename_i hc
        cases h
        exact ⟨i, hd, hm, hc.1, hc.2, rfl, rfl⟩
      · cases h
    · exfalso; revert h; (repeat' split) <;> first | exact fun h => ex_nx_call h | (intro h; cases h; done)
    · exfalso; revert h; (repeat' split) <;> first | exact fun h => ex_nx_call h | (intro h; cases h; done)
    · cases h
  · rename_i i hd
    right
    split at h
    · rename_i y3 hm
      split at h
      · rename_i q rest3 hs
        split at h
        · rename_i hc
          cases h
          exact ⟨i, q, 1, hs, hc.1, hc.2, rfl, Or.inl ⟨rfl, hd⟩, hm⟩
        · cases h
      · cases h
    · cases h
  · rename_i i hd
    right
    split at h
    · rename_i y3 hm
      split at h
      · rename_i q rest3 hs
        split at h
        · rename_i hc
          cases h
          exact ⟨i, q, 2, hs, hc.1, hc.2, rfl, Or.inr ⟨rfl, hd⟩, hm⟩
        · cases h
      · cases h
    · exfalso; revert h; (repeat' split) <;> first | exact fun h => ex_nx_call h | (intro h; cases h; done)
    · cases h
end EXS
/-- a method's contract out of its body's walk -/
theorem ex_met_of {S : ex_S} {b : Nat} {l : Launch} {D : va_G} {kc : Nat → ClassId} {y : Nat} {as : List ex_V} {w : ex_W} {r : Option Int32} {w2 : ex_W} (hy : y < ex_ny) (has : as.length ≤ ex_mxl y)
    (sim : ∀ (p : Program) (e : Env) (R : Room) (s : State) (m : MethodId) (args : Array Value) (below : List Frame) (meth : Method) (c : Code) (Q : State → Prop) (A : Nat → Prop) (H0 : Heap) (ad0 : List Nat), ex_Cx S b p R s m args meth c A H0 D kc y → ex_Fin b p l e R s m args below meth c Q A H0 D kc y ad0 r w2 → ex_Ok S b p l e R s m args below meth c Q A H0 D kc y ad0 0 (ex_pad y as) [] w 0 0) : ex_Met S b l D kc y as w r w2 := by
  intro ad as' ws sz h1 h2 h3 h4 h5
  obtain ⟨y1, y3, y4, y5, y6, y7, y8⟩ := ex_y_ok hy
  refine Met.ofW (cc := ex_cod y) (maxL := ex_mxl y) (ret := ex_rty y) y7 rfl ?_
  intro p e s m args below meth c s₁ B hml hv
  obtain ⟨rfl, hsz, hP, hK, hX, hAO⟩ := hv
  have hx := B.exec
  have hb := B.bytes
  have hr := B.returns
  have hts := atoms_spec (ws := ex_wsy y) B.pre
  have hown0 : s.vm.findClass (ex_nam y).cls = some m.cls := findClass_of_methodNamed B.named
  have hlocks := B.notSynchronized
  have hin : meth.name = (ex_nam y).name := (name_of_methodNamed B.named B.method).1
  subst hsz
  have C : ex_Cx S b p (headSpec (ex_wsy y) (ex_rm y)).room s m as'.toArray meth c (va_A ws s.heap.size) s.heap D kc y := ⟨hx, hb, hml, by rw [← y3]; exact hown0, fun w hw => hts w (List.mem_cons_of_mem _ hw), hin, hK, fun q h => Or.inr h, ⟨hX, h4, fun h => by
    rcases h with ⟨k, x, h⟩ | h
    · exact h5 k x h
    · omega⟩, ⟨Nat.le_refl _, Nat.le_refl _, Nat.le_refl _, Nat.le_refl _, hAO⟩⟩
  have hF : ex_Fin b p l e (headSpec (ex_wsy y) (ex_rm y)).room s m as'.toArray below meth c (MQ below (ex_post b D kc ad ws s.heap.size r w2) as'.toArray s (ex_mc y) (ex_ms y) (va_A ws s.heap.size)) (va_A ws s.heap.size) s.heap D kc y ad r w2 := by
    intro pc' ls2 ad2 ws2 H1 locs1 g1 g2 g3 g4 g5 g6
    cases r with
    | none => exact W.vret hx hb (hr.trans g1.2) (fun t ht hW => ⟨⟨rfl, ad2, ws2, g2, g3, by rw [ht]; exact g4, g5⟩, g6.F ht⟩) g6.2.2 g1.1
    | some x =>
      obtain ⟨d1, ty, d2, d3⟩ := g1
      exact W.zret hx hb (hr.trans d2) d3 (fun t ht hW => ⟨⟨rfl, ad2, ws2, g2, g3, by rw [ht]; exact g4, g5⟩, g6.F ht⟩) g6.2.2 d1
  have hlen := ex_sr_len h1
  have hsl : ∀ vs : List Value, (∀ v ∈ vs, v.category = 1) → lg_sl vs = vs.map Slot.val := by
    intro vs
    induction vs with
    | nil => intro _; rfl
    | cons v t ih =>
      intro h
      have e1 : v.category = 1 := h v List.mem_cons_self
      have e2 := ih (fun u hu => h u (List.mem_cons_of_mem _ hu))
      simp only [lg_sl, List.flatMap_cons, e1] at e2 ⊢
      rw [e2]; rfl
  have hall : ∀ (vs : List ex_V) (xs : List Value), ex_sr b ad vs xs → ∀ v ∈ xs, v.category = 1 := by
    intro vs
    induction vs with
    | nil => intro xs h v hv; rw [ex_sr_nil h] at hv; cases hv
    | cons u t ih =>
      intro xs h v hv
      obtain ⟨x, r0, rfl, hx0, h0⟩ := ex_sr_c h
      rcases List.mem_cons.mp hv with rfl | hv
      · exact ex_cv_cat hx0
      · exact ih r0 h0 v hv
  have hargs : ∀ (vs : List Value) (i : Nat), (∀ v ∈ vs, v.category = 1) → ∀ (k : Nat) (v : Value), vs[k]? = some v → (i + k, v) ∈ lv_args i vs := by
    intro vs
    induction vs with
    | nil => intro i _ k v h; simp at h
    | cons u t ih =>
      intro i h k v hk
      have e1 : u.category = 1 := h u List.mem_cons_self
      unfold lv_args
      rw [if_neg (by omega)]
      cases k with
      | zero =>
        have : u = v := by simpa using hk
        subst this
        exact List.mem_cons_self
      | succ k =>
        have hk : t[k]? = some v := by simpa using hk
        have := ih (i + 1) (fun u hu => h u (List.mem_cons_of_mem _ hu)) k v hk
        rw [show i + (k + 1) = i + 1 + k by omega]
        exact List.mem_cons_of_mem _ this
  have hcat := hall as as' h1
  have hl := lv_entry as' (n := ex_mxl y) (by rw [hsl as' hcat, List.length_map]; omega)
  rw [lg_entry_eq]
  generalize (lg_sl as' ++ List.replicate (ex_mxl y - (lg_sl as').length) Slot.unset).toArray = ls0 at hl ⊢
  refine sim p e _ s m _ below meth c _ _ _ ad C hF ad ls0 _ [] ws s.heap [] (ex_le_rf ad) hl ?_ trivial h2 hP (h3.self) va_S.rf
  intro i v hi hv
  unfold ex_pad at hi
  by_cases hlt : i < as.length
  · rw [List.getElem?_append_left hlt] at hi
    obtain ⟨x, hx1, hx2⟩ := ex_sr_get h1 hi
    refine ⟨x, hx2, ?_⟩
    have := hargs as' 0 hcat i x hx1
    rwa [Nat.zero_add] at this
  · rw [List.getElem?_append_right (by omega)] at hi
    have := List.mem_of_getElem? hi
    exact absurd (List.eq_of_mem_replicate this) hv
set_option maxHeartbeats 4000000 in
/-- WHAT THE SMALL MACHINE ANSWERS, THE REAL ONE ANSWERS -/
theorem ex_sim {S : ex_S} {b : Nat} {l : Launch} {D : va_G} {kc : Nat → ClassId} : ∀ (n y pc : Nat) (ls st : List ex_V) (w : ex_W) (cN sN : Nat) (r : Option Int32) (w2 : ex_W), ex_run S n y pc ls st w cN sN = some (r, w2) →
    ∀ (p : Program) (e : Env) (R : Room) (s : State) (m : MethodId) (args : Array Value) (below : List Frame) (meth : Method) (c : Code) (Q : State → Prop) (A : Nat → Prop) (H0 : Heap) (ad0 : List Nat), ex_Cx S b p R s m args meth c A H0 D kc y → ex_Fin b p l e R s m args below meth c Q A H0 D kc y ad0 r w2 → ex_Ok S b p l e R s m args below meth c Q A H0 D kc y ad0 pc ls st w cN sN := by
  intro n
  induction n with
  | zero => intro y pc ls st w cN sN r w2 h; cases h
  | succ n ih =>
    intro y pc ls st w cN sN r w2 h p e R s m args below meth c Q A H0 ad0 C hF
    unfold ex_run at h
    split at h
    · rename_i r0 hd
      cases h
      obtain ⟨g1, rfl, g2, g3, rfl⟩ := ex_dec_ret hd
      intro ad ls' lv st' ws H locs h1 h2 h3 h4 h5 h6 h7 h8
      have hst : st' = (r.map Value.int).toList := by
        cases r with
        | none => exact ex_sr_nil h4
        | some x =>
          obtain ⟨t, rfl, ht⟩ := ex_sr_i h4
          rw [ex_sr_nil ht]; rfl
      subst hst
      exact W.widen g2 g3 (hF pc ls' ad ws H locs g1 h1 h5 h6 h7 h8)
    · rename_i F hd
      exact ex_next C hd (ih y _ _ _ _ _ _ r w2 h p e R s m args below meth c Q A H0 ad0 C hF)
    · rename_i q hd
      obtain ⟨⟨y2, as⟩, rest⟩ := q
      split at h
      · rename_i r1 hr1
        obtain ⟨r1, w1⟩ := r1
        have kk := ih y _ _ _ _ _ _ r w2 h p e R s m args below meth c Q A H0 ad0 C hF
        rcases ex_dec_call hd with ⟨i, d1, d2, d3, d4, rfl, rfl⟩ | ⟨i, q, k0, d1, d2, d3, rfl, d5, d6⟩
        · have c5 : y2 < ex_ny := by
            simp only [ex_cok, Bool.and_eq_true, decide_eq_true_eq] at d4
            exact d4.2
          have hM : ex_Met S b l D kc y2 (st.take (ex_np y2)).reverse w r1 w1 := ex_met_of c5 (by rw [List.length_reverse, List.length_take]; have := (ex_y_ok c5).2.2.2.2.2.2; have := ex_np_ok c5; omega) (ih y2 0 _ [] w 0 0 r1 w1 hr1)
          exact ex_k_static C d1 d2 d3 d4 hM kk
        · have c5 : y2 < ex_ny := by
            simp only [ex_cok, Bool.and_eq_true, decide_eq_true_eq] at d3
            exact d3.2
          rcases d5 with ⟨rfl, d5⟩ | ⟨rfl, d5⟩
          · have hM : ex_Met S b l D kc y2 (.inr q :: (st.take (ex_np y2)).reverse) w r1 w1 := ex_met_of c5 (by rw [List.length_cons, List.length_reverse, List.length_take]; have := ex_np_V d6; omega) (ih y2 0 _ [] w 0 0 r1 w1 hr1)
            exact ex_k_virtual C d5 d6 d1 d2 d3 hM kk
          · have hM : ex_Met S b l D kc y2 (.inr q :: (st.take (ex_np y2)).reverse) w r1 w1 := ex_met_of c5 (by rw [List.length_cons, List.length_reverse, List.length_take]; have := ex_np_I d6; omega) (ih y2 0 _ [] w 0 0 r1 w1 hr1)
            exact ex_k_special C d5 d6 d1 d2 d3 hM kk
      · cases h
    · cases h
end
