def RX0 : String := "ParoleCache$Helper"
def TX0 : u_T := fun k => match k with
  | 0 => ("ParoleCache$Helper", "table", "LParoleCache$Rows;", true)
  | 1 => ("ParoleCache$Helper", "wishes", "[I", true)
  | 2 => ("ParoleCache$Helper", "wishCount", "I", false)
  | 3 => ("ParoleCache$Helper", "kind", "I", false)
  | 4 => ("ParoleCache$Helper", "degree", "I", false)
  | 5 => ("ParoleCache$Helper", "price", "I", false)
  | 6 => ("ParoleCache$Helper", "state", "I", false)
  | 7 => ("ParoleCache$Helper", "hours", "I", false)
  | 8 => ("ParoleCache$Helper", "linesLeft", "I", false)
  | 9 => ("ParoleCache$Helper", "fetched", "I", false)
  | 10 => ("ParoleCache$Helper", "used", "I", false)
  | 11 => ("ParoleCache$Helper", "vain", "I", false)
  | 12 => ("ParoleCache$Helper", "harms", "I", false)
  | 13 => ("ParoleCache$Helper", "worked", "I", false)
  | 14 => ("ParoleCache$Helper", "pardoned", "I", false)
  | _ => ("ParoleCache$Helper", "probations", "I", false)
def tyX0 : Nat → FieldType := fun k => match k with
  | 0 => .object "ParoleCache$Rows"
  | 1 => .array .int
  | 2 => .int
  | 3 => .int
  | 4 => .int
  | 5 => .int
  | 6 => .int
  | 7 => .int
  | 8 => .int
  | 9 => .int
  | 10 => .int
  | 11 => .int
  | 12 => .int
  | 13 => .int
  | 14 => .int
  | _ => .int
abbrev wsX00 : List Cond := u_ws RX0 TX0 16
theorem nmX0 : ∀ a, a < 16 → ∀ b, b < 16 → a ≠ b → (TX0 a).2.1 ≠ (TX0 b).2.1 := by decide +kernel
theorem tyX0_ok : ∀ k, k < 16 → parseFieldDescriptor (TX0 k).2.2.1 = some (tyX0 k) := by decide +kernel
abbrev cX0_init : ByteArray := prog_2_method_1_code
def yX0_init : MethodName := ⟨RX0, "<init>", "()V"⟩
abbrev cX0_begin : ByteArray := prog_2_method_2_code
def yX0_begin : MethodName := ⟨RX0, "begin", "(III)V"⟩
abbrev cX0_copyFrom : ByteArray := prog_2_method_3_code
def yX0_copyFrom : MethodName := ⟨RX0, "copyFrom", "(LParoleCache$Helper;)V"⟩
abbrev cX0_reach : ByteArray := prog_2_method_4_code
def yX0_reach : MethodName := ⟨RX0, "reach", "()I"⟩
abbrev cX0_sentence : ByteArray := prog_2_method_5_code
def yX0_sentence : MethodName := ⟨RX0, "sentence", "(I)V"⟩
abbrev cX0_workOneHour : ByteArray := prog_2_method_6_code
def yX0_workOneHour : MethodName := ⟨RX0, "workOneHour", "(I)V"⟩
abbrev cX0_lineWasUsed : ByteArray := prog_2_method_7_code
def yX0_lineWasUsed : MethodName := ⟨RX0, "lineWasUsed", "()V"⟩
abbrev cX0_release : ByteArray := prog_2_method_8_code
def yX0_release : MethodName := ⟨RX0, "release", "()I"⟩
abbrev cX0_learn : ByteArray := prog_2_method_9_code
def yX0_learn : MethodName := ⟨RX0, "learn", "(III)V"⟩
abbrev cX0_learnStride : ByteArray := prog_2_method_10_code
def yX0_learnStride : MethodName := ⟨RX0, "learnStride", "(II)V"⟩
abbrev cX0_learnStream : ByteArray := prog_2_method_11_code
def yX0_learnStream : MethodName := ⟨RX0, "learnStream", "(I)V"⟩
abbrev cX0_streamNear : ByteArray := prog_2_method_12_code
def yX0_streamNear : MethodName := ⟨RX0, "streamNear", "(I)I"⟩
abbrev cX0_addRow : ByteArray := prog_2_method_13_code
def yX0_addRow : MethodName := ⟨RX0, "addRow", "(III)V"⟩
abbrev cX0_updateRow : ByteArray := prog_2_method_14_code
def yX0_updateRow : MethodName := ⟨RX0, "updateRow", "(IIII)V"⟩
abbrev cX0_wish : ByteArray := prog_2_method_15_code
def yX0_wish : MethodName := ⟨RX0, "wish", "(II)V"⟩
abbrev cX0_wishAt : ByteArray := prog_2_method_16_code
def yX0_wishAt : MethodName := ⟨RX0, "wishAt", "(I)I"⟩
def RX1 : String := "ParoleCache$Rows"
def TX1 : u_T := fun k => match k with
  | 0 => ("ParoleCache$Rows", "capacity", "I", true)
  | 1 => ("ParoleCache$Rows", "columns", "I", true)
  | 2 => ("ParoleCache$Rows", "cells", "[I", true)
  | _ => ("ParoleCache$Rows", "size", "I", false)
def tyX1 : Nat → FieldType := fun k => match k with
  | 0 => .int
  | 1 => .int
  | 2 => .array .int
  | _ => .int
abbrev wsX10 : List Cond := u_ws RX1 TX1 4
theorem nmX1 : ∀ a, a < 4 → ∀ b, b < 4 → a ≠ b → (TX1 a).2.1 ≠ (TX1 b).2.1 := by decide +kernel
theorem tyX1_ok : ∀ k, k < 4 → parseFieldDescriptor (TX1 k).2.2.1 = some (tyX1 k) := by decide +kernel
abbrev cX1_init : ByteArray := prog_3_method_1_code
def yX1_init : MethodName := ⟨RX1, "<init>", "(II)V"⟩
abbrev cX1_copyFrom : ByteArray := prog_3_method_2_code
def yX1_copyFrom : MethodName := ⟨RX1, "copyFrom", "(LParoleCache$Rows;)V"⟩
abbrev cX1_holds : ByteArray := prog_3_method_3_code
def yX1_holds : MethodName := ⟨RX1, "holds", "(II)Z"⟩
abbrev cX1_get : ByteArray := prog_3_method_4_code
def yX1_get : MethodName := ⟨RX1, "get", "(II)I"⟩
abbrev cX1_put : ByteArray := prog_3_method_5_code
def yX1_put : MethodName := ⟨RX1, "put", "(III)V"⟩
abbrev cX1_find : ByteArray := prog_3_method_6_code
def yX1_find : MethodName := ⟨RX1, "find", "(I)I"⟩
abbrev cX1_touch : ByteArray := prog_3_method_7_code
def yX1_touch : MethodName := ⟨RX1, "touch", "(I)V"⟩
abbrev cX1_remove : ByteArray := prog_3_method_8_code
def yX1_remove : MethodName := ⟨RX1, "remove", "(I)V"⟩
abbrev cX1_open : ByteArray := prog_3_method_9_code
def yX1_open : MethodName := ⟨RX1, "open", "(I)I"⟩
def RX2 : String := "ParoleCache$State"
def TX2 : u_T := fun k => match k with
  | 0 => ("ParoleCache$State", "sets", "[LParoleCache$Rows;", true)
  | 1 => ("ParoleCache$State", "thrown", "LParoleCache$Rows;", true)
  | 2 => ("ParoleCache$State", "helpers", "[LParoleCache$Helper;", true)
  | 3 => ("ParoleCache$State", "log", "LParoleCache$Rows;", true)
  | 4 => ("ParoleCache$State", "setCount", "I", false)
  | 5 => ("ParoleCache$State", "wayCount", "I", false)
  | 6 => ("ParoleCache$State", "helperCount", "I", false)
  | 7 => ("ParoleCache$State", "trial", "I", false)
  | 8 => ("ParoleCache$State", "accesses", "I", false)
  | 9 => ("ParoleCache$State", "hits", "I", false)
  | 10 => ("ParoleCache$State", "newHits", "I", false)
  | 11 => ("ParoleCache$State", "fetchedAhead", "I", false)
  | _ => ("ParoleCache$State", "thrownTotal", "I", false)
def tyX2 : Nat → FieldType := fun k => match k with
  | 0 => .array (.object "ParoleCache$Rows")
  | 1 => .object "ParoleCache$Rows"
  | 2 => .array (.object "ParoleCache$Helper")
  | 3 => .object "ParoleCache$Rows"
  | 4 => .int
  | 5 => .int
  | 6 => .int
  | 7 => .int
  | 8 => .int
  | 9 => .int
  | 10 => .int
  | 11 => .int
  | _ => .int
abbrev wsX20 : List Cond := u_ws RX2 TX2 13
theorem nmX2 : ∀ a, a < 13 → ∀ b, b < 13 → a ≠ b → (TX2 a).2.1 ≠ (TX2 b).2.1 := by decide +kernel
theorem tyX2_ok : ∀ k, k < 13 → parseFieldDescriptor (TX2 k).2.2.1 = some (tyX2 k) := by decide +kernel
abbrev cX2_init : ByteArray := prog_4_method_1_code
def yX2_init : MethodName := ⟨RX2, "<init>", "()V"⟩
abbrev cX2_copyFrom : ByteArray := prog_4_method_2_code
def yX2_copyFrom : MethodName := ⟨RX2, "copyFrom", "(LParoleCache$State;)V"⟩
abbrev cX2_setAt : ByteArray := prog_4_method_3_code
def yX2_setAt : MethodName := ⟨RX2, "setAt", "(I)LParoleCache$Rows;"⟩
abbrev cX2_setOf : ByteArray := prog_4_method_4_code
def yX2_setOf : MethodName := ⟨RX2, "setOf", "(I)LParoleCache$Rows;"⟩
abbrev cX2_helperAt : ByteArray := prog_4_method_5_code
def yX2_helperAt : MethodName := ⟨RX2, "helperAt", "(I)LParoleCache$Helper;"⟩
abbrev cX2_hire : ByteArray := prog_4_method_6_code
def yX2_hire : MethodName := ⟨RX2, "hire", "(III)I"⟩
abbrev cX2_perform : ByteArray := prog_4_method_7_code
def yX2_perform : MethodName := ⟨RX2, "perform", "(II)I"⟩
abbrev cX2_performWalk : ByteArray := prog_4_method_8_code
def yX2_performWalk : MethodName := ⟨RX2, "performWalk", "(IIII)I"⟩
abbrev cX2_serve : ByteArray := prog_4_method_9_code
def yX2_serve : MethodName := ⟨RX2, "serve", "(I)I"⟩
abbrev cX2_punishThrower : ByteArray := prog_4_method_10_code
def yX2_punishThrower : MethodName := ⟨RX2, "punishThrower", "(I)V"⟩
abbrev cX2_fetchWishes : ByteArray := prog_4_method_11_code
def yX2_fetchWishes : MethodName := ⟨RX2, "fetchWishes", "(I)I"⟩
abbrev cX2_fetch : ByteArray := prog_4_method_12_code
def yX2_fetch : MethodName := ⟨RX2, "fetch", "(II)V"⟩
abbrev cX2_throwOldest : ByteArray := prog_4_method_13_code
def yX2_throwOldest : MethodName := ⟨RX2, "throwOldest", "(LParoleCache$Rows;I)V"⟩
abbrev cX2_throwAllOut : ByteArray := prog_4_method_14_code
def yX2_throwAllOut : MethodName := ⟨RX2, "throwAllOut", "()I"⟩
abbrev cX2_writeLog : ByteArray := prog_4_method_15_code
def yX2_writeLog : MethodName := ⟨RX2, "writeLog", "(IIII)V"⟩
abbrev cX2_linesInCache : ByteArray := prog_4_method_16_code
def yX2_linesInCache : MethodName := ⟨RX2, "linesInCache", "()I"⟩
abbrev cX2_newLinesOf : ByteArray := prog_4_method_17_code
def yX2_newLinesOf : MethodName := ⟨RX2, "newLinesOf", "(I)I"⟩
abbrev cX2_newLines : ByteArray := prog_4_method_18_code
def yX2_newLines : MethodName := ⟨RX2, "newLines", "()I"⟩
abbrev cX2_allHours : ByteArray := prog_4_method_19_code
def yX2_allHours : MethodName := ⟨RX2, "allHours", "()I"⟩
abbrev cX2_programsInLog : ByteArray := prog_4_method_20_code
def yX2_programsInLog : MethodName := ⟨RX2, "programsInLog", "()I"⟩
def RX3 : String := "ParoleCache$Trace"
def TX3 : u_T := fun k => match k with
  | 0 => ("ParoleCache$Trace", "signs", "[C", true)
  | _ => ("ParoleCache$Trace", "length", "I", false)
def tyX3 : Nat → FieldType := fun k => match k with
  | 0 => .array .char
  | _ => .int
abbrev wsX30 : List Cond := u_ws RX3 TX3 2
theorem nmX3 : ∀ a, a < 2 → ∀ b, b < 2 → a ≠ b → (TX3 a).2.1 ≠ (TX3 b).2.1 := by decide +kernel
theorem tyX3_ok : ∀ k, k < 2 → parseFieldDescriptor (TX3 k).2.2.1 = some (tyX3 k) := by decide +kernel
abbrev cX3_init : ByteArray := prog_5_method_1_code
def yX3_init : MethodName := ⟨RX3, "<init>", "()V"⟩
def RX4 : String := "ParoleCache"
def TX4 : u_T := fun k => match k with
  | 0 => ("ParoleCache", "current", "LParoleCache$State;", true)
  | 1 => ("ParoleCache", "scratch", "LParoleCache$State;", true)
  | 2 => ("ParoleCache", "snapshot", "LParoleCache$State;", true)
  | 3 => ("ParoleCache", "history", "[LParoleCache$State;", true)
  | 4 => ("ParoleCache", "trace", "LParoleCache$Trace;", true)
  | 5 => ("ParoleCache", "hasSnapshot", "Z", false)
  | _ => ("ParoleCache", "historySize", "I", false)
def tyX4 : Nat → FieldType := fun k => match k with
  | 0 => .object "ParoleCache$State"
  | 1 => .object "ParoleCache$State"
  | 2 => .object "ParoleCache$State"
  | 3 => .array (.object "ParoleCache$State")
  | 4 => .object "ParoleCache$Trace"
  | 5 => .boolean
  | _ => .int
abbrev wsX40 : List Cond := u_ws RX4 TX4 7
theorem nmX4 : ∀ a, a < 7 → ∀ b, b < 7 → a ≠ b → (TX4 a).2.1 ≠ (TX4 b).2.1 := by decide +kernel
theorem tyX4_ok : ∀ k, k < 7 → parseFieldDescriptor (TX4 k).2.2.1 = some (tyX4 k) := by decide +kernel
abbrev cX4_init : ByteArray := prog_1_method_1_code
def yX4_init : MethodName := ⟨RX4, "<init>", "()V"⟩
abbrev cX4_shape : ByteArray := prog_1_method_2_code
def yX4_shape : MethodName := ⟨RX4, "shape", "(II)I"⟩
abbrev cX4_flush : ByteArray := prog_1_method_3_code
def yX4_flush : MethodName := ⟨RX4, "flush", "()I"⟩
abbrev cX4_addHelper : ByteArray := prog_1_method_4_code
def yX4_addHelper : MethodName := ⟨RX4, "addHelper", "(III)I"⟩
abbrev cX4_setDegree : ByteArray := prog_1_method_5_code
def yX4_setDegree : MethodName := ⟨RX4, "setDegree", "(II)I"⟩
abbrev cX4_setTrial : ByteArray := prog_1_method_6_code
def yX4_setTrial : MethodName := ⟨RX4, "setTrial", "(I)I"⟩
abbrev cX4_pardon : ByteArray := prog_1_method_7_code
def yX4_pardon : MethodName := ⟨RX4, "pardon", "(I)I"⟩
abbrev cX4_forget : ByteArray := prog_1_method_8_code
def yX4_forget : MethodName := ⟨RX4, "forget", "(I)I"⟩
abbrev cX4_access : ByteArray := prog_1_method_9_code
def yX4_access : MethodName := ⟨RX4, "access", "(II)I"⟩
abbrev cX4_walk : ByteArray := prog_1_method_10_code
def yX4_walk : MethodName := ⟨RX4, "walk", "(IIII)I"⟩
abbrev cX4_undo : ByteArray := prog_1_method_14_code
def yX4_undo : MethodName := ⟨RX4, "undo", "()I"⟩
abbrev cX4_keep : ByteArray := prog_1_method_15_code
def yX4_keep : MethodName := ⟨RX4, "keep", "()I"⟩
abbrev cX4_restore : ByteArray := prog_1_method_16_code
def yX4_restore : MethodName := ⟨RX4, "restore", "()I"⟩
abbrev cX4_line : ByteArray := prog_1_method_17_code
def yX4_line : MethodName := ⟨RX4, "line", "(II)I"⟩
abbrev cX4_inSet : ByteArray := prog_1_method_18_code
def yX4_inSet : MethodName := ⟨RX4, "inSet", "(II)I"⟩
abbrev cX4_thrownOut : ByteArray := prog_1_method_19_code
def yX4_thrownOut : MethodName := ⟨RX4, "thrownOut", "(I)I"⟩
abbrev cX4_helper : ByteArray := prog_1_method_20_code
def yX4_helper : MethodName := ⟨RX4, "helper", "(II)I"⟩
abbrev cX4_table : ByteArray := prog_1_method_21_code
def yX4_table : MethodName := ⟨RX4, "table", "(III)I"⟩
abbrev cX4_wouldAsk : ByteArray := prog_1_method_22_code
def yX4_wouldAsk : MethodName := ⟨RX4, "wouldAsk", "(IIII)I"⟩
abbrev cX4_wouldHit : ByteArray := prog_1_method_23_code
def yX4_wouldHit : MethodName := ⟨RX4, "wouldHit", "(IIII)I"⟩
abbrev cX4_logged : ByteArray := prog_1_method_25_code
def yX4_logged : MethodName := ⟨RX4, "logged", "(II)I"⟩
abbrev cX4_count : ByteArray := prog_1_method_26_code
def yX4_count : MethodName := ⟨RX4, "count", "(I)I"⟩
abbrev cX4_isOutside : ByteArray := prog_1_method_27_code
def yX4_isOutside : MethodName := ⟨RX4, "isOutside", "(III)Z"⟩
abbrev cX4_isWalk : ByteArray := prog_1_method_28_code
def yX4_isWalk : MethodName := ⟨RX4, "isWalk", "(IIII)Z"⟩
abbrev cX4_remember : ByteArray := prog_1_method_29_code
def yX4_remember : MethodName := ⟨RX4, "remember", "()V"⟩
def RX5 : String := "ParoleCacheModel"
def TX5 : u_T := fun k => match k with
  | _ => ("", "", "", false)
def tyX5 : Nat → FieldType := fun k => match k with
  | _ => .int
abbrev wsX50 : List Cond := u_ws RX5 TX5 0
theorem nmX5 : ∀ a, a < 0 → ∀ b, b < 0 → a ≠ b → (TX5 a).2.1 ≠ (TX5 b).2.1 := by decide +kernel
theorem tyX5_ok : ∀ k, k < 0 → parseFieldDescriptor (TX5 k).2.2.1 = some (tyX5 k) := by decide +kernel
def RJ6 : String := "java/lang/Integer"
def TJ6 : u_T := fun k => match k with
  | _ => ("", "", "", false)
def tyJ6 : Nat → FieldType := fun k => match k with
  | _ => .int
abbrev wsJ60 : List Cond := u_ws RJ6 TJ6 0
theorem nmJ6 : ∀ a, a < 0 → ∀ b, b < 0 → a ≠ b → (TJ6 a).2.1 ≠ (TJ6 b).2.1 := by decide +kernel
theorem tyJ6_ok : ∀ k, k < 0 → parseFieldDescriptor (TJ6 k).2.2.1 = some (tyJ6 k) := by decide +kernel
abbrev cJ6_bitCount_0f7a4 : ByteArray := prog_8_method_49_code
def yJ6_bitCount_0f7a4 : MethodName := ⟨RJ6, "bitCount", "(I)I"⟩
def RJ9 : String := "java/lang/Math"
def TJ9 : u_T := fun k => match k with
  | _ => ("", "", "", false)
def tyJ9 : Nat → FieldType := fun k => match k with
  | _ => .int
abbrev wsJ90 : List Cond := u_ws RJ9 TJ9 0
theorem nmJ9 : ∀ a, a < 0 → ∀ b, b < 0 → a ≠ b → (TJ9 a).2.1 ≠ (TJ9 b).2.1 := by decide +kernel
theorem tyJ9_ok : ∀ k, k < 0 → parseFieldDescriptor (TJ9 k).2.2.1 = some (tyJ9 k) := by decide +kernel
abbrev cJ9_abs_0f7a4 : ByteArray := prog_9_method_59_code
def yJ9_abs_0f7a4 : MethodName := ⟨RJ9, "abs", "(I)I"⟩
abbrev cJ9_max_7cf53 : ByteArray := prog_9_method_65_code
def yJ9_max_7cf53 : MethodName := ⟨RJ9, "max", "(II)I"⟩
abbrev cJ9_min_7cf53 : ByteArray := prog_9_method_69_code
def yJ9_min_7cf53 : MethodName := ⟨RJ9, "min", "(II)I"⟩
def RL : String := "ParoleCacheLaw"
abbrev cL_cell : ByteArray := method_2_code
def yL_cell : MethodName := ⟨RL, "cell", "([II)I"⟩
abbrev cL_low : ByteArray := method_3_code
def yL_low : MethodName := ⟨RL, "low", "(II)I"⟩
abbrev cL_all : ByteArray := method_4_code
def yL_all : MethodName := ⟨RL, "all", "(LParoleCache;)J"⟩
abbrev cL_isSound : ByteArray := method_5_code
def yL_isSound : MethodName := ⟨RL, "isSound", "(LParoleCache;)Z"⟩
abbrev cL_acts : ByteArray := method_6_code
def yL_acts : MethodName := ⟨RL, "acts", "(LParoleCache;I)I"⟩
abbrev cL_isForetold : ByteArray := method_7_code
def yL_isForetold : MethodName := ⟨RL, "isForetold", "(LParoleCache;I)Z"⟩
abbrev cL_law : ByteArray := code
def yL_law : MethodName := ⟨RL, "law", "([I)Z"⟩
abbrev vwCl : List vw_C := [(RX0, TX0, 16), (RX1, TX1, 4), (RX2, TX2, 13), (RX3, TX3, 2), (RX4, TX4, 7)]
/-! the words that all methods share: those of the tables that stay as the machine warms up -/
def x_nest : Cond → Bool
  | .fieldLinkNest .. => true
  | .methodLinkNest .. => true
  | _ => false
def x_good (w : Cond) : Bool := goodWord w || x_nest w
def lw_use : List Cond := lw_tbl.filter x_good
theorem x_use {w : Cond} (i : Nat) (h : lw_tbl[i]? = some w) (hg : x_good w = true) : w ∈ lw_use := List.mem_filter.mpr ⟨List.mem_of_getElem? h, hg⟩
theorem x_warm {w : Cond} (h : x_good w = true) {s U : State} {a a' : Array Value} (hW : s.WarmedH U.vm) (hb : w.before a s = true) : w.before a' U = true := by
  rcases Bool.or_eq_true _ _ ▸ h with h | h
  · exact word_at hW (good_of_word h) hb
  · cases w with
    | fieldLinkNest x i b n d h9 => exact va_Nw.use rfl (va_Nw.warmF hW (va_Nw.of rfl hb))
    | methodLinkNest x i y h9 => exact va_Nw.use rfl (va_Nw.warmM hW (va_Nw.of rfl hb))
    | _ => cases h
/-- the tables' words hold -/
def x_N (U : State) : Prop := ∀ (a : Array Value) (w : Cond), w ∈ lw_use → w.before a U = true
theorem x_N_warm {s U : State} (hW : s.WarmedH U.vm) (h : x_N s) : x_N U := fun a w hw => x_warm (List.mem_filter.mp hw).2 hW (h #[] w hw)
theorem x_N_same {s U : State} (hv : U.vm = s.vm) (h : x_N s) : x_N U := x_N_warm (by rw [hv]; exact State.WarmedH.refl s) h
theorem x_N_of {s : State} {a : Array Value} (h : ∀ w ∈ lw_tbl, w.before a s = true) : x_N s := fun a' w hw => x_warm (List.mem_filter.mp hw).2 (State.WarmedH.refl s) (h w (List.mem_filter.mp hw).1)
theorem x_N_in {ws : List Cond} (h : ws.all x_good = true) (hm : ∀ w ∈ ws, w ∈ lw_tbl) : ∀ w ∈ ws, w ∈ lw_use := fun w hw => List.mem_filter.mpr ⟨hm w hw, List.all_eq_true.mp h w hw⟩
theorem inu0 : ∀ w ∈ wsX00, w ∈ lw_use := x_N_in (by decide +kernel) (by decide +kernel)
theorem inu1 : ∀ w ∈ wsX10, w ∈ lw_use := x_N_in (by decide +kernel) (by decide +kernel)
theorem inu2 : ∀ w ∈ wsX20, w ∈ lw_use := x_N_in (by decide +kernel) (by decide +kernel)
theorem inu3 : ∀ w ∈ wsX30, w ∈ lw_use := x_N_in (by decide +kernel) (by decide +kernel)
theorem inu4 : ∀ w ∈ wsX40, w ∈ lw_use := x_N_in (by decide +kernel) (by decide +kernel)
