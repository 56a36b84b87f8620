section
-- ===== PART A: goes FIRST, ahead of the names: the tables' words, and 'selects' of the private methods out of them =====
/-- a private method of a class that the tables say can be made, by its rows of tables_1 -/
def lw_okq (q : MethodName × Nat) : Prop := (q.1.cls ≠ "java/lang/invoke/MethodHandle" ∧ q.1.cls ≠ "java/lang/invoke/VarHandle") ∧ Cond.instantiable q.1.cls q.2 ∈ tables_1 ∧ Cond.privateMethod q.1 ∈ tables_1 ∧ Cond.instanceMethod q.1 ∈ tables_1
theorem lw_p0 : lw_okq (⟨"ParoleCache$Helper", "begin", "(III)V"⟩, 16) := ⟨⟨by decide +kernel, by decide +kernel⟩, List.mem_of_getElem? (i := 52) (by decide +kernel), List.mem_of_getElem? (i := 60) (by decide +kernel), List.mem_of_getElem? (i := 61) (by decide +kernel)⟩
theorem lw_p1 : lw_okq (⟨"ParoleCache", "remember", "()V"⟩, 7) := ⟨⟨by decide +kernel, by decide +kernel⟩, List.mem_of_getElem? (i := 10) (by decide +kernel), List.mem_of_getElem? (i := 233) (by decide +kernel), List.mem_of_getElem? (i := 234) (by decide +kernel)⟩
theorem lw_p2 : lw_okq (⟨"ParoleCache$State", "copyFrom", "(LParoleCache$State;)V"⟩, 13) := ⟨⟨by decide +kernel, by decide +kernel⟩, List.mem_of_getElem? (i := 18) (by decide +kernel), List.mem_of_getElem? (i := 237) (by decide +kernel), List.mem_of_getElem? (i := 238) (by decide +kernel)⟩
theorem lw_p3 : lw_okq (⟨"ParoleCache$Rows", "copyFrom", "(LParoleCache$Rows;)V"⟩, 4) := ⟨⟨by decide +kernel, by decide +kernel⟩, List.mem_of_getElem? (i := 25) (by decide +kernel), List.mem_of_getElem? (i := 241) (by decide +kernel), List.mem_of_getElem? (i := 242) (by decide +kernel)⟩
theorem lw_p4 : lw_okq (⟨"ParoleCache$Helper", "copyFrom", "(LParoleCache$Helper;)V"⟩, 16) := ⟨⟨by decide +kernel, by decide +kernel⟩, List.mem_of_getElem? (i := 52) (by decide +kernel), List.mem_of_getElem? (i := 248) (by decide +kernel), List.mem_of_getElem? (i := 249) (by decide +kernel)⟩
theorem lw_p5 : lw_okq (⟨"ParoleCache$State", "throwAllOut", "()I"⟩, 13) := ⟨⟨by decide +kernel, by decide +kernel⟩, List.mem_of_getElem? (i := 18) (by decide +kernel), List.mem_of_getElem? (i := 253) (by decide +kernel), List.mem_of_getElem? (i := 254) (by decide +kernel)⟩
theorem lw_p6 : lw_okq (⟨"ParoleCache$State", "throwOldest", "(LParoleCache$Rows;I)V"⟩, 13) := ⟨⟨by decide +kernel, by decide +kernel⟩, List.mem_of_getElem? (i := 18) (by decide +kernel), List.mem_of_getElem? (i := 258) (by decide +kernel), List.mem_of_getElem? (i := 259) (by decide +kernel)⟩
theorem lw_p7 : lw_okq (⟨"ParoleCache$Rows", "get", "(II)I"⟩, 4) := ⟨⟨by decide +kernel, by decide +kernel⟩, List.mem_of_getElem? (i := 25) (by decide +kernel), List.mem_of_getElem? (i := 262) (by decide +kernel), List.mem_of_getElem? (i := 263) (by decide +kernel)⟩
theorem lw_p8 : lw_okq (⟨"ParoleCache$Rows", "holds", "(II)Z"⟩, 4) := ⟨⟨by decide +kernel, by decide +kernel⟩, List.mem_of_getElem? (i := 25) (by decide +kernel), List.mem_of_getElem? (i := 266) (by decide +kernel), List.mem_of_getElem? (i := 267) (by decide +kernel)⟩
theorem lw_p9 : lw_okq (⟨"ParoleCache$State", "helperAt", "(I)LParoleCache$Helper;"⟩, 13) := ⟨⟨by decide +kernel, by decide +kernel⟩, List.mem_of_getElem? (i := 18) (by decide +kernel), List.mem_of_getElem? (i := 271) (by decide +kernel), List.mem_of_getElem? (i := 272) (by decide +kernel)⟩
theorem lw_p10 : lw_okq (⟨"ParoleCache$Rows", "remove", "(I)V"⟩, 4) := ⟨⟨by decide +kernel, by decide +kernel⟩, List.mem_of_getElem? (i := 25) (by decide +kernel), List.mem_of_getElem? (i := 277) (by decide +kernel), List.mem_of_getElem? (i := 278) (by decide +kernel)⟩
theorem lw_p11 : lw_okq (⟨"ParoleCache$Rows", "touch", "(I)V"⟩, 4) := ⟨⟨by decide +kernel, by decide +kernel⟩, List.mem_of_getElem? (i := 25) (by decide +kernel), List.mem_of_getElem? (i := 281) (by decide +kernel), List.mem_of_getElem? (i := 282) (by decide +kernel)⟩
theorem lw_p12 : lw_okq (⟨"ParoleCache$Rows", "open", "(I)I"⟩, 4) := ⟨⟨by decide +kernel, by decide +kernel⟩, List.mem_of_getElem? (i := 25) (by decide +kernel), List.mem_of_getElem? (i := 285) (by decide +kernel), List.mem_of_getElem? (i := 286) (by decide +kernel)⟩
theorem lw_p13 : lw_okq (⟨"ParoleCache$Rows", "put", "(III)V"⟩, 4) := ⟨⟨by decide +kernel, by decide +kernel⟩, List.mem_of_getElem? (i := 25) (by decide +kernel), List.mem_of_getElem? (i := 289) (by decide +kernel), List.mem_of_getElem? (i := 290) (by decide +kernel)⟩
theorem lw_p14 : lw_okq (⟨"ParoleCache$Helper", "sentence", "(I)V"⟩, 16) := ⟨⟨by decide +kernel, by decide +kernel⟩, List.mem_of_getElem? (i := 52) (by decide +kernel), List.mem_of_getElem? (i := 293) (by decide +kernel), List.mem_of_getElem? (i := 294) (by decide +kernel)⟩
theorem lw_p15 : lw_okq (⟨"ParoleCache$State", "linesInCache", "()I"⟩, 13) := ⟨⟨by decide +kernel, by decide +kernel⟩, List.mem_of_getElem? (i := 18) (by decide +kernel), List.mem_of_getElem? (i := 301) (by decide +kernel), List.mem_of_getElem? (i := 302) (by decide +kernel)⟩
def lw_privs_1 : List (MethodName × Nat) := [(⟨"ParoleCache$Helper", "begin", "(III)V"⟩, 16), (⟨"ParoleCache", "remember", "()V"⟩, 7), (⟨"ParoleCache$State", "copyFrom", "(LParoleCache$State;)V"⟩, 13), (⟨"ParoleCache$Rows", "copyFrom", "(LParoleCache$Rows;)V"⟩, 4), (⟨"ParoleCache$Helper", "copyFrom", "(LParoleCache$Helper;)V"⟩, 16), (⟨"ParoleCache$State", "throwAllOut", "()I"⟩, 13), (⟨"ParoleCache$State", "throwOldest", "(LParoleCache$Rows;I)V"⟩, 13), (⟨"ParoleCache$Rows", "get", "(II)I"⟩, 4), (⟨"ParoleCache$Rows", "holds", "(II)Z"⟩, 4), (⟨"ParoleCache$State", "helperAt", "(I)LParoleCache$Helper;"⟩, 13), (⟨"ParoleCache$Rows", "remove", "(I)V"⟩, 4), (⟨"ParoleCache$Rows", "touch", "(I)V"⟩, 4), (⟨"ParoleCache$Rows", "open", "(I)I"⟩, 4), (⟨"ParoleCache$Rows", "put", "(III)V"⟩, 4), (⟨"ParoleCache$Helper", "sentence", "(I)V"⟩, 16), (⟨"ParoleCache$State", "linesInCache", "()I"⟩, 13)]
theorem lw_r1 : ∀ q ∈ lw_privs_1, lw_okq q := List.forall_mem_cons.mpr ⟨lw_p0, List.forall_mem_cons.mpr ⟨lw_p1, List.forall_mem_cons.mpr ⟨lw_p2, List.forall_mem_cons.mpr ⟨lw_p3, List.forall_mem_cons.mpr ⟨lw_p4, List.forall_mem_cons.mpr ⟨lw_p5, List.forall_mem_cons.mpr ⟨lw_p6, List.forall_mem_cons.mpr ⟨lw_p7, List.forall_mem_cons.mpr ⟨lw_p8, List.forall_mem_cons.mpr ⟨lw_p9, List.forall_mem_cons.mpr ⟨lw_p10, List.forall_mem_cons.mpr ⟨lw_p11, List.forall_mem_cons.mpr ⟨lw_p12, List.forall_mem_cons.mpr ⟨lw_p13, List.forall_mem_cons.mpr ⟨lw_p14, List.forall_mem_cons.mpr ⟨lw_p15, fun _ h => absurd h List.not_mem_nil⟩⟩⟩⟩⟩⟩⟩⟩⟩⟩⟩⟩⟩⟩⟩⟩
theorem lw_p16 : lw_okq (⟨"ParoleCache$State", "hire", "(III)I"⟩, 13) := ⟨⟨by decide +kernel, by decide +kernel⟩, List.mem_of_getElem? (i := 18) (by decide +kernel), List.mem_of_getElem? (i := 310) (by decide +kernel), List.mem_of_getElem? (i := 311) (by decide +kernel)⟩
theorem lw_p17 : lw_okq (⟨"ParoleCache$Helper", "release", "()I"⟩, 16) := ⟨⟨by decide +kernel, by decide +kernel⟩, List.mem_of_getElem? (i := 52) (by decide +kernel), List.mem_of_getElem? (i := 330) (by decide +kernel), List.mem_of_getElem? (i := 331) (by decide +kernel)⟩
theorem lw_p18 : lw_okq (⟨"ParoleCache$State", "perform", "(II)I"⟩, 13) := ⟨⟨by decide +kernel, by decide +kernel⟩, List.mem_of_getElem? (i := 18) (by decide +kernel), List.mem_of_getElem? (i := 343) (by decide +kernel), List.mem_of_getElem? (i := 344) (by decide +kernel)⟩
theorem lw_p19 : lw_okq (⟨"ParoleCache$Helper", "workOneHour", "(I)V"⟩, 16) := ⟨⟨by decide +kernel, by decide +kernel⟩, List.mem_of_getElem? (i := 52) (by decide +kernel), List.mem_of_getElem? (i := 347) (by decide +kernel), List.mem_of_getElem? (i := 348) (by decide +kernel)⟩
theorem lw_p20 : lw_okq (⟨"ParoleCache$State", "serve", "(I)I"⟩, 13) := ⟨⟨by decide +kernel, by decide +kernel⟩, List.mem_of_getElem? (i := 18) (by decide +kernel), List.mem_of_getElem? (i := 351) (by decide +kernel), List.mem_of_getElem? (i := 352) (by decide +kernel)⟩
theorem lw_p21 : lw_okq (⟨"ParoleCache$State", "setOf", "(I)LParoleCache$Rows;"⟩, 13) := ⟨⟨by decide +kernel, by decide +kernel⟩, List.mem_of_getElem? (i := 18) (by decide +kernel), List.mem_of_getElem? (i := 355) (by decide +kernel), List.mem_of_getElem? (i := 356) (by decide +kernel)⟩
theorem lw_p22 : lw_okq (⟨"ParoleCache$State", "setAt", "(I)LParoleCache$Rows;"⟩, 13) := ⟨⟨by decide +kernel, by decide +kernel⟩, List.mem_of_getElem? (i := 18) (by decide +kernel), List.mem_of_getElem? (i := 359) (by decide +kernel), List.mem_of_getElem? (i := 360) (by decide +kernel)⟩
theorem lw_p23 : lw_okq (⟨"ParoleCache$Rows", "find", "(I)I"⟩, 4) := ⟨⟨by decide +kernel, by decide +kernel⟩, List.mem_of_getElem? (i := 25) (by decide +kernel), List.mem_of_getElem? (i := 363) (by decide +kernel), List.mem_of_getElem? (i := 364) (by decide +kernel)⟩
theorem lw_p24 : lw_okq (⟨"ParoleCache$State", "punishThrower", "(I)V"⟩, 13) := ⟨⟨by decide +kernel, by decide +kernel⟩, List.mem_of_getElem? (i := 18) (by decide +kernel), List.mem_of_getElem? (i := 367) (by decide +kernel), List.mem_of_getElem? (i := 368) (by decide +kernel)⟩
theorem lw_p25 : lw_okq (⟨"ParoleCache$State", "fetch", "(II)V"⟩, 13) := ⟨⟨by decide +kernel, by decide +kernel⟩, List.mem_of_getElem? (i := 18) (by decide +kernel), List.mem_of_getElem? (i := 371) (by decide +kernel), List.mem_of_getElem? (i := 372) (by decide +kernel)⟩
theorem lw_p26 : lw_okq (⟨"ParoleCache$Helper", "lineWasUsed", "()V"⟩, 16) := ⟨⟨by decide +kernel, by decide +kernel⟩, List.mem_of_getElem? (i := 52) (by decide +kernel), List.mem_of_getElem? (i := 376) (by decide +kernel), List.mem_of_getElem? (i := 377) (by decide +kernel)⟩
theorem lw_p27 : lw_okq (⟨"ParoleCache$Helper", "learn", "(III)V"⟩, 16) := ⟨⟨by decide +kernel, by decide +kernel⟩, List.mem_of_getElem? (i := 52) (by decide +kernel), List.mem_of_getElem? (i := 380) (by decide +kernel), List.mem_of_getElem? (i := 381) (by decide +kernel)⟩
theorem lw_p28 : lw_okq (⟨"ParoleCache$Helper", "learnStride", "(II)V"⟩, 16) := ⟨⟨by decide +kernel, by decide +kernel⟩, List.mem_of_getElem? (i := 52) (by decide +kernel), List.mem_of_getElem? (i := 384) (by decide +kernel), List.mem_of_getElem? (i := 385) (by decide +kernel)⟩
theorem lw_p29 : lw_okq (⟨"ParoleCache$Helper", "addRow", "(III)V"⟩, 16) := ⟨⟨by decide +kernel, by decide +kernel⟩, List.mem_of_getElem? (i := 52) (by decide +kernel), List.mem_of_getElem? (i := 389) (by decide +kernel), List.mem_of_getElem? (i := 390) (by decide +kernel)⟩
theorem lw_p30 : lw_okq (⟨"ParoleCache$Helper", "updateRow", "(IIII)V"⟩, 16) := ⟨⟨by decide +kernel, by decide +kernel⟩, List.mem_of_getElem? (i := 52) (by decide +kernel), List.mem_of_getElem? (i := 398) (by decide +kernel), List.mem_of_getElem? (i := 399) (by decide +kernel)⟩
theorem lw_p31 : lw_okq (⟨"ParoleCache$Helper", "wish", "(II)V"⟩, 16) := ⟨⟨by decide +kernel, by decide +kernel⟩, List.mem_of_getElem? (i := 52) (by decide +kernel), List.mem_of_getElem? (i := 403) (by decide +kernel), List.mem_of_getElem? (i := 404) (by decide +kernel)⟩
def lw_privs_2 : List (MethodName × Nat) := [(⟨"ParoleCache$State", "hire", "(III)I"⟩, 13), (⟨"ParoleCache$Helper", "release", "()I"⟩, 16), (⟨"ParoleCache$State", "perform", "(II)I"⟩, 13), (⟨"ParoleCache$Helper", "workOneHour", "(I)V"⟩, 16), (⟨"ParoleCache$State", "serve", "(I)I"⟩, 13), (⟨"ParoleCache$State", "setOf", "(I)LParoleCache$Rows;"⟩, 13), (⟨"ParoleCache$State", "setAt", "(I)LParoleCache$Rows;"⟩, 13), (⟨"ParoleCache$Rows", "find", "(I)I"⟩, 4), (⟨"ParoleCache$State", "punishThrower", "(I)V"⟩, 13), (⟨"ParoleCache$State", "fetch", "(II)V"⟩, 13), (⟨"ParoleCache$Helper", "lineWasUsed", "()V"⟩, 16), (⟨"ParoleCache$Helper", "learn", "(III)V"⟩, 16), (⟨"ParoleCache$Helper", "learnStride", "(II)V"⟩, 16), (⟨"ParoleCache$Helper", "addRow", "(III)V"⟩, 16), (⟨"ParoleCache$Helper", "updateRow", "(IIII)V"⟩, 16), (⟨"ParoleCache$Helper", "wish", "(II)V"⟩, 16)]
theorem lw_r2 : ∀ q ∈ lw_privs_2, lw_okq q := List.forall_mem_cons.mpr ⟨lw_p16, List.forall_mem_cons.mpr ⟨lw_p17, List.forall_mem_cons.mpr ⟨lw_p18, List.forall_mem_cons.mpr ⟨lw_p19, List.forall_mem_cons.mpr ⟨lw_p20, List.forall_mem_cons.mpr ⟨lw_p21, List.forall_mem_cons.mpr ⟨lw_p22, List.forall_mem_cons.mpr ⟨lw_p23, List.forall_mem_cons.mpr ⟨lw_p24, List.forall_mem_cons.mpr ⟨lw_p25, List.forall_mem_cons.mpr ⟨lw_p26, List.forall_mem_cons.mpr ⟨lw_p27, List.forall_mem_cons.mpr ⟨lw_p28, List.forall_mem_cons.mpr ⟨lw_p29, List.forall_mem_cons.mpr ⟨lw_p30, List.forall_mem_cons.mpr ⟨lw_p31, fun _ h => absurd h List.not_mem_nil⟩⟩⟩⟩⟩⟩⟩⟩⟩⟩⟩⟩⟩⟩⟩⟩
theorem lw_p32 : lw_okq (⟨"ParoleCache$Helper", "reach", "()I"⟩, 16) := ⟨⟨by decide +kernel, by decide +kernel⟩, List.mem_of_getElem? (i := 52) (by decide +kernel), List.mem_of_getElem? (i := 407) (by decide +kernel), List.mem_of_getElem? (i := 408) (by decide +kernel)⟩
theorem lw_p33 : lw_okq (⟨"ParoleCache$Helper", "learnStream", "(I)V"⟩, 16) := ⟨⟨by decide +kernel, by decide +kernel⟩, List.mem_of_getElem? (i := 52) (by decide +kernel), List.mem_of_getElem? (i := 412) (by decide +kernel), List.mem_of_getElem? (i := 413) (by decide +kernel)⟩
theorem lw_p34 : lw_okq (⟨"ParoleCache$Helper", "streamNear", "(I)I"⟩, 16) := ⟨⟨by decide +kernel, by decide +kernel⟩, List.mem_of_getElem? (i := 52) (by decide +kernel), List.mem_of_getElem? (i := 416) (by decide +kernel), List.mem_of_getElem? (i := 417) (by decide +kernel)⟩
theorem lw_p35 : lw_okq (⟨"ParoleCache$State", "fetchWishes", "(I)I"⟩, 13) := ⟨⟨by decide +kernel, by decide +kernel⟩, List.mem_of_getElem? (i := 18) (by decide +kernel), List.mem_of_getElem? (i := 424) (by decide +kernel), List.mem_of_getElem? (i := 425) (by decide +kernel)⟩
theorem lw_p36 : lw_okq (⟨"ParoleCache$State", "writeLog", "(IIII)V"⟩, 13) := ⟨⟨by decide +kernel, by decide +kernel⟩, List.mem_of_getElem? (i := 18) (by decide +kernel), List.mem_of_getElem? (i := 428) (by decide +kernel), List.mem_of_getElem? (i := 429) (by decide +kernel)⟩
theorem lw_p37 : lw_okq (⟨"ParoleCache$State", "performWalk", "(IIII)I"⟩, 13) := ⟨⟨by decide +kernel, by decide +kernel⟩, List.mem_of_getElem? (i := 18) (by decide +kernel), List.mem_of_getElem? (i := 439) (by decide +kernel), List.mem_of_getElem? (i := 440) (by decide +kernel)⟩
theorem lw_p38 : lw_okq (⟨"ParoleCache$Trace", "append", "(C)Z"⟩, 2) := ⟨⟨by decide +kernel, by decide +kernel⟩, List.mem_of_getElem? (i := 187) (by decide +kernel), List.mem_of_getElem? (i := 448) (by decide +kernel), List.mem_of_getElem? (i := 449) (by decide +kernel)⟩
theorem lw_p39 : lw_okq (⟨"ParoleCache$Trace", "fault", "()I"⟩, 2) := ⟨⟨by decide +kernel, by decide +kernel⟩, List.mem_of_getElem? (i := 187) (by decide +kernel), List.mem_of_getElem? (i := 461) (by decide +kernel), List.mem_of_getElem? (i := 462) (by decide +kernel)⟩
theorem lw_p40 : lw_okq (⟨"ParoleCache$Trace", "performOn", "(LParoleCache$State;)I"⟩, 2) := ⟨⟨by decide +kernel, by decide +kernel⟩, List.mem_of_getElem? (i := 187) (by decide +kernel), List.mem_of_getElem? (i := 472) (by decide +kernel), List.mem_of_getElem? (i := 473) (by decide +kernel)⟩
theorem lw_p41 : lw_okq (⟨"ParoleCache$State", "newLinesOf", "(I)I"⟩, 13) := ⟨⟨by decide +kernel, by decide +kernel⟩, List.mem_of_getElem? (i := 18) (by decide +kernel), List.mem_of_getElem? (i := 510) (by decide +kernel), List.mem_of_getElem? (i := 511) (by decide +kernel)⟩
theorem lw_p42 : lw_okq (⟨"ParoleCache$Helper", "wishAt", "(I)I"⟩, 16) := ⟨⟨by decide +kernel, by decide +kernel⟩, List.mem_of_getElem? (i := 52) (by decide +kernel), List.mem_of_getElem? (i := 522) (by decide +kernel), List.mem_of_getElem? (i := 523) (by decide +kernel)⟩
theorem lw_p43 : lw_okq (⟨"ParoleCache$State", "newLines", "()I"⟩, 13) := ⟨⟨by decide +kernel, by decide +kernel⟩, List.mem_of_getElem? (i := 18) (by decide +kernel), List.mem_of_getElem? (i := 542) (by decide +kernel), List.mem_of_getElem? (i := 543) (by decide +kernel)⟩
theorem lw_p44 : lw_okq (⟨"ParoleCache$State", "allHours", "()I"⟩, 13) := ⟨⟨by decide +kernel, by decide +kernel⟩, List.mem_of_getElem? (i := 18) (by decide +kernel), List.mem_of_getElem? (i := 547) (by decide +kernel), List.mem_of_getElem? (i := 548) (by decide +kernel)⟩
theorem lw_p45 : lw_okq (⟨"ParoleCache$State", "programsInLog", "()I"⟩, 13) := ⟨⟨by decide +kernel, by decide +kernel⟩, List.mem_of_getElem? (i := 18) (by decide +kernel), List.mem_of_getElem? (i := 551) (by decide +kernel), List.mem_of_getElem? (i := 552) (by decide +kernel)⟩
theorem lw_p46 : lw_okq (⟨"ParoleCacheModel", "copy", "(II)V"⟩, 9) := ⟨⟨by decide +kernel, by decide +kernel⟩, List.mem_of_getElem? (i := 561) (by decide +kernel), List.mem_of_getElem? (i := 600) (by decide +kernel), List.mem_of_getElem? (i := 601) (by decide +kernel)⟩
theorem lw_p47 : lw_okq (⟨"ParoleCacheModel", "record", "()V"⟩, 9) := ⟨⟨by decide +kernel, by decide +kernel⟩, List.mem_of_getElem? (i := 561) (by decide +kernel), List.mem_of_getElem? (i := 612) (by decide +kernel), List.mem_of_getElem? (i := 613) (by decide +kernel)⟩
def lw_privs_3 : List (MethodName × Nat) := [(⟨"ParoleCache$Helper", "reach", "()I"⟩, 16), (⟨"ParoleCache$Helper", "learnStream", "(I)V"⟩, 16), (⟨"ParoleCache$Helper", "streamNear", "(I)I"⟩, 16), (⟨"ParoleCache$State", "fetchWishes", "(I)I"⟩, 13), (⟨"ParoleCache$State", "writeLog", "(IIII)V"⟩, 13), (⟨"ParoleCache$State", "performWalk", "(IIII)I"⟩, 13), (⟨"ParoleCache$Trace", "append", "(C)Z"⟩, 2), (⟨"ParoleCache$Trace", "fault", "()I"⟩, 2), (⟨"ParoleCache$Trace", "performOn", "(LParoleCache$State;)I"⟩, 2), (⟨"ParoleCache$State", "newLinesOf", "(I)I"⟩, 13), (⟨"ParoleCache$Helper", "wishAt", "(I)I"⟩, 16), (⟨"ParoleCache$State", "newLines", "()I"⟩, 13), (⟨"ParoleCache$State", "allHours", "()I"⟩, 13), (⟨"ParoleCache$State", "programsInLog", "()I"⟩, 13), (⟨"ParoleCacheModel", "copy", "(II)V"⟩, 9), (⟨"ParoleCacheModel", "record", "()V"⟩, 9)]
theorem lw_r3 : ∀ q ∈ lw_privs_3, lw_okq q := List.forall_mem_cons.mpr ⟨lw_p32, List.forall_mem_cons.mpr ⟨lw_p33, List.forall_mem_cons.mpr ⟨lw_p34, List.forall_mem_cons.mpr ⟨lw_p35, List.forall_mem_cons.mpr ⟨lw_p36, List.forall_mem_cons.mpr ⟨lw_p37, List.forall_mem_cons.mpr ⟨lw_p38, List.forall_mem_cons.mpr ⟨lw_p39, List.forall_mem_cons.mpr ⟨lw_p40, List.forall_mem_cons.mpr ⟨lw_p41, List.forall_mem_cons.mpr ⟨lw_p42, List.forall_mem_cons.mpr ⟨lw_p43, List.forall_mem_cons.mpr ⟨lw_p44, List.forall_mem_cons.mpr ⟨lw_p45, List.forall_mem_cons.mpr ⟨lw_p46, List.forall_mem_cons.mpr ⟨lw_p47, fun _ h => absurd h List.not_mem_nil⟩⟩⟩⟩⟩⟩⟩⟩⟩⟩⟩⟩⟩⟩⟩⟩
theorem lw_p48 : lw_okq (⟨"ParoleCacheModel", "empty", "()I"⟩, 9) := ⟨⟨by decide +kernel, by decide +kernel⟩, List.mem_of_getElem? (i := 561) (by decide +kernel), List.mem_of_getElem? (i := 624) (by decide +kernel), List.mem_of_getElem? (i := 625) (by decide +kernel)⟩
theorem lw_p49 : lw_okq (⟨"ParoleCacheModel", "linesIn", "()I"⟩, 9) := ⟨⟨by decide +kernel, by decide +kernel⟩, List.mem_of_getElem? (i := 561) (by decide +kernel), List.mem_of_getElem? (i := 628) (by decide +kernel), List.mem_of_getElem? (i := 629) (by decide +kernel)⟩
theorem lw_p50 : lw_okq (⟨"ParoleCacheModel", "throwOut", "(II)V"⟩, 9) := ⟨⟨by decide +kernel, by decide +kernel⟩, List.mem_of_getElem? (i := 561) (by decide +kernel), List.mem_of_getElem? (i := 632) (by decide +kernel), List.mem_of_getElem? (i := 633) (by decide +kernel)⟩
theorem lw_p51 : lw_okq (⟨"ParoleCacheModel", "giveHours", "(II)V"⟩, 9) := ⟨⟨by decide +kernel, by decide +kernel⟩, List.mem_of_getElem? (i := 561) (by decide +kernel), List.mem_of_getElem? (i := 642) (by decide +kernel), List.mem_of_getElem? (i := 643) (by decide +kernel)⟩
theorem lw_p52 : lw_okq (⟨"ParoleCacheModel", "closeUp", "(II)V"⟩, 9) := ⟨⟨by decide +kernel, by decide +kernel⟩, List.mem_of_getElem? (i := 561) (by decide +kernel), List.mem_of_getElem? (i := 646) (by decide +kernel), List.mem_of_getElem? (i := 647) (by decide +kernel)⟩
theorem lw_p53 : lw_okq (⟨"ParoleCacheModel", "forgetLine", "(I)V"⟩, 9) := ⟨⟨by decide +kernel, by decide +kernel⟩, List.mem_of_getElem? (i := 561) (by decide +kernel), List.mem_of_getElem? (i := 650) (by decide +kernel), List.mem_of_getElem? (i := 651) (by decide +kernel)⟩
theorem lw_p54 : lw_okq (⟨"ParoleCacheModel", "outPlaceOf", "(I)I"⟩, 9) := ⟨⟨by decide +kernel, by decide +kernel⟩, List.mem_of_getElem? (i := 561) (by decide +kernel), List.mem_of_getElem? (i := 654) (by decide +kernel), List.mem_of_getElem? (i := 655) (by decide +kernel)⟩
theorem lw_p55 : lw_okq (⟨"ParoleCacheModel", "forgetOut", "(I)V"⟩, 9) := ⟨⟨by decide +kernel, by decide +kernel⟩, List.mem_of_getElem? (i := 561) (by decide +kernel), List.mem_of_getElem? (i := 658) (by decide +kernel), List.mem_of_getElem? (i := 659) (by decide +kernel)⟩
theorem lw_p56 : lw_okq (⟨"ParoleCacheModel", "isHelper", "(I)Z"⟩, 9) := ⟨⟨by decide +kernel, by decide +kernel⟩, List.mem_of_getElem? (i := 561) (by decide +kernel), List.mem_of_getElem? (i := 675) (by decide +kernel), List.mem_of_getElem? (i := 676) (by decide +kernel)⟩
theorem lw_p57 : lw_okq (⟨"ParoleCacheModel", "go", "(II)I"⟩, 9) := ⟨⟨by decide +kernel, by decide +kernel⟩, List.mem_of_getElem? (i := 561) (by decide +kernel), List.mem_of_getElem? (i := 703) (by decide +kernel), List.mem_of_getElem? (i := 704) (by decide +kernel)⟩
theorem lw_p58 : lw_okq (⟨"ParoleCacheModel", "work", "()V"⟩, 9) := ⟨⟨by decide +kernel, by decide +kernel⟩, List.mem_of_getElem? (i := 561) (by decide +kernel), List.mem_of_getElem? (i := 707) (by decide +kernel), List.mem_of_getElem? (i := 708) (by decide +kernel)⟩
theorem lw_p59 : lw_okq (⟨"ParoleCacheModel", "find", "(I)I"⟩, 9) := ⟨⟨by decide +kernel, by decide +kernel⟩, List.mem_of_getElem? (i := 561) (by decide +kernel), List.mem_of_getElem? (i := 711) (by decide +kernel), List.mem_of_getElem? (i := 712) (by decide +kernel)⟩
theorem lw_p60 : lw_okq (⟨"ParoleCacheModel", "placeOf", "(I)I"⟩, 9) := ⟨⟨by decide +kernel, by decide +kernel⟩, List.mem_of_getElem? (i := 561) (by decide +kernel), List.mem_of_getElem? (i := 715) (by decide +kernel), List.mem_of_getElem? (i := 716) (by decide +kernel)⟩
theorem lw_p61 : lw_okq (⟨"ParoleCacheModel", "fetch", "(II)V"⟩, 9) := ⟨⟨by decide +kernel, by decide +kernel⟩, List.mem_of_getElem? (i := 561) (by decide +kernel), List.mem_of_getElem? (i := 719) (by decide +kernel), List.mem_of_getElem? (i := 720) (by decide +kernel)⟩
theorem lw_p62 : lw_okq (⟨"ParoleCacheModel", "append", "(IIII)V"⟩, 9) := ⟨⟨by decide +kernel, by decide +kernel⟩, List.mem_of_getElem? (i := 561) (by decide +kernel), List.mem_of_getElem? (i := 723) (by decide +kernel), List.mem_of_getElem? (i := 724) (by decide +kernel)⟩
theorem lw_p63 : lw_okq (⟨"ParoleCacheModel", "use", "(I)V"⟩, 9) := ⟨⟨by decide +kernel, by decide +kernel⟩, List.mem_of_getElem? (i := 561) (by decide +kernel), List.mem_of_getElem? (i := 727) (by decide +kernel), List.mem_of_getElem? (i := 728) (by decide +kernel)⟩
def lw_privs_4 : List (MethodName × Nat) := [(⟨"ParoleCacheModel", "empty", "()I"⟩, 9), (⟨"ParoleCacheModel", "linesIn", "()I"⟩, 9), (⟨"ParoleCacheModel", "throwOut", "(II)V"⟩, 9), (⟨"ParoleCacheModel", "giveHours", "(II)V"⟩, 9), (⟨"ParoleCacheModel", "closeUp", "(II)V"⟩, 9), (⟨"ParoleCacheModel", "forgetLine", "(I)V"⟩, 9), (⟨"ParoleCacheModel", "outPlaceOf", "(I)I"⟩, 9), (⟨"ParoleCacheModel", "forgetOut", "(I)V"⟩, 9), (⟨"ParoleCacheModel", "isHelper", "(I)Z"⟩, 9), (⟨"ParoleCacheModel", "go", "(II)I"⟩, 9), (⟨"ParoleCacheModel", "work", "()V"⟩, 9), (⟨"ParoleCacheModel", "find", "(I)I"⟩, 9), (⟨"ParoleCacheModel", "placeOf", "(I)I"⟩, 9), (⟨"ParoleCacheModel", "fetch", "(II)V"⟩, 9), (⟨"ParoleCacheModel", "append", "(IIII)V"⟩, 9), (⟨"ParoleCacheModel", "use", "(I)V"⟩, 9)]
theorem lw_r4 : ∀ q ∈ lw_privs_4, lw_okq q := List.forall_mem_cons.mpr ⟨lw_p48, List.forall_mem_cons.mpr ⟨lw_p49, List.forall_mem_cons.mpr ⟨lw_p50, List.forall_mem_cons.mpr ⟨lw_p51, List.forall_mem_cons.mpr ⟨lw_p52, List.forall_mem_cons.mpr ⟨lw_p53, List.forall_mem_cons.mpr ⟨lw_p54, List.forall_mem_cons.mpr ⟨lw_p55, List.forall_mem_cons.mpr ⟨lw_p56, List.forall_mem_cons.mpr ⟨lw_p57, List.forall_mem_cons.mpr ⟨lw_p58, List.forall_mem_cons.mpr ⟨lw_p59, List.forall_mem_cons.mpr ⟨lw_p60, List.forall_mem_cons.mpr ⟨lw_p61, List.forall_mem_cons.mpr ⟨lw_p62, List.forall_mem_cons.mpr ⟨lw_p63, fun _ h => absurd h List.not_mem_nil⟩⟩⟩⟩⟩⟩⟩⟩⟩⟩⟩⟩⟩⟩⟩⟩
theorem lw_p64 : lw_okq (⟨"ParoleCacheModel", "learn", "(IIII)V"⟩, 9) := ⟨⟨by decide +kernel, by decide +kernel⟩, List.mem_of_getElem? (i := 561) (by decide +kernel), List.mem_of_getElem? (i := 731) (by decide +kernel), List.mem_of_getElem? (i := 732) (by decide +kernel)⟩
theorem lw_p65 : lw_okq (⟨"ParoleCacheModel", "learnStride", "(III)V"⟩, 9) := ⟨⟨by decide +kernel, by decide +kernel⟩, List.mem_of_getElem? (i := 561) (by decide +kernel), List.mem_of_getElem? (i := 735) (by decide +kernel), List.mem_of_getElem? (i := 736) (by decide +kernel)⟩
theorem lw_p66 : lw_okq (⟨"ParoleCacheModel", "dropRow", "(II)V"⟩, 9) := ⟨⟨by decide +kernel, by decide +kernel⟩, List.mem_of_getElem? (i := 561) (by decide +kernel), List.mem_of_getElem? (i := 742) (by decide +kernel), List.mem_of_getElem? (i := 743) (by decide +kernel)⟩
theorem lw_p67 : lw_okq (⟨"ParoleCacheModel", "addRow", "(IIIII)V"⟩, 9) := ⟨⟨by decide +kernel, by decide +kernel⟩, List.mem_of_getElem? (i := 561) (by decide +kernel), List.mem_of_getElem? (i := 746) (by decide +kernel), List.mem_of_getElem? (i := 747) (by decide +kernel)⟩
theorem lw_p68 : lw_okq (⟨"ParoleCacheModel", "learnStream", "(II)V"⟩, 9) := ⟨⟨by decide +kernel, by decide +kernel⟩, List.mem_of_getElem? (i := 561) (by decide +kernel), List.mem_of_getElem? (i := 750) (by decide +kernel), List.mem_of_getElem? (i := 751) (by decide +kernel)⟩
theorem lw_p69 : lw_okq (⟨"ParoleCacheModel", "fetchAhead", "(II)I"⟩, 9) := ⟨⟨by decide +kernel, by decide +kernel⟩, List.mem_of_getElem? (i := 561) (by decide +kernel), List.mem_of_getElem? (i := 754) (by decide +kernel), List.mem_of_getElem? (i := 755) (by decide +kernel)⟩
theorem lw_p70 : lw_okq (⟨"ParoleCacheModel", "reachOf", "(I)I"⟩, 9) := ⟨⟨by decide +kernel, by decide +kernel⟩, List.mem_of_getElem? (i := 561) (by decide +kernel), List.mem_of_getElem? (i := 758) (by decide +kernel), List.mem_of_getElem? (i := 759) (by decide +kernel)⟩
theorem lw_p71 : lw_okq (⟨"ParoleCacheModel", "goOn", "(IIII)I"⟩, 9) := ⟨⟨by decide +kernel, by decide +kernel⟩, List.mem_of_getElem? (i := 561) (by decide +kernel), List.mem_of_getElem? (i := 769) (by decide +kernel), List.mem_of_getElem? (i := 770) (by decide +kernel)⟩
theorem lw_p72 : lw_okq (⟨"ParoleCacheModel", "faultOf", "()I"⟩, 9) := ⟨⟨by decide +kernel, by decide +kernel⟩, List.mem_of_getElem? (i := 561) (by decide +kernel), List.mem_of_getElem? (i := 793) (by decide +kernel), List.mem_of_getElem? (i := 794) (by decide +kernel)⟩
theorem lw_p73 : lw_okq (⟨"ParoleCacheModel", "newOf", "(I)I"⟩, 9) := ⟨⟨by decide +kernel, by decide +kernel⟩, List.mem_of_getElem? (i := 561) (by decide +kernel), List.mem_of_getElem? (i := 813) (by decide +kernel), List.mem_of_getElem? (i := 814) (by decide +kernel)⟩
theorem lw_p74 : lw_okq (⟨"ParoleCacheModel", "loggedMany", "()I"⟩, 9) := ⟨⟨by decide +kernel, by decide +kernel⟩, List.mem_of_getElem? (i := 561) (by decide +kernel), List.mem_of_getElem? (i := 829) (by decide +kernel), List.mem_of_getElem? (i := 830) (by decide +kernel)⟩
theorem lw_p75 : lw_okq (⟨"ParoleCacheModel", "hoursOfAll", "()I"⟩, 9) := ⟨⟨by decide +kernel, by decide +kernel⟩, List.mem_of_getElem? (i := 561) (by decide +kernel), List.mem_of_getElem? (i := 837) (by decide +kernel), List.mem_of_getElem? (i := 838) (by decide +kernel)⟩
theorem lw_p76 : lw_okq (⟨"ParoleCacheModel", "programsLogged", "()I"⟩, 9) := ⟨⟨by decide +kernel, by decide +kernel⟩, List.mem_of_getElem? (i := 561) (by decide +kernel), List.mem_of_getElem? (i := 841) (by decide +kernel), List.mem_of_getElem? (i := 842) (by decide +kernel)⟩
def lw_privs_5 : List (MethodName × Nat) := [(⟨"ParoleCacheModel", "learn", "(IIII)V"⟩, 9), (⟨"ParoleCacheModel", "learnStride", "(III)V"⟩, 9), (⟨"ParoleCacheModel", "dropRow", "(II)V"⟩, 9), (⟨"ParoleCacheModel", "addRow", "(IIIII)V"⟩, 9), (⟨"ParoleCacheModel", "learnStream", "(II)V"⟩, 9), (⟨"ParoleCacheModel", "fetchAhead", "(II)I"⟩, 9), (⟨"ParoleCacheModel", "reachOf", "(I)I"⟩, 9), (⟨"ParoleCacheModel", "goOn", "(IIII)I"⟩, 9), (⟨"ParoleCacheModel", "faultOf", "()I"⟩, 9), (⟨"ParoleCacheModel", "newOf", "(I)I"⟩, 9), (⟨"ParoleCacheModel", "loggedMany", "()I"⟩, 9), (⟨"ParoleCacheModel", "hoursOfAll", "()I"⟩, 9), (⟨"ParoleCacheModel", "programsLogged", "()I"⟩, 9)]
theorem lw_r5 : ∀ q ∈ lw_privs_5, lw_okq q := List.forall_mem_cons.mpr ⟨lw_p64, List.forall_mem_cons.mpr ⟨lw_p65, List.forall_mem_cons.mpr ⟨lw_p66, List.forall_mem_cons.mpr ⟨lw_p67, List.forall_mem_cons.mpr ⟨lw_p68, List.forall_mem_cons.mpr ⟨lw_p69, List.forall_mem_cons.mpr ⟨lw_p70, List.forall_mem_cons.mpr ⟨lw_p71, List.forall_mem_cons.mpr ⟨lw_p72, List.forall_mem_cons.mpr ⟨lw_p73, List.forall_mem_cons.mpr ⟨lw_p74, List.forall_mem_cons.mpr ⟨lw_p75, List.forall_mem_cons.mpr ⟨lw_p76, fun _ h => absurd h List.not_mem_nil⟩⟩⟩⟩⟩⟩⟩⟩⟩⟩⟩⟩⟩
def lw_privs : List (MethodName × Nat) := lw_privs_1 ++ (lw_privs_2 ++ (lw_privs_3 ++ (lw_privs_4 ++ (lw_privs_5))))
def lw_tbl : List Cond := k2_sels lw_privs ++ tables_1
theorem lw_privs_ok : ∀ q ∈ lw_privs, lw_okq q := by
  show ∀ q ∈ lw_privs_1 ++ (lw_privs_2 ++ (lw_privs_3 ++ (lw_privs_4 ++ (lw_privs_5)))), lw_okq q
  exact List.forall_mem_append.mpr ⟨lw_r1, List.forall_mem_append.mpr ⟨lw_r2, List.forall_mem_append.mpr ⟨lw_r3, List.forall_mem_append.mpr ⟨lw_r4, lw_r5⟩⟩⟩⟩
-- ===== end of PART A; then your names; then what follows =====
end
section
def RX0 : String := "ParoleCache$Helper"
def TX0 : u_T := fun k => match k with
  | 0 => ("ParoleCache$Helper", "table", "LParoleCache$Rows;", true)
  | 1 => ("ParoleCache$Helper", "wishes", "[I", true)
  | 2 => ("ParoleCache$Helper", "wishCount", "I", false)
  | 3 => ("ParoleCache$Helper", "kind", "I", false)
  | 4 => ("ParoleCache$Helper", "degree", "I", false)
  | 5 => ("ParoleCache$Helper", "price", "I", false)
  | 6 => ("ParoleCache$Helper", "state", "I", false)
  | 7 => ("ParoleCache$Helper", "hours", "I", false)
  | 8 => ("ParoleCache$Helper", "linesLeft", "I", false)
  | 9 => ("ParoleCache$Helper", "fetched", "I", false)
  | 10 => ("ParoleCache$Helper", "used", "I", false)
  | 11 => ("ParoleCache$Helper", "vain", "I", false)
  | 12 => ("ParoleCache$Helper", "harms", "I", false)
  | 13 => ("ParoleCache$Helper", "worked", "I", false)
  | 14 => ("ParoleCache$Helper", "pardoned", "I", false)
  | _ => ("ParoleCache$Helper", "probations", "I", false)
def tyX0 : Nat → FieldType := fun k => match k with
  | 0 => .object "ParoleCache$Rows"
  | 1 => .array .int
  | 2 => .int
  | 3 => .int
  | 4 => .int
  | 5 => .int
  | 6 => .int
  | 7 => .int
  | 8 => .int
  | 9 => .int
  | 10 => .int
  | 11 => .int
  | 12 => .int
  | 13 => .int
  | 14 => .int
  | _ => .int
abbrev wsX00 : List Cond := u_ws RX0 TX0 16
theorem nmX0 : ∀ a, a < 16 → ∀ b, b < 16 → a ≠ b → (TX0 a).2.1 ≠ (TX0 b).2.1 := by decide +kernel
theorem tyX0_ok : ∀ k, k < 16 → parseFieldDescriptor (TX0 k).2.2.1 = some (tyX0 k) := by decide +kernel
abbrev cX0_init : ByteArray := prog_2_method_1_code
def yX0_init : MethodName := ⟨RX0, "<init>", "()V"⟩
abbrev cX0_begin : ByteArray := prog_2_method_2_code
def yX0_begin : MethodName := ⟨RX0, "begin", "(III)V"⟩
abbrev cX0_copyFrom : ByteArray := prog_2_method_3_code
def yX0_copyFrom : MethodName := ⟨RX0, "copyFrom", "(LParoleCache$Helper;)V"⟩
abbrev cX0_reach : ByteArray := prog_2_method_4_code
def yX0_reach : MethodName := ⟨RX0, "reach", "()I"⟩
abbrev cX0_sentence : ByteArray := prog_2_method_5_code
def yX0_sentence : MethodName := ⟨RX0, "sentence", "(I)V"⟩
abbrev cX0_workOneHour : ByteArray := prog_2_method_6_code
def yX0_workOneHour : MethodName := ⟨RX0, "workOneHour", "(I)V"⟩
abbrev cX0_lineWasUsed : ByteArray := prog_2_method_7_code
def yX0_lineWasUsed : MethodName := ⟨RX0, "lineWasUsed", "()V"⟩
abbrev cX0_release : ByteArray := prog_2_method_8_code
def yX0_release : MethodName := ⟨RX0, "release", "()I"⟩
abbrev cX0_learn : ByteArray := prog_2_method_9_code
def yX0_learn : MethodName := ⟨RX0, "learn", "(III)V"⟩
abbrev cX0_learnStride : ByteArray := prog_2_method_10_code
def yX0_learnStride : MethodName := ⟨RX0, "learnStride", "(II)V"⟩
abbrev cX0_learnStream : ByteArray := prog_2_method_11_code
def yX0_learnStream : MethodName := ⟨RX0, "learnStream", "(I)V"⟩
abbrev cX0_streamNear : ByteArray := prog_2_method_12_code
def yX0_streamNear : MethodName := ⟨RX0, "streamNear", "(I)I"⟩
abbrev cX0_addRow : ByteArray := prog_2_method_13_code
def yX0_addRow : MethodName := ⟨RX0, "addRow", "(III)V"⟩
abbrev cX0_updateRow : ByteArray := prog_2_method_14_code
def yX0_updateRow : MethodName := ⟨RX0, "updateRow", "(IIII)V"⟩
abbrev cX0_wish : ByteArray := prog_2_method_15_code
def yX0_wish : MethodName := ⟨RX0, "wish", "(II)V"⟩
abbrev cX0_wishAt : ByteArray := prog_2_method_16_code
def yX0_wishAt : MethodName := ⟨RX0, "wishAt", "(I)I"⟩
def RX1 : String := "ParoleCache$Rows"
def TX1 : u_T := fun k => match k with
  | 0 => ("ParoleCache$Rows", "capacity", "I", true)
  | 1 => ("ParoleCache$Rows", "columns", "I", true)
  | 2 => ("ParoleCache$Rows", "cells", "[I", true)
  | _ => ("ParoleCache$Rows", "size", "I", false)
def tyX1 : Nat → FieldType := fun k => match k with
  | 0 => .int
  | 1 => .int
  | 2 => .array .int
  | _ => .int
abbrev wsX10 : List Cond := u_ws RX1 TX1 4
theorem nmX1 : ∀ a, a < 4 → ∀ b, b < 4 → a ≠ b → (TX1 a).2.1 ≠ (TX1 b).2.1 := by decide +kernel
theorem tyX1_ok : ∀ k, k < 4 → parseFieldDescriptor (TX1 k).2.2.1 = some (tyX1 k) := by decide +kernel
abbrev cX1_init : ByteArray := prog_3_method_1_code
def yX1_init : MethodName := ⟨RX1, "<init>", "(II)V"⟩
abbrev cX1_copyFrom : ByteArray := prog_3_method_2_code
def yX1_copyFrom : MethodName := ⟨RX1, "copyFrom", "(LParoleCache$Rows;)V"⟩
abbrev cX1_holds : ByteArray := prog_3_method_3_code
def yX1_holds : MethodName := ⟨RX1, "holds", "(II)Z"⟩
abbrev cX1_get : ByteArray := prog_3_method_4_code
def yX1_get : MethodName := ⟨RX1, "get", "(II)I"⟩
abbrev cX1_put : ByteArray := prog_3_method_5_code
def yX1_put : MethodName := ⟨RX1, "put", "(III)V"⟩
abbrev cX1_find : ByteArray := prog_3_method_6_code
def yX1_find : MethodName := ⟨RX1, "find", "(I)I"⟩
abbrev cX1_touch : ByteArray := prog_3_method_7_code
def yX1_touch : MethodName := ⟨RX1, "touch", "(I)V"⟩
abbrev cX1_remove : ByteArray := prog_3_method_8_code
def yX1_remove : MethodName := ⟨RX1, "remove", "(I)V"⟩
abbrev cX1_open : ByteArray := prog_3_method_9_code
def yX1_open : MethodName := ⟨RX1, "open", "(I)I"⟩
def RX2 : String := "ParoleCache$State"
def TX2 : u_T := fun k => match k with
  | 0 => ("ParoleCache$State", "sets", "[LParoleCache$Rows;", true)
  | 1 => ("ParoleCache$State", "thrown", "LParoleCache$Rows;", true)
  | 2 => ("ParoleCache$State", "helpers", "[LParoleCache$Helper;", true)
  | 3 => ("ParoleCache$State", "log", "LParoleCache$Rows;", true)
  | 4 => ("ParoleCache$State", "setCount", "I", false)
  | 5 => ("ParoleCache$State", "wayCount", "I", false)
  | 6 => ("ParoleCache$State", "helperCount", "I", false)
  | 7 => ("ParoleCache$State", "trial", "I", false)
  | 8 => ("ParoleCache$State", "accesses", "I", false)
  | 9 => ("ParoleCache$State", "hits", "I", false)
  | 10 => ("ParoleCache$State", "newHits", "I", false)
  | 11 => ("ParoleCache$State", "fetchedAhead", "I", false)
  | _ => ("ParoleCache$State", "thrownTotal", "I", false)
def tyX2 : Nat → FieldType := fun k => match k with
  | 0 => .array (.object "ParoleCache$Rows")
  | 1 => .object "ParoleCache$Rows"
  | 2 => .array (.object "ParoleCache$Helper")
  | 3 => .object "ParoleCache$Rows"
  | 4 => .int
  | 5 => .int
  | 6 => .int
  | 7 => .int
  | 8 => .int
  | 9 => .int
  | 10 => .int
  | 11 => .int
  | _ => .int
abbrev wsX20 : List Cond := u_ws RX2 TX2 13
theorem nmX2 : ∀ a, a < 13 → ∀ b, b < 13 → a ≠ b → (TX2 a).2.1 ≠ (TX2 b).2.1 := by decide +kernel
theorem tyX2_ok : ∀ k, k < 13 → parseFieldDescriptor (TX2 k).2.2.1 = some (tyX2 k) := by decide +kernel
abbrev cX2_init : ByteArray := prog_4_method_1_code
def yX2_init : MethodName := ⟨RX2, "<init>", "()V"⟩
abbrev cX2_copyFrom : ByteArray := prog_4_method_2_code
def yX2_copyFrom : MethodName := ⟨RX2, "copyFrom", "(LParoleCache$State;)V"⟩
abbrev cX2_setAt : ByteArray := prog_4_method_3_code
def yX2_setAt : MethodName := ⟨RX2, "setAt", "(I)LParoleCache$Rows;"⟩
abbrev cX2_setOf : ByteArray := prog_4_method_4_code
def yX2_setOf : MethodName := ⟨RX2, "setOf", "(I)LParoleCache$Rows;"⟩
abbrev cX2_helperAt : ByteArray := prog_4_method_5_code
def yX2_helperAt : MethodName := ⟨RX2, "helperAt", "(I)LParoleCache$Helper;"⟩
abbrev cX2_hire : ByteArray := prog_4_method_6_code
def yX2_hire : MethodName := ⟨RX2, "hire", "(III)I"⟩
abbrev cX2_perform : ByteArray := prog_4_method_7_code
def yX2_perform : MethodName := ⟨RX2, "perform", "(II)I"⟩
abbrev cX2_performWalk : ByteArray := prog_4_method_8_code
def yX2_performWalk : MethodName := ⟨RX2, "performWalk", "(IIII)I"⟩
abbrev cX2_serve : ByteArray := prog_4_method_9_code
def yX2_serve : MethodName := ⟨RX2, "serve", "(I)I"⟩
abbrev cX2_punishThrower : ByteArray := prog_4_method_10_code
def yX2_punishThrower : MethodName := ⟨RX2, "punishThrower", "(I)V"⟩
abbrev cX2_fetchWishes : ByteArray := prog_4_method_11_code
def yX2_fetchWishes : MethodName := ⟨RX2, "fetchWishes", "(I)I"⟩
abbrev cX2_fetch : ByteArray := prog_4_method_12_code
def yX2_fetch : MethodName := ⟨RX2, "fetch", "(II)V"⟩
abbrev cX2_throwOldest : ByteArray := prog_4_method_13_code
def yX2_throwOldest : MethodName := ⟨RX2, "throwOldest", "(LParoleCache$Rows;I)V"⟩
abbrev cX2_throwAllOut : ByteArray := prog_4_method_14_code
def yX2_throwAllOut : MethodName := ⟨RX2, "throwAllOut", "()I"⟩
abbrev cX2_writeLog : ByteArray := prog_4_method_15_code
def yX2_writeLog : MethodName := ⟨RX2, "writeLog", "(IIII)V"⟩
abbrev cX2_linesInCache : ByteArray := prog_4_method_16_code
def yX2_linesInCache : MethodName := ⟨RX2, "linesInCache", "()I"⟩
abbrev cX2_newLinesOf : ByteArray := prog_4_method_17_code
def yX2_newLinesOf : MethodName := ⟨RX2, "newLinesOf", "(I)I"⟩
abbrev cX2_newLines : ByteArray := prog_4_method_18_code
def yX2_newLines : MethodName := ⟨RX2, "newLines", "()I"⟩
abbrev cX2_allHours : ByteArray := prog_4_method_19_code
def yX2_allHours : MethodName := ⟨RX2, "allHours", "()I"⟩
abbrev cX2_programsInLog : ByteArray := prog_4_method_20_code
def yX2_programsInLog : MethodName := ⟨RX2, "programsInLog", "()I"⟩
def RX3 : String := "ParoleCache$Trace"
def TX3 : u_T := fun k => match k with
  | 0 => ("ParoleCache$Trace", "signs", "[C", true)
  | _ => ("ParoleCache$Trace", "length", "I", false)
def tyX3 : Nat → FieldType := fun k => match k with
  | 0 => .array .char
  | _ => .int
abbrev wsX30 : List Cond := u_ws RX3 TX3 2
theorem nmX3 : ∀ a, a < 2 → ∀ b, b < 2 → a ≠ b → (TX3 a).2.1 ≠ (TX3 b).2.1 := by decide +kernel
theorem tyX3_ok : ∀ k, k < 2 → parseFieldDescriptor (TX3 k).2.2.1 = some (tyX3 k) := by decide +kernel
abbrev cX3_init : ByteArray := prog_5_method_1_code
def yX3_init : MethodName := ⟨RX3, "<init>", "()V"⟩
abbrev cX3_append : ByteArray := prog_5_method_2_code
def yX3_append : MethodName := ⟨RX3, "append", "(C)Z"⟩
abbrev cX3_fault : ByteArray := prog_5_method_3_code
def yX3_fault : MethodName := ⟨RX3, "fault", "()I"⟩
abbrev cX3_dueBehind : ByteArray := prog_5_method_4_code
def yX3_dueBehind : MethodName := ⟨RX3, "dueBehind", "(ICI)I"⟩
abbrev cX3_isDigit : ByteArray := prog_5_method_5_code
def yX3_isDigit : MethodName := ⟨RX3, "isDigit", "(C)Z"⟩
abbrev cX3_performOn : ByteArray := prog_5_method_6_code
def yX3_performOn : MethodName := ⟨RX3, "performOn", "(LParoleCache$State;)I"⟩
def RX4 : String := "ParoleCache"
def TX4 : u_T := fun k => match k with
  | 0 => ("ParoleCache", "current", "LParoleCache$State;", true)
  | 1 => ("ParoleCache", "scratch", "LParoleCache$State;", true)
  | 2 => ("ParoleCache", "snapshot", "LParoleCache$State;", true)
  | 3 => ("ParoleCache", "history", "[LParoleCache$State;", true)
  | 4 => ("ParoleCache", "trace", "LParoleCache$Trace;", true)
  | 5 => ("ParoleCache", "hasSnapshot", "Z", false)
  | _ => ("ParoleCache", "historySize", "I", false)
def tyX4 : Nat → FieldType := fun k => match k with
  | 0 => .object "ParoleCache$State"
  | 1 => .object "ParoleCache$State"
  | 2 => .object "ParoleCache$State"
  | 3 => .array (.object "ParoleCache$State")
  | 4 => .object "ParoleCache$Trace"
  | 5 => .boolean
  | _ => .int
abbrev wsX40 : List Cond := u_ws RX4 TX4 7
theorem nmX4 : ∀ a, a < 7 → ∀ b, b < 7 → a ≠ b → (TX4 a).2.1 ≠ (TX4 b).2.1 := by decide +kernel
theorem tyX4_ok : ∀ k, k < 7 → parseFieldDescriptor (TX4 k).2.2.1 = some (tyX4 k) := by decide +kernel
abbrev cX4_init : ByteArray := prog_1_method_1_code
def yX4_init : MethodName := ⟨RX4, "<init>", "()V"⟩
abbrev cX4_shape : ByteArray := prog_1_method_2_code
def yX4_shape : MethodName := ⟨RX4, "shape", "(II)I"⟩
abbrev cX4_flush : ByteArray := prog_1_method_3_code
def yX4_flush : MethodName := ⟨RX4, "flush", "()I"⟩
abbrev cX4_addHelper : ByteArray := prog_1_method_4_code
def yX4_addHelper : MethodName := ⟨RX4, "addHelper", "(III)I"⟩
abbrev cX4_setDegree : ByteArray := prog_1_method_5_code
def yX4_setDegree : MethodName := ⟨RX4, "setDegree", "(II)I"⟩
abbrev cX4_setTrial : ByteArray := prog_1_method_6_code
def yX4_setTrial : MethodName := ⟨RX4, "setTrial", "(I)I"⟩
abbrev cX4_pardon : ByteArray := prog_1_method_7_code
def yX4_pardon : MethodName := ⟨RX4, "pardon", "(I)I"⟩
abbrev cX4_forget : ByteArray := prog_1_method_8_code
def yX4_forget : MethodName := ⟨RX4, "forget", "(I)I"⟩
abbrev cX4_access : ByteArray := prog_1_method_9_code
def yX4_access : MethodName := ⟨RX4, "access", "(II)I"⟩
abbrev cX4_walk : ByteArray := prog_1_method_10_code
def yX4_walk : MethodName := ⟨RX4, "walk", "(IIII)I"⟩
abbrev cX4_type : ByteArray := prog_1_method_11_code
def yX4_type : MethodName := ⟨RX4, "type", "(C)I"⟩
abbrev cX4_clearText : ByteArray := prog_1_method_12_code
def yX4_clearText : MethodName := ⟨RX4, "clearText", "()I"⟩
abbrev cX4_run : ByteArray := prog_1_method_13_code
def yX4_run : MethodName := ⟨RX4, "run", "()I"⟩
abbrev cX4_undo : ByteArray := prog_1_method_14_code
def yX4_undo : MethodName := ⟨RX4, "undo", "()I"⟩
abbrev cX4_keep : ByteArray := prog_1_method_15_code
def yX4_keep : MethodName := ⟨RX4, "keep", "()I"⟩
abbrev cX4_restore : ByteArray := prog_1_method_16_code
def yX4_restore : MethodName := ⟨RX4, "restore", "()I"⟩
abbrev cX4_line : ByteArray := prog_1_method_17_code
def yX4_line : MethodName := ⟨RX4, "line", "(II)I"⟩
abbrev cX4_inSet : ByteArray := prog_1_method_18_code
def yX4_inSet : MethodName := ⟨RX4, "inSet", "(II)I"⟩
abbrev cX4_thrownOut : ByteArray := prog_1_method_19_code
def yX4_thrownOut : MethodName := ⟨RX4, "thrownOut", "(I)I"⟩
abbrev cX4_helper : ByteArray := prog_1_method_20_code
def yX4_helper : MethodName := ⟨RX4, "helper", "(II)I"⟩
abbrev cX4_table : ByteArray := prog_1_method_21_code
def yX4_table : MethodName := ⟨RX4, "table", "(III)I"⟩
abbrev cX4_wouldAsk : ByteArray := prog_1_method_22_code
def yX4_wouldAsk : MethodName := ⟨RX4, "wouldAsk", "(IIII)I"⟩
abbrev cX4_wouldHit : ByteArray := prog_1_method_23_code
def yX4_wouldHit : MethodName := ⟨RX4, "wouldHit", "(IIII)I"⟩
abbrev cX4_bestHelper : ByteArray := prog_1_method_24_code
def yX4_bestHelper : MethodName := ⟨RX4, "bestHelper", "()I"⟩
abbrev cX4_logged : ByteArray := prog_1_method_25_code
def yX4_logged : MethodName := ⟨RX4, "logged", "(II)I"⟩
abbrev cX4_count : ByteArray := prog_1_method_26_code
def yX4_count : MethodName := ⟨RX4, "count", "(I)I"⟩
abbrev cX4_isOutside : ByteArray := prog_1_method_27_code
def yX4_isOutside : MethodName := ⟨RX4, "isOutside", "(III)Z"⟩
abbrev cX4_isWalk : ByteArray := prog_1_method_28_code
def yX4_isWalk : MethodName := ⟨RX4, "isWalk", "(IIII)Z"⟩
abbrev cX4_remember : ByteArray := prog_1_method_29_code
def yX4_remember : MethodName := ⟨RX4, "remember", "()V"⟩
def RX5 : String := "ParoleCacheModel"
def TX5 : u_T := fun k => match k with
  | 0 => ("ParoleCacheModel", "row", "[I", true)
  | 1 => ("ParoleCacheModel", "states", "I", false)
  | 2 => ("ParoleCacheModel", "isKept", "Z", false)
  | 3 => ("ParoleCacheModel", "text", "[I", true)
  | 4 => ("ParoleCacheModel", "length", "I", false)
  | 5 => ("ParoleCacheModel", "askedStep", "I", false)
  | 6 => ("ParoleCacheModel", "watched", "I", false)
  | 7 => ("ParoleCacheModel", "asked", "[I", true)
  | _ => ("ParoleCacheModel", "askedMany", "I", false)
def tyX5 : Nat → FieldType := fun k => match k with
  | 0 => .array .int
  | 1 => .int
  | 2 => .boolean
  | 3 => .array .int
  | 4 => .int
  | 5 => .int
  | 6 => .int
  | 7 => .array .int
  | _ => .int
abbrev wsX50 : List Cond := u_ws RX5 TX5 9
theorem nmX5 : ∀ a, a < 9 → ∀ b, b < 9 → a ≠ b → (TX5 a).2.1 ≠ (TX5 b).2.1 := by decide +kernel
theorem tyX5_ok : ∀ k, k < 9 → parseFieldDescriptor (TX5 k).2.2.1 = some (tyX5 k) := by decide +kernel
abbrev cX5_init : ByteArray := prog_7_method_1_code
def yX5_init : MethodName := ⟨RX5, "<init>", "()V"⟩
abbrev cX5_in : ByteArray := prog_7_method_2_code
def yX5_in : MethodName := ⟨RX5, "in", "(III)Z"⟩
abbrev cX5_isLine : ByteArray := prog_7_method_3_code
def yX5_isLine : MethodName := ⟨RX5, "isLine", "(I)Z"⟩
abbrev cX5_isHelper : ByteArray := prog_7_method_4_code
def yX5_isHelper : MethodName := ⟨RX5, "isHelper", "(I)Z"⟩
abbrev cX5_of : ByteArray := prog_7_method_5_code
def yX5_of : MethodName := ⟨RX5, "of", "(II)I"⟩
abbrev cX5_copy : ByteArray := prog_7_method_6_code
def yX5_copy : MethodName := ⟨RX5, "copy", "(II)V"⟩
abbrev cX5_record : ByteArray := prog_7_method_7_code
def yX5_record : MethodName := ⟨RX5, "record", "()V"⟩
abbrev cX5_undo : ByteArray := prog_7_method_8_code
def yX5_undo : MethodName := ⟨RX5, "undo", "()I"⟩
abbrev cX5_keep : ByteArray := prog_7_method_9_code
def yX5_keep : MethodName := ⟨RX5, "keep", "()I"⟩
abbrev cX5_restore : ByteArray := prog_7_method_10_code
def yX5_restore : MethodName := ⟨RX5, "restore", "()I"⟩
abbrev cX5_cellOf : ByteArray := prog_7_method_11_code
def yX5_cellOf : MethodName := ⟨RX5, "cellOf", "(II)I"⟩
abbrev cX5_placeOf : ByteArray := prog_7_method_12_code
def yX5_placeOf : MethodName := ⟨RX5, "placeOf", "(I)I"⟩
abbrev cX5_outPlaceOf : ByteArray := prog_7_method_13_code
def yX5_outPlaceOf : MethodName := ⟨RX5, "outPlaceOf", "(I)I"⟩
abbrev cX5_forgetOut : ByteArray := prog_7_method_14_code
def yX5_forgetOut : MethodName := ⟨RX5, "forgetOut", "(I)V"⟩
abbrev cX5_forgetLine : ByteArray := prog_7_method_15_code
def yX5_forgetLine : MethodName := ⟨RX5, "forgetLine", "(I)V"⟩
abbrev cX5_giveHours : ByteArray := prog_7_method_16_code
def yX5_giveHours : MethodName := ⟨RX5, "giveHours", "(II)V"⟩
abbrev cX5_closeUp : ByteArray := prog_7_method_17_code
def yX5_closeUp : MethodName := ⟨RX5, "closeUp", "(II)V"⟩
abbrev cX5_append : ByteArray := prog_7_method_18_code
def yX5_append : MethodName := ⟨RX5, "append", "(IIII)V"⟩
abbrev cX5_throwOut : ByteArray := prog_7_method_19_code
def yX5_throwOut : MethodName := ⟨RX5, "throwOut", "(II)V"⟩
abbrev cX5_fetch : ByteArray := prog_7_method_20_code
def yX5_fetch : MethodName := ⟨RX5, "fetch", "(II)V"⟩
abbrev cX5_linesIn : ByteArray := prog_7_method_21_code
def yX5_linesIn : MethodName := ⟨RX5, "linesIn", "()I"⟩
abbrev cX5_empty : ByteArray := prog_7_method_22_code
def yX5_empty : MethodName := ⟨RX5, "empty", "()I"⟩
abbrev cX5_shape : ByteArray := prog_7_method_23_code
def yX5_shape : MethodName := ⟨RX5, "shape", "(II)I"⟩
abbrev cX5_flush : ByteArray := prog_7_method_24_code
def yX5_flush : MethodName := ⟨RX5, "flush", "()I"⟩
abbrev cX5_addHelper : ByteArray := prog_7_method_25_code
def yX5_addHelper : MethodName := ⟨RX5, "addHelper", "(III)I"⟩
abbrev cX5_setDegree : ByteArray := prog_7_method_26_code
def yX5_setDegree : MethodName := ⟨RX5, "setDegree", "(II)I"⟩
abbrev cX5_setTrial : ByteArray := prog_7_method_27_code
def yX5_setTrial : MethodName := ⟨RX5, "setTrial", "(I)I"⟩
abbrev cX5_pardon : ByteArray := prog_7_method_28_code
def yX5_pardon : MethodName := ⟨RX5, "pardon", "(I)I"⟩
abbrev cX5_forget : ByteArray := prog_7_method_29_code
def yX5_forget : MethodName := ⟨RX5, "forget", "(I)I"⟩
abbrev cX5_reachOf : ByteArray := prog_7_method_30_code
def yX5_reachOf : MethodName := ⟨RX5, "reachOf", "(I)I"⟩
abbrev cX5_rowOf : ByteArray := prog_7_method_31_code
def yX5_rowOf : MethodName := ⟨RX5, "rowOf", "(II)I"⟩
abbrev cX5_dropRow : ByteArray := prog_7_method_32_code
def yX5_dropRow : MethodName := ⟨RX5, "dropRow", "(II)V"⟩
abbrev cX5_addRow : ByteArray := prog_7_method_33_code
def yX5_addRow : MethodName := ⟨RX5, "addRow", "(IIIII)V"⟩
abbrev cX5_learnStride : ByteArray := prog_7_method_34_code
def yX5_learnStride : MethodName := ⟨RX5, "learnStride", "(III)V"⟩
abbrev cX5_learnStream : ByteArray := prog_7_method_35_code
def yX5_learnStream : MethodName := ⟨RX5, "learnStream", "(II)V"⟩
abbrev cX5_learn : ByteArray := prog_7_method_36_code
def yX5_learn : MethodName := ⟨RX5, "learn", "(IIII)V"⟩
abbrev cX5_fetchAhead : ByteArray := prog_7_method_37_code
def yX5_fetchAhead : MethodName := ⟨RX5, "fetchAhead", "(II)I"⟩
abbrev cX5_work : ByteArray := prog_7_method_38_code
def yX5_work : MethodName := ⟨RX5, "work", "()V"⟩
abbrev cX5_use : ByteArray := prog_7_method_39_code
def yX5_use : MethodName := ⟨RX5, "use", "(I)V"⟩
abbrev cX5_find : ByteArray := prog_7_method_40_code
def yX5_find : MethodName := ⟨RX5, "find", "(I)I"⟩
abbrev cX5_go : ByteArray := prog_7_method_41_code
def yX5_go : MethodName := ⟨RX5, "go", "(II)I"⟩
abbrev cX5_isAccess : ByteArray := prog_7_method_42_code
def yX5_isAccess : MethodName := ⟨RX5, "isAccess", "(II)Z"⟩
abbrev cX5_access : ByteArray := prog_7_method_43_code
def yX5_access : MethodName := ⟨RX5, "access", "(II)I"⟩
abbrev cX5_isWalk : ByteArray := prog_7_method_44_code
def yX5_isWalk : MethodName := ⟨RX5, "isWalk", "(IIII)Z"⟩
abbrev cX5_goOn : ByteArray := prog_7_method_45_code
def yX5_goOn : MethodName := ⟨RX5, "goOn", "(IIII)I"⟩
abbrev cX5_walk : ByteArray := prog_7_method_46_code
def yX5_walk : MethodName := ⟨RX5, "walk", "(IIII)I"⟩
abbrev cX5_wouldHit : ByteArray := prog_7_method_47_code
def yX5_wouldHit : MethodName := ⟨RX5, "wouldHit", "(IIII)I"⟩
abbrev cX5_wouldAsk : ByteArray := prog_7_method_48_code
def yX5_wouldAsk : MethodName := ⟨RX5, "wouldAsk", "(IIII)I"⟩
abbrev cX5_type : ByteArray := prog_7_method_49_code
def yX5_type : MethodName := ⟨RX5, "type", "(C)I"⟩
abbrev cX5_clearText : ByteArray := prog_7_method_50_code
def yX5_clearText : MethodName := ⟨RX5, "clearText", "()I"⟩
abbrev cX5_faultOf : ByteArray := prog_7_method_51_code
def yX5_faultOf : MethodName := ⟨RX5, "faultOf", "()I"⟩
abbrev cX5_run : ByteArray := prog_7_method_52_code
def yX5_run : MethodName := ⟨RX5, "run", "()I"⟩
abbrev cX5_line : ByteArray := prog_7_method_53_code
def yX5_line : MethodName := ⟨RX5, "line", "(II)I"⟩
abbrev cX5_inSet : ByteArray := prog_7_method_54_code
def yX5_inSet : MethodName := ⟨RX5, "inSet", "(II)I"⟩
abbrev cX5_thrownOut : ByteArray := prog_7_method_55_code
def yX5_thrownOut : MethodName := ⟨RX5, "thrownOut", "(I)I"⟩
abbrev cX5_newOf : ByteArray := prog_7_method_56_code
def yX5_newOf : MethodName := ⟨RX5, "newOf", "(I)I"⟩
abbrev cX5_helper : ByteArray := prog_7_method_57_code
def yX5_helper : MethodName := ⟨RX5, "helper", "(II)I"⟩
abbrev cX5_table : ByteArray := prog_7_method_58_code
def yX5_table : MethodName := ⟨RX5, "table", "(III)I"⟩
abbrev cX5_bestHelper : ByteArray := prog_7_method_59_code
def yX5_bestHelper : MethodName := ⟨RX5, "bestHelper", "()I"⟩
abbrev cX5_loggedMany : ByteArray := prog_7_method_60_code
def yX5_loggedMany : MethodName := ⟨RX5, "loggedMany", "()I"⟩
abbrev cX5_logged : ByteArray := prog_7_method_61_code
def yX5_logged : MethodName := ⟨RX5, "logged", "(II)I"⟩
abbrev cX5_programsLogged : ByteArray := prog_7_method_62_code
def yX5_programsLogged : MethodName := ⟨RX5, "programsLogged", "()I"⟩
abbrev cX5_hoursOfAll : ByteArray := prog_7_method_63_code
def yX5_hoursOfAll : MethodName := ⟨RX5, "hoursOfAll", "()I"⟩
abbrev cX5_count : ByteArray := prog_7_method_64_code
def yX5_count : MethodName := ⟨RX5, "count", "(I)I"⟩
def RJ6 : String := "java/lang/Integer"
def TJ6 : u_T := fun k => match k with
  | _ => ("", "", "", false)
def tyJ6 : Nat → FieldType := fun k => match k with
  | _ => .int
abbrev wsJ60 : List Cond := u_ws RJ6 TJ6 0
theorem nmJ6 : ∀ a, a < 0 → ∀ b, b < 0 → a ≠ b → (TJ6 a).2.1 ≠ (TJ6 b).2.1 := by decide +kernel
theorem tyJ6_ok : ∀ k, k < 0 → parseFieldDescriptor (TJ6 k).2.2.1 = some (tyJ6 k) := by decide +kernel
abbrev cJ6_bitCount_0f7a4 : ByteArray := prog_8_method_49_code
def yJ6_bitCount_0f7a4 : MethodName := ⟨RJ6, "bitCount", "(I)I"⟩
def RJ9 : String := "java/lang/Math"
def TJ9 : u_T := fun k => match k with
  | _ => ("", "", "", false)
def tyJ9 : Nat → FieldType := fun k => match k with
  | _ => .int
abbrev wsJ90 : List Cond := u_ws RJ9 TJ9 0
theorem nmJ9 : ∀ a, a < 0 → ∀ b, b < 0 → a ≠ b → (TJ9 a).2.1 ≠ (TJ9 b).2.1 := by decide +kernel
theorem tyJ9_ok : ∀ k, k < 0 → parseFieldDescriptor (TJ9 k).2.2.1 = some (tyJ9 k) := by decide +kernel
abbrev cJ9_abs_0f7a4 : ByteArray := prog_9_method_59_code
def yJ9_abs_0f7a4 : MethodName := ⟨RJ9, "abs", "(I)I"⟩
abbrev cJ9_max_7cf53 : ByteArray := prog_9_method_65_code
def yJ9_max_7cf53 : MethodName := ⟨RJ9, "max", "(II)I"⟩
abbrev cJ9_min_7cf53 : ByteArray := prog_9_method_69_code
def yJ9_min_7cf53 : MethodName := ⟨RJ9, "min", "(II)I"⟩
def RL : String := "ParoleCacheLaw"
abbrev cL_law : ByteArray := code
def yL_law : MethodName := ⟨RL, "law", "([I)Z"⟩
abbrev vwCl : List vw_C := [(RX0, TX0, 16), (RX1, TX1, 4), (RX2, TX2, 13), (RX3, TX3, 2), (RX4, TX4, 7), (RX5, TX5, 9)]
/-! the words that all methods share: those of the tables that stay as the machine warms up -/
def x_nest : Cond → Bool
  | .fieldLinkNest .. => true
  | .methodLinkNest .. => true
  | _ => false
def x_good (w : Cond) : Bool := goodWord w || x_nest w
def lw_use : List Cond := lw_tbl.filter x_good
theorem x_use {w : Cond} (i : Nat) (h : lw_tbl[i]? = some w) (hg : x_good w = true) : w ∈ lw_use := List.mem_filter.mpr ⟨List.mem_of_getElem? h, hg⟩
theorem x_warm {w : Cond} (h : x_good w = true) {s U : State} {a a' : Array Value} (hW : s.WarmedH U.vm) (hb : w.before a s = true) : w.before a' U = true := by
  rcases Bool.or_eq_true _ _ ▸ h with h | h
  · exact word_at hW (good_of_word h) hb
  · cases w with
    | fieldLinkNest x i b n d h9 => exact va_Nw.use rfl (va_Nw.warmF hW (va_Nw.of rfl hb))
    | methodLinkNest x i y h9 => exact va_Nw.use rfl (va_Nw.warmM hW (va_Nw.of rfl hb))
    | _ => cases h
/-- the tables' words hold -/
def x_N (U : State) : Prop := ∀ (a : Array Value) (w : Cond), w ∈ lw_use → w.before a U = true
theorem x_N_warm {s U : State} (hW : s.WarmedH U.vm) (h : x_N s) : x_N U := fun a w hw => x_warm (List.mem_filter.mp hw).2 hW (h #[] w hw)
theorem x_N_same {s U : State} (hv : U.vm = s.vm) (h : x_N s) : x_N U := x_N_warm (by rw [hv]; exact State.WarmedH.refl s) h
theorem x_N_of {s : State} {a : Array Value} (h : ∀ w ∈ lw_tbl, w.before a s = true) : x_N s := fun a' w hw => x_warm (List.mem_filter.mp hw).2 (State.WarmedH.refl s) (h w (List.mem_filter.mp hw).1)
theorem x_N_in {ws : List Cond} (h : ws.all x_good = true) (hm : ∀ w ∈ ws, w ∈ lw_tbl) : ∀ w ∈ ws, w ∈ lw_use := fun w hw => List.mem_filter.mpr ⟨hm w hw, List.all_eq_true.mp h w hw⟩
theorem inu0 : ∀ w ∈ wsX00, w ∈ lw_use := x_N_in (by decide +kernel) (by decide +kernel)
theorem inu1 : ∀ w ∈ wsX10, w ∈ lw_use := x_N_in (by decide +kernel) (by decide +kernel)
theorem inu2 : ∀ w ∈ wsX20, w ∈ lw_use := x_N_in (by decide +kernel) (by decide +kernel)
theorem inu3 : ∀ w ∈ wsX30, w ∈ lw_use := x_N_in (by decide +kernel) (by decide +kernel)
theorem inu4 : ∀ w ∈ wsX40, w ∈ lw_use := x_N_in (by decide +kernel) (by decide +kernel)
theorem inu5 : ∀ w ∈ wsX50, w ∈ lw_use := x_N_in (by decide +kernel) (by decide +kernel)
end
section
theorem x_nlt {x y : Int32} : ¬ x < y ↔ y ≤ x := by
  rw [Int32.lt_iff_toInt_lt, Int32.le_iff_toInt_le]
  omega
theorem x_nle {x y : Int32} : ¬ x ≤ y ↔ y < x := by
  rw [Int32.lt_iff_toInt_lt, Int32.le_iff_toInt_le]
  omega
def x_rem (x y : Int32) : Int32 := x - x / y * y
/-! worlds of a block of cells under a memory, and the rules of a walk over them -/
abbrev xM : Type := Nat → Nat → Int32
def x_up (σ : xM) (r k : Nat) (v : Int32) : xM := fun r' k' => if r' = r ∧ k' = k then v else σ r' k'
theorem x_up_ne {σ : xM} {r k : Nat} {v : Int32} (r' : Nat) (h : r' ≠ r) (k' : Nat) : σ r' k' = x_up σ r k v r' k' := by simp [x_up, h]
theorem x_up_row {σ : xM} {r k : Nat} {v : Int32} : x_up σ r k v r = upd (σ r) k v := by
  funext j
  simp [x_up, upd]
def x_bl (n : Nat) (ad : Nat → Nat) (wf : xM → Nat → va_E) (σ : xM) : va_W := (List.range n).map (fun r => (ad r, wf σ r))
theorem x_bl_get {n : Nat} {ad : Nat → Nat} {wf : xM → Nat → va_E} {σ : xM} {r : Nat} (h : r < n) : (x_bl n ad wf σ)[r]? = some (ad r, wf σ r) := by
  simp [x_bl, h]
theorem x_bl_len {n : Nat} {ad : Nat → Nat} {wf : xM → Nat → va_E} {σ : xM} : (x_bl n ad wf σ).length = n := by
  simp [x_bl]
theorem x_bl_mem {n : Nat} {ad : Nat → Nat} {wf : xM → Nat → va_E} {σ : xM} {k : Nat} {q : Nat × va_E} (h : (x_bl n ad wf σ)[k]? = some q) : k < n ∧ q = (ad k, wf σ k) := by
  by_cases hk : k < n
  · rw [x_bl_get hk] at h
    exact ⟨hk, (Option.some.inj h).symm⟩
  · rw [List.getElem?_eq_none (by rw [x_bl_len]; exact Nat.not_lt.mp hk)] at h
    cases h
def x_loc (wf : xM → Nat → va_E) : Prop := ∀ (σ σ' : xM) (r : Nat), (∀ k, σ r k = σ' r k) → wf σ r = wf σ' r
theorem x_bl_set {n : Nat} {ad : Nat → Nat} {wf : xM → Nat → va_E} {σ σ' : xM} {r : Nat} {e : va_E} (hl : x_loc wf) (h : r < n) (he : wf σ' r = e) (ho : ∀ r', r' ≠ r → ∀ k, σ r' k = σ' r' k) : (x_bl n ad wf σ).set r (ad r, e) = x_bl n ad wf σ' := by
  apply List.ext_getElem?
  intro i
  rw [List.getElem?_set]
  by_cases hi : i < n
  · rw [x_bl_get hi, x_bl_get hi]
    by_cases hir : r = i
    · subst hir
      rw [if_pos rfl, if_pos (by rw [x_bl_len]; exact h), he]
    · rw [if_neg hir, hl σ σ' i (ho i (fun q => hir q.symm))]
  · rw [if_neg (fun (q : r = i) => hi (q ▸ h)), List.getElem?_eq_none (by rw [x_bl_len]; exact Nat.not_lt.mp hi), List.getElem?_eq_none (by rw [x_bl_len]; exact Nat.not_lt.mp hi)]
theorem x_bl_D {n : Nat} {ad : Nat → Nat} {wf wf' : xM → Nat → va_E} {σ σ' : xM} {A : Nat → Prop} (h : va_D A (x_bl n ad wf σ)) : va_D A (x_bl n ad wf' σ') := by
  refine ⟨fun i j p q hi hj hpq => ?_, fun k q hk => ?_⟩
  · obtain ⟨h1, rfl⟩ := x_bl_mem hi
    obtain ⟨h2, rfl⟩ := x_bl_mem hj
    exact h.1 i j _ _ (x_bl_get h1) (x_bl_get h2) hpq
  · obtain ⟨h1, rfl⟩ := x_bl_mem hk
    exact h.2 k (ad k, wf σ k) (x_bl_get h1)
theorem x_bl_A {n : Nat} {ad : Nat → Nat} {wf wf' : xM → Nat → va_E} {σ σ' : xM} {sz q : Nat} (h : va_A (x_bl n ad wf σ) sz q) : va_A (x_bl n ad wf' σ') sz q := by
  rcases h with ⟨k, e, h⟩ | h
  · obtain ⟨h1, h2⟩ := x_bl_mem h
    exact Or.inl ⟨k, wf' σ' k, by rw [x_bl_get h1, (Prod.mk.inj h2).1]⟩
  · exact Or.inr h
/-- a method's end: its answer, the world behind it, nothing else is changed -/
def x_Q (val : Option Value) (B : State → Prop) (A : Nat → Prop) : Array Value → State → Outcome → State → Prop := fun _ st oc t => (oc = .returned val ∧ B t) ∧ va_F A st t
/-- the contract of a method that makes nothing: it takes the memory σ to σ', and answers val -/
def x_Met (l : Launch) (y : MethodName) (ws : List Cond) (rm : Room) (D : va_G) (cl : List vw_C) (tys : List (ClassId × FieldType)) (n : Nat) (ad : Nat → Nat) (wf : xM → Nat → va_E) (av : List Value) (σ : xM) (val : Option Value) (σ' : xM) : Prop :=
  ∀ sz : Nat, Met l y ws rm (va_Pc av (fun U => U.heap.size = sz ∧ va_P D cl (x_bl n ad wf σ) U.heap ∧ va_K D cl tys U ∧ va_D (fun _ => True) (x_bl n ad wf σ) ∧ x_N U)) (x_Q val (fun t => va_P D cl (x_bl n ad wf σ') t.heap) (va_A (x_bl n ad wf σ) sz)) 0 0 (va_A (x_bl n ad wf σ) sz)
/-- what holds all along a walk -/
def x_C (p : Program) (s : State) (m : MethodId) (args : Array Value) (meth : Method) (c : Code) (D : va_G) (cl : List vw_C) (tys : List (ClassId × FieldType)) (A : Nat → Prop) (H0 : Heap) (n : Nat) (ad : Nat → Nat) (wf : xM → Nat → va_E) (cc : ByteArray) (nL : Nat) (own : String) (ret : Option FieldType) : Prop :=
  CallFix p m c cc nL s args lw_use own ∧ va_K D cl tys s ∧ (∀ σ, va_D A (x_bl n ad wf σ)) ∧ (∀ q, H0.size ≤ q → A q) ∧ x_loc wf ∧ meth.locks = false ∧ meth.sig.returnType = ret ∧ x_N s
def x_W (p : Program) (l : Launch) (e : Env) (R : Room) (s : State) (m : MethodId) (args : Array Value) (below : List Frame) (meth : Method) (c : Code) (D : va_G) (cl : List vw_C) (A : Nat → Prop) (H0 : Heap) (n : Nat) (ad : Nat → Nat) (wf : xM → Nat → va_E) (nL : Nat) (Q : State → Prop) (σ : xM) (pc : Nat) (L : List (Nat × Value)) (st : List Value) : Prop :=
  ∀ (H : Heap) (locs : List Loc) (ls : Array Slot), lv_has ls nL L → va_P D cl (x_bl n ad wf σ) H → va_S A H0 H locs → W p l e R s m args below meth c H locs 0 0 Q (F0 m pc ls st)
/-- a method's end, as the walk's goal -/
def x_E (below : List Frame) (args : Array Value) (s : State) (D : va_G) (cl : List vw_C) (n : Nat) (ad : Nat → Nat) (wf : xM → Nat → va_E) (A : Nat → Prop) (val : Option Value) (σ : xM) : State → Prop := MQ below (x_Q val (fun t => va_P D cl (x_bl n ad wf σ) t.heap) A) args s 0 0 A
theorem x_Met_of {l : Launch} {y : MethodName} {ws ws' : List Cond} {rm : Room} {D : va_G} {cl : List vw_C} {tys : List (ClassId × FieldType)} {n : Nat} {ad : Nat → Nat} {wf : xM → Nat → va_E} {av : List Value} {σ : xM} {val : Option Value} {σ' : xM} {cc : ByteArray} {nL : Nat} {ret : Option FieldType} {L0 : List (Nat × Value)} {own : String}
    (hy : plainName y.cls = true) (hyo : y.cls = own) (hw : ws = Cond.code y cc nL ret :: ws') (hloc : x_loc wf) (hn : (lg_sl av).length ≤ nL) (hL0 : lv_args 0 av = L0)
    (body : ∀ (p : Program) (e : Env) (s : State) (m : MethodId) (args : Array Value) (below : List Frame) (meth : Method) (c : Code) (A : Nat → Prop), x_C p s m args meth c D cl tys A s.heap n ad wf cc nL own ret → x_W p l e rm s m args below meth c D cl A s.heap n ad wf nL (x_E below args s D cl n ad wf A val σ') σ 0 L0 []) :
    x_Met l y ws rm D cl tys n ad wf av σ val σ' := by
  intro sz
  refine Met.ofW (cc := cc) (maxL := nL) (ret := ret) (ws' := ws') hy hw ?_
  intro p e s m args below meth c s₁ B hml hv
  obtain ⟨rfl, hsz, hP, hK, hD0, hN⟩ := hv
  have hx := B.exec
  have hb := B.bytes
  have hr := B.returns
  have hown : s.vm.findClass own = some m.cls := by rw [← hyo]; exact findClass_of_methodNamed B.named
  have hlocks := B.notSynchronized
  subst hsz
  have hD := hD0.self (sz := s.heap.size)
  have hl := lv_entry av (n := nL) hn
  rw [lg_entry_eq]
  rw [hL0] at hl
  exact body p e s m _ below meth c (va_A (x_bl n ad wf σ) s.heap.size) ⟨⟨hx, hb, hml, hown, fun w hw => hN _ w hw⟩, hK, fun σ1 => x_bl_D hD, fun q h => Or.inr h, hloc, hlocks, hr, hN⟩ s.heap [] _ hl hP va_S.rf
section XR
variable {p : Program} {l : Launch} {e : Env} {R : Room} {s : State} {m : MethodId} {args : Array Value} {below : List Frame} {meth : Method} {c : Code} {D : va_G} {cl : List vw_C} {tys : List (ClassId × FieldType)} {A : Nat → Prop} {H0 : Heap} {n : Nat} {ad : Nat → Nat} {wf : xM → Nat → va_E} {cc : ByteArray} {nL : Nat} {own : String} {ret : Option FieldType} {Q : State → Prop} {σ : xM} {pc : Nat} {L : List (Nat × Value)} {st : List Value}
theorem x_iload (C0 : x_C p s m args meth c D cl tys A H0 n ad wf cc nL own ret) {i : Nat} {x : Int32} (d : decode cc pc = .ok (.iload i, 2)) (k : Nat) (h : L[k]? = some (i, .int x)) (K : x_W p l e R s m args below meth c D cl A H0 n ad wf nL Q σ (pc + 2) L (.int x :: st)) : x_W p l e R s m args below meth c D cl A H0 n ad wf nL Q σ pc L st :=
  fun H locs ls hl hP hS => lv_iload C0.1.1 C0.1.2.1 d (lv_at hl k h) (K H locs ls hl hP hS)
theorem x_iload_n (C0 : x_C p s m args meth c D cl tys A H0 n ad wf cc nL own ret) {f : Fin 4} {i : Nat} {x : Int32} (d : decode cc pc = .ok (.iload_n f, 1)) (hi : (f : Nat) = i) (k : Nat) (h : L[k]? = some (i, .int x)) (K : x_W p l e R s m args below meth c D cl A H0 n ad wf nL Q σ (pc + 1) L (.int x :: st)) : x_W p l e R s m args below meth c D cl A H0 n ad wf nL Q σ pc L st :=
  fun H locs ls hl hP hS => lv_iload_n C0.1.1 C0.1.2.1 d hi (lv_at hl k h) (K H locs ls hl hP hS)
theorem x_aload (C0 : x_C p s m args meth c D cl tys A H0 n ad wf cc nL own ret) {i x : Nat} (d : decode cc pc = .ok (.aload i, 2)) (k : Nat) (h : L[k]? = some (i, .ref x)) (K : x_W p l e R s m args below meth c D cl A H0 n ad wf nL Q σ (pc + 2) L (.ref x :: st)) : x_W p l e R s m args below meth c D cl A H0 n ad wf nL Q σ pc L st :=
  fun H locs ls hl hP hS => lv_aload C0.1.1 C0.1.2.1 d (lv_at hl k h) (K H locs ls hl hP hS)
theorem x_aload_n (C0 : x_C p s m args meth c D cl tys A H0 n ad wf cc nL own ret) {f : Fin 4} {i x : Nat} (d : decode cc pc = .ok (.aload_n f, 1)) (hi : (f : Nat) = i) (k : Nat) (h : L[k]? = some (i, .ref x)) (K : x_W p l e R s m args below meth c D cl A H0 n ad wf nL Q σ (pc + 1) L (.ref x :: st)) : x_W p l e R s m args below meth c D cl A H0 n ad wf nL Q σ pc L st :=
  fun H locs ls hl hP hS => lv_aload_n C0.1.1 C0.1.2.1 d hi (lv_at hl k h) (K H locs ls hl hP hS)
theorem x_aloadN (C0 : x_C p s m args meth c D cl tys A H0 n ad wf cc nL own ret) {i : Nat} (d : decode cc pc = .ok (.aload i, 2)) (k : Nat) (h : L[k]? = some (i, .null)) (K : x_W p l e R s m args below meth c D cl A H0 n ad wf nL Q σ (pc + 2) L (.null :: st)) : x_W p l e R s m args below meth c D cl A H0 n ad wf nL Q σ pc L st :=
  fun H locs ls hl hP hS => lv_aloadN C0.1.1 C0.1.2.1 d (lv_at hl k h) (K H locs ls hl hP hS)
theorem x_aload_nN (C0 : x_C p s m args meth c D cl tys A H0 n ad wf cc nL own ret) {f : Fin 4} {i : Nat} (d : decode cc pc = .ok (.aload_n f, 1)) (hi : (f : Nat) = i) (k : Nat) (h : L[k]? = some (i, .null)) (K : x_W p l e R s m args below meth c D cl A H0 n ad wf nL Q σ (pc + 1) L (.null :: st)) : x_W p l e R s m args below meth c D cl A H0 n ad wf nL Q σ pc L st :=
  fun H locs ls hl hP hS => lv_aload_nN C0.1.1 C0.1.2.1 d hi (lv_at hl k h) (K H locs ls hl hP hS)
theorem x_istore (C0 : x_C p s m args meth c D cl tys A H0 n ad wf cc nL own ret) {i : Nat} {x : Int32} (d : decode cc pc = .ok (.istore i, 2)) {L' : List (Nat × Value)} (hn : i < nL) (hL : (i, Value.int x) :: L.filter (fun q => !(q.1 == i) && !(q.1 + 1 == i && q.2.category == 2)) = L') (K : x_W p l e R s m args below meth c D cl A H0 n ad wf nL Q σ (pc + 2) L' st) : x_W p l e R s m args below meth c D cl A H0 n ad wf nL Q σ pc L (Value.int x :: st) :=
  fun H locs ls hl hP hS => lv_istore C0.1.1 C0.1.2.1 d hl hn hL (fun ls' hl' => K H locs ls' hl' hP hS)
theorem x_istore_n (C0 : x_C p s m args meth c D cl tys A H0 n ad wf cc nL own ret) {f : Fin 4} {i : Nat} {x : Int32} (d : decode cc pc = .ok (.istore_n f, 1)) (hi : (f : Nat) = i) {L' : List (Nat × Value)} (hn : i < nL) (hL : (i, Value.int x) :: L.filter (fun q => !(q.1 == i) && !(q.1 + 1 == i && q.2.category == 2)) = L') (K : x_W p l e R s m args below meth c D cl A H0 n ad wf nL Q σ (pc + 1) L' st) : x_W p l e R s m args below meth c D cl A H0 n ad wf nL Q σ pc L (Value.int x :: st) :=
  fun H locs ls hl hP hS => lv_istore_n C0.1.1 C0.1.2.1 d hi hl hn hL (fun ls' hl' => K H locs ls' hl' hP hS)
theorem x_astore (C0 : x_C p s m args meth c D cl tys A H0 n ad wf cc nL own ret) {i : Nat} {x : Nat} (d : decode cc pc = .ok (.astore i, 2)) {L' : List (Nat × Value)} (hn : i < nL) (hL : (i, Value.ref x) :: L.filter (fun q => !(q.1 == i) && !(q.1 + 1 == i && q.2.category == 2)) = L') (K : x_W p l e R s m args below meth c D cl A H0 n ad wf nL Q σ (pc + 2) L' st) : x_W p l e R s m args below meth c D cl A H0 n ad wf nL Q σ pc L (Value.ref x :: st) :=
  fun H locs ls hl hP hS => lv_astore C0.1.1 C0.1.2.1 d hl hn hL (fun ls' hl' => K H locs ls' hl' hP hS)
theorem x_astore_n (C0 : x_C p s m args meth c D cl tys A H0 n ad wf cc nL own ret) {f : Fin 4} {i : Nat} {x : Nat} (d : decode cc pc = .ok (.astore_n f, 1)) (hi : (f : Nat) = i) {L' : List (Nat × Value)} (hn : i < nL) (hL : (i, Value.ref x) :: L.filter (fun q => !(q.1 == i) && !(q.1 + 1 == i && q.2.category == 2)) = L') (K : x_W p l e R s m args below meth c D cl A H0 n ad wf nL Q σ (pc + 1) L' st) : x_W p l e R s m args below meth c D cl A H0 n ad wf nL Q σ pc L (Value.ref x :: st) :=
  fun H locs ls hl hP hS => lv_astore_n C0.1.1 C0.1.2.1 d hi hl hn hL (fun ls' hl' => K H locs ls' hl' hP hS)
theorem x_astoreN (C0 : x_C p s m args meth c D cl tys A H0 n ad wf cc nL own ret) {i : Nat} (d : decode cc pc = .ok (.astore i, 2)) {L' : List (Nat × Value)} (hn : i < nL) (hL : (i, Value.null) :: L.filter (fun q => !(q.1 == i) && !(q.1 + 1 == i && q.2.category == 2)) = L') (K : x_W p l e R s m args below meth c D cl A H0 n ad wf nL Q σ (pc + 2) L' st) : x_W p l e R s m args below meth c D cl A H0 n ad wf nL Q σ pc L (Value.null :: st) :=
  fun H locs ls hl hP hS => lv_astoreN C0.1.1 C0.1.2.1 d hl hn hL (fun ls' hl' => K H locs ls' hl' hP hS)
theorem x_astore_nN (C0 : x_C p s m args meth c D cl tys A H0 n ad wf cc nL own ret) {f : Fin 4} {i : Nat} (d : decode cc pc = .ok (.astore_n f, 1)) (hi : (f : Nat) = i) {L' : List (Nat × Value)} (hn : i < nL) (hL : (i, Value.null) :: L.filter (fun q => !(q.1 == i) && !(q.1 + 1 == i && q.2.category == 2)) = L') (K : x_W p l e R s m args below meth c D cl A H0 n ad wf nL Q σ (pc + 1) L' st) : x_W p l e R s m args below meth c D cl A H0 n ad wf nL Q σ pc L (Value.null :: st) :=
  fun H locs ls hl hP hS => lv_astore_nN C0.1.1 C0.1.2.1 d hi hl hn hL (fun ls' hl' => K H locs ls' hl' hP hS)
theorem x_iinc (C0 : x_C p s m args meth c D cl tys A H0 n ad wf cc nL own ret) {i : Nat} {z : Int} {x v : Int32} {L' : List (Nat × Value)} (d : decode cc pc = .ok (.iinc i z, 3)) (k : Nat) (h : L[k]? = some (i, .int x)) (hv : Int32.ofInt z = v) (hn : i < nL) (hL : (i, Value.int (x + v)) :: L.filter (fun q => !(q.1 == i) && !(q.1 + 1 == i && q.2.category == 2)) = L') (K : x_W p l e R s m args below meth c D cl A H0 n ad wf nL Q σ (pc + 3) L' st) : x_W p l e R s m args below meth c D cl A H0 n ad wf nL Q σ pc L st :=
  fun H locs ls hl hP hS => lv_iinc C0.1.1 C0.1.2.1 d hl h (by rw [hv]) hn hL (fun ls' hl' => K H locs ls' hl' hP hS)
theorem x_sub (ks : List Nat) {L' : List (Nat × Value)} (hl' : lv_pick L ks = L') (K : x_W p l e R s m args below meth c D cl A H0 n ad wf nL Q σ pc L' st) : x_W p l e R s m args below meth c D cl A H0 n ad wf nL Q σ pc L st :=
  fun H locs ls hl hP hS => K H locs ls (lv_sub hl ks hl') hP hS
theorem x_iconst (C0 : x_C p s m args meth c D cl tys A H0 n ad wf cc nL own ret) {z : Int} {v : Int32} (d : decode cc pc = .ok (.iconst z, 1)) (hv : Int32.ofInt z = v) (K : x_W p l e R s m args below meth c D cl A H0 n ad wf nL Q σ (pc + 1) L (.int v :: st)) : x_W p l e R s m args below meth c D cl A H0 n ad wf nL Q σ pc L st :=
  fun H locs ls hl hP hS => lv_iconst C0.1.1 C0.1.2.1 d hv (K H locs ls hl hP hS)
theorem x_bipush (C0 : x_C p s m args meth c D cl tys A H0 n ad wf cc nL own ret) {z : Int} {v : Int32} (d : decode cc pc = .ok (.bipush z, 2)) (hv : (Int8.ofInt z).toInt32 = v) (K : x_W p l e R s m args below meth c D cl A H0 n ad wf nL Q σ (pc + 2) L (.int v :: st)) : x_W p l e R s m args below meth c D cl A H0 n ad wf nL Q σ pc L st :=
  fun H locs ls hl hP hS => lv_bipush C0.1.1 C0.1.2.1 d hv (K H locs ls hl hP hS)
theorem x_sipush (C0 : x_C p s m args meth c D cl tys A H0 n ad wf cc nL own ret) {z : Int} {v : Int32} (d : decode cc pc = .ok (.sipush z, 3)) (hv : (Int16.ofInt z).toInt32 = v) (K : x_W p l e R s m args below meth c D cl A H0 n ad wf nL Q σ (pc + 3) L (.int v :: st)) : x_W p l e R s m args below meth c D cl A H0 n ad wf nL Q σ pc L st :=
  fun H locs ls hl hP hS => lv_sipush C0.1.1 C0.1.2.1 d hv (K H locs ls hl hP hS)
theorem x_ldc (C0 : x_C p s m args meth c D cl tys A H0 n ad wf cc nL own ret) {i : Nat} {v : Int32} (hw : Cond.constant own i v ∈ lw_use) (d : decode cc pc = .ok (.ldc i, 2)) (K : x_W p l e R s m args below meth c D cl A H0 n ad wf nL Q σ (pc + 2) L (.int v :: st)) : x_W p l e R s m args below meth c D cl A H0 n ad wf nL Q σ pc L st :=
  fun H locs ls hl hP hS => lv_ldc C0.1.1 C0.1.2.1 C0.1.2.2.2.1 (C0.1.2.2.2.2 _ hw) d (K H locs ls hl hP hS)
theorem x_null (C0 : x_C p s m args meth c D cl tys A H0 n ad wf cc nL own ret) (d : decode cc pc = .ok (.aconst_null, 1)) (K : x_W p l e R s m args below meth c D cl A H0 n ad wf nL Q σ (pc + 1) L (.null :: st)) : x_W p l e R s m args below meth c D cl A H0 n ad wf nL Q σ pc L st :=
  fun H locs ls hl hP hS => lv_null C0.1.1 C0.1.2.1 d (K H locs ls hl hP hS)
theorem x_iadd (C0 : x_C p s m args meth c D cl tys A H0 n ad wf cc nL own ret) {x y : Int32} (d : decode cc pc = .ok (.iadd, 1)) (K : x_W p l e R s m args below meth c D cl A H0 n ad wf nL Q σ (pc + 1) L (.int (x + y) :: st)) : x_W p l e R s m args below meth c D cl A H0 n ad wf nL Q σ pc L (.int y :: .int x :: st) :=
  fun H locs ls hl hP hS => lv_iadd C0.1.1 C0.1.2.1 d (K H locs ls hl hP hS)
theorem x_isub (C0 : x_C p s m args meth c D cl tys A H0 n ad wf cc nL own ret) {x y : Int32} (d : decode cc pc = .ok (.isub, 1)) (K : x_W p l e R s m args below meth c D cl A H0 n ad wf nL Q σ (pc + 1) L (.int (x - y) :: st)) : x_W p l e R s m args below meth c D cl A H0 n ad wf nL Q σ pc L (.int y :: .int x :: st) :=
  fun H locs ls hl hP hS => lv_isub C0.1.1 C0.1.2.1 d (K H locs ls hl hP hS)
theorem x_imul (C0 : x_C p s m args meth c D cl tys A H0 n ad wf cc nL own ret) {x y : Int32} (d : decode cc pc = .ok (.imul, 1)) (K : x_W p l e R s m args below meth c D cl A H0 n ad wf nL Q σ (pc + 1) L (.int (x * y) :: st)) : x_W p l e R s m args below meth c D cl A H0 n ad wf nL Q σ pc L (.int y :: .int x :: st) :=
  fun H locs ls hl hP hS => lv_imul C0.1.1 C0.1.2.1 d (K H locs ls hl hP hS)
theorem x_iand (C0 : x_C p s m args meth c D cl tys A H0 n ad wf cc nL own ret) {x y : Int32} (d : decode cc pc = .ok (.iand, 1)) (K : x_W p l e R s m args below meth c D cl A H0 n ad wf nL Q σ (pc + 1) L (.int (x &&& y) :: st)) : x_W p l e R s m args below meth c D cl A H0 n ad wf nL Q σ pc L (.int y :: .int x :: st) :=
  fun H locs ls hl hP hS => lv_iand C0.1.1 C0.1.2.1 d (K H locs ls hl hP hS)
theorem x_ior (C0 : x_C p s m args meth c D cl tys A H0 n ad wf cc nL own ret) {x y : Int32} (d : decode cc pc = .ok (.ior, 1)) (K : x_W p l e R s m args below meth c D cl A H0 n ad wf nL Q σ (pc + 1) L (.int (x ||| y) :: st)) : x_W p l e R s m args below meth c D cl A H0 n ad wf nL Q σ pc L (.int y :: .int x :: st) :=
  fun H locs ls hl hP hS => lv_ior C0.1.1 C0.1.2.1 d (K H locs ls hl hP hS)
theorem x_ishl (C0 : x_C p s m args meth c D cl tys A H0 n ad wf cc nL own ret) {x y : Int32} (d : decode cc pc = .ok (.ishl, 1)) (K : x_W p l e R s m args below meth c D cl A H0 n ad wf nL Q σ (pc + 1) L (.int (x <<< (y &&& 31)) :: st)) : x_W p l e R s m args below meth c D cl A H0 n ad wf nL Q σ pc L (.int y :: .int x :: st) :=
  fun H locs ls hl hP hS => lv_ishl C0.1.1 C0.1.2.1 d (K H locs ls hl hP hS)
theorem x_ishr (C0 : x_C p s m args meth c D cl tys A H0 n ad wf cc nL own ret) {x y : Int32} (d : decode cc pc = .ok (.ishr, 1)) (K : x_W p l e R s m args below meth c D cl A H0 n ad wf nL Q σ (pc + 1) L (.int (x >>> (y &&& 31)) :: st)) : x_W p l e R s m args below meth c D cl A H0 n ad wf nL Q σ pc L (.int y :: .int x :: st) :=
  fun H locs ls hl hP hS => lv_ishr C0.1.1 C0.1.2.1 d (K H locs ls hl hP hS)
theorem x_dup (C0 : x_C p s m args meth c D cl tys A H0 n ad wf cc nL own ret) {v : Value} (d : decode cc pc = .ok (.dup, 1)) (hv : v.category = 1) (K : x_W p l e R s m args below meth c D cl A H0 n ad wf nL Q σ (pc + 1) L (v :: v :: st)) : x_W p l e R s m args below meth c D cl A H0 n ad wf nL Q σ pc L (v :: st) :=
  fun H locs ls hl hP hS => lv_dup C0.1.1 C0.1.2.1 d hv (K H locs ls hl hP hS)
theorem x_dup2 (C0 : x_C p s m args meth c D cl tys A H0 n ad wf cc nL own ret) {v w : Value} (d : decode cc pc = .ok (.dup2, 1)) (hv : v.category = 1) (hw : w.category = 1) (K : x_W p l e R s m args below meth c D cl A H0 n ad wf nL Q σ (pc + 1) L (v :: w :: v :: w :: st)) : x_W p l e R s m args below meth c D cl A H0 n ad wf nL Q σ pc L (v :: w :: st) :=
  fun H locs ls hl hP hS => lv_dup2_11 C0.1.1 C0.1.2.1 d hv hw (K H locs ls hl hP hS)
theorem x_pop (C0 : x_C p s m args meth c D cl tys A H0 n ad wf cc nL own ret) {v : Value} (d : decode cc pc = .ok (.pop, 1)) (hv : v.category = 1) (K : x_W p l e R s m args below meth c D cl A H0 n ad wf nL Q σ (pc + 1) L st) : x_W p l e R s m args below meth c D cl A H0 n ad wf nL Q σ pc L (v :: st) :=
  fun H locs ls hl hP hS => lv_pop C0.1.1 C0.1.2.1 d hv (K H locs ls hl hP hS)
theorem x_i2c (C0 : x_C p s m args meth c D cl tys A H0 n ad wf cc nL own ret) {x v : Int32} (d : decode cc pc = .ok (.i2c, 1)) (hv : (x.toUInt32 % 65536).toInt32 = v) (K : x_W p l e R s m args below meth c D cl A H0 n ad wf nL Q σ (pc + 1) L (.int v :: st)) : x_W p l e R s m args below meth c D cl A H0 n ad wf nL Q σ pc L (.int x :: st) :=
  fun H locs ls hl hP hS => lv_i2c C0.1.1 C0.1.2.1 d hv (K H locs ls hl hP hS)
theorem x_irem (C0 : x_C p s m args meth c D cl tys A H0 n ad wf cc nL own ret) {ρ : Type} {x y : Int32} (d : decode cc pc = .ok (.irem, 1)) {b : Option ρ} {res : ρ} (h : (if y = 0 then none else b) = some res) (K : ¬ y = 0 → b = some res → x_W p l e R s m args below meth c D cl A H0 n ad wf nL Q σ (pc + 1) L (.int (x_rem x y) :: st)) : x_W p l e R s m args below meth c D cl A H0 n ad wf nL Q σ pc L (.int y :: .int x :: st) :=
  by
  by_cases hy : y = 0
  · rw [if_pos hy] at h; cases h
  · rw [if_neg hy] at h
    exact fun H locs ls hl hP hS => lv_irem C0.1.1 C0.1.2.1 d hy (K hy h H locs ls hl hP hS)
theorem x_if_eq (C0 : x_C p s m args meth c D cl tys A H0 n ad wf cc nL own ret) {ρ : Type} {x : Int32} {off : Int} {tgt : Nat} (d : decode cc pc = .ok (.ifCond .eq off, 3)) (ht : (pc : Int) + off = (tgt : Int)) {a b res : ρ} (h : (if x = 0 then a else b) = res) (Kt : x = 0 → a = res → x_W p l e R s m args below meth c D cl A H0 n ad wf nL Q σ tgt L st) (Kf : ¬ x = 0 → b = res → x_W p l e R s m args below meth c D cl A H0 n ad wf nL Q σ (pc + 3) L st) : x_W p l e R s m args below meth c D cl A H0 n ad wf nL Q σ pc L (.int x :: st) :=
  fun H locs ls hl hP hS => lv_if_eq C0.1.1 C0.1.2.1 d ht (fun q => by rw [if_pos q] at h; exact Kt q h H locs ls hl hP hS) (fun q => by rw [if_neg q] at h; exact Kf q h H locs ls hl hP hS)
theorem x_icmp_eq (C0 : x_C p s m args meth c D cl tys A H0 n ad wf cc nL own ret) {ρ : Type} {x y : Int32} {off : Int} {tgt : Nat} (d : decode cc pc = .ok (.if_icmp .eq off, 3)) (ht : (pc : Int) + off = (tgt : Int)) {a b res : ρ} (h : (if x = y then a else b) = res) (Kt : x = y → a = res → x_W p l e R s m args below meth c D cl A H0 n ad wf nL Q σ tgt L st) (Kf : ¬ x = y → b = res → x_W p l e R s m args below meth c D cl A H0 n ad wf nL Q σ (pc + 3) L st) : x_W p l e R s m args below meth c D cl A H0 n ad wf nL Q σ pc L (.int y :: .int x :: st) :=
  fun H locs ls hl hP hS => lv_icmp_eq C0.1.1 C0.1.2.1 d ht (fun q => by rw [if_pos q] at h; exact Kt q h H locs ls hl hP hS) (fun q => by rw [if_neg q] at h; exact Kf q h H locs ls hl hP hS)
theorem x_if_ne (C0 : x_C p s m args meth c D cl tys A H0 n ad wf cc nL own ret) {ρ : Type} {x : Int32} {off : Int} {tgt : Nat} (d : decode cc pc = .ok (.ifCond .ne off, 3)) (ht : (pc : Int) + off = (tgt : Int)) {a b res : ρ} (h : (if x = 0 then a else b) = res) (Kt : x = 0 → a = res → x_W p l e R s m args below meth c D cl A H0 n ad wf nL Q σ (pc + 3) L st) (Kf : ¬ x = 0 → b = res → x_W p l e R s m args below meth c D cl A H0 n ad wf nL Q σ tgt L st) : x_W p l e R s m args below meth c D cl A H0 n ad wf nL Q σ pc L (.int x :: st) :=
  fun H locs ls hl hP hS => lv_if_ne C0.1.1 C0.1.2.1 d ht (fun q => by rw [if_neg q] at h; exact Kf q h H locs ls hl hP hS) (fun q => by rw [if_pos q] at h; exact Kt q h H locs ls hl hP hS)
theorem x_icmp_ne (C0 : x_C p s m args meth c D cl tys A H0 n ad wf cc nL own ret) {ρ : Type} {x y : Int32} {off : Int} {tgt : Nat} (d : decode cc pc = .ok (.if_icmp .ne off, 3)) (ht : (pc : Int) + off = (tgt : Int)) {a b res : ρ} (h : (if x = y then a else b) = res) (Kt : x = y → a = res → x_W p l e R s m args below meth c D cl A H0 n ad wf nL Q σ (pc + 3) L st) (Kf : ¬ x = y → b = res → x_W p l e R s m args below meth c D cl A H0 n ad wf nL Q σ tgt L st) : x_W p l e R s m args below meth c D cl A H0 n ad wf nL Q σ pc L (.int y :: .int x :: st) :=
  fun H locs ls hl hP hS => lv_icmp_ne C0.1.1 C0.1.2.1 d ht (fun q => by rw [if_neg q] at h; exact Kf q h H locs ls hl hP hS) (fun q => by rw [if_pos q] at h; exact Kt q h H locs ls hl hP hS)
theorem x_if_lt (C0 : x_C p s m args meth c D cl tys A H0 n ad wf cc nL own ret) {ρ : Type} {x : Int32} {off : Int} {tgt : Nat} (d : decode cc pc = .ok (.ifCond .lt off, 3)) (ht : (pc : Int) + off = (tgt : Int)) {a b res : ρ} (h : (if x < 0 then a else b) = res) (Kt : x < 0 → a = res → x_W p l e R s m args below meth c D cl A H0 n ad wf nL Q σ tgt L st) (Kf : ¬ x < 0 → b = res → x_W p l e R s m args below meth c D cl A H0 n ad wf nL Q σ (pc + 3) L st) : x_W p l e R s m args below meth c D cl A H0 n ad wf nL Q σ pc L (.int x :: st) :=
  fun H locs ls hl hP hS => lv_if_lt C0.1.1 C0.1.2.1 d ht (fun q => by rw [if_pos q] at h; exact Kt q h H locs ls hl hP hS) (fun q => by rw [if_neg q] at h; exact Kf q h H locs ls hl hP hS)
theorem x_icmp_lt (C0 : x_C p s m args meth c D cl tys A H0 n ad wf cc nL own ret) {ρ : Type} {x y : Int32} {off : Int} {tgt : Nat} (d : decode cc pc = .ok (.if_icmp .lt off, 3)) (ht : (pc : Int) + off = (tgt : Int)) {a b res : ρ} (h : (if x < y then a else b) = res) (Kt : x < y → a = res → x_W p l e R s m args below meth c D cl A H0 n ad wf nL Q σ tgt L st) (Kf : ¬ x < y → b = res → x_W p l e R s m args below meth c D cl A H0 n ad wf nL Q σ (pc + 3) L st) : x_W p l e R s m args below meth c D cl A H0 n ad wf nL Q σ pc L (.int y :: .int x :: st) :=
  fun H locs ls hl hP hS => lv_icmp_lt C0.1.1 C0.1.2.1 d ht (fun q => by rw [if_pos q] at h; exact Kt q h H locs ls hl hP hS) (fun q => by rw [if_neg q] at h; exact Kf q h H locs ls hl hP hS)
theorem x_if_ge (C0 : x_C p s m args meth c D cl tys A H0 n ad wf cc nL own ret) {ρ : Type} {x : Int32} {off : Int} {tgt : Nat} (d : decode cc pc = .ok (.ifCond .ge off, 3)) (ht : (pc : Int) + off = (tgt : Int)) {a b res : ρ} (h : (if x < 0 then a else b) = res) (Kt : x < 0 → a = res → x_W p l e R s m args below meth c D cl A H0 n ad wf nL Q σ (pc + 3) L st) (Kf : ¬ x < 0 → b = res → x_W p l e R s m args below meth c D cl A H0 n ad wf nL Q σ tgt L st) : x_W p l e R s m args below meth c D cl A H0 n ad wf nL Q σ pc L (.int x :: st) :=
  fun H locs ls hl hP hS => lv_if_ge C0.1.1 C0.1.2.1 d ht (fun q => by have q := x_nlt.mpr q; rw [if_neg q] at h; exact Kf q h H locs ls hl hP hS) (fun q => by have q := x_nle.mp q; rw [if_pos q] at h; exact Kt q h H locs ls hl hP hS)
theorem x_icmp_ge (C0 : x_C p s m args meth c D cl tys A H0 n ad wf cc nL own ret) {ρ : Type} {x y : Int32} {off : Int} {tgt : Nat} (d : decode cc pc = .ok (.if_icmp .ge off, 3)) (ht : (pc : Int) + off = (tgt : Int)) {a b res : ρ} (h : (if x < y then a else b) = res) (Kt : x < y → a = res → x_W p l e R s m args below meth c D cl A H0 n ad wf nL Q σ (pc + 3) L st) (Kf : ¬ x < y → b = res → x_W p l e R s m args below meth c D cl A H0 n ad wf nL Q σ tgt L st) : x_W p l e R s m args below meth c D cl A H0 n ad wf nL Q σ pc L (.int y :: .int x :: st) :=
  fun H locs ls hl hP hS => lv_icmp_ge C0.1.1 C0.1.2.1 d ht (fun q => by have q := x_nlt.mpr q; rw [if_neg q] at h; exact Kf q h H locs ls hl hP hS) (fun q => by have q := x_nle.mp q; rw [if_pos q] at h; exact Kt q h H locs ls hl hP hS)
theorem x_if_gt (C0 : x_C p s m args meth c D cl tys A H0 n ad wf cc nL own ret) {ρ : Type} {x : Int32} {off : Int} {tgt : Nat} (d : decode cc pc = .ok (.ifCond .gt off, 3)) (ht : (pc : Int) + off = (tgt : Int)) {a b res : ρ} (h : (if 0 < x then a else b) = res) (Kt : 0 < x → a = res → x_W p l e R s m args below meth c D cl A H0 n ad wf nL Q σ tgt L st) (Kf : ¬ 0 < x → b = res → x_W p l e R s m args below meth c D cl A H0 n ad wf nL Q σ (pc + 3) L st) : x_W p l e R s m args below meth c D cl A H0 n ad wf nL Q σ pc L (.int x :: st) :=
  fun H locs ls hl hP hS => lv_if_gt C0.1.1 C0.1.2.1 d ht (fun q => by rw [if_pos q] at h; exact Kt q h H locs ls hl hP hS) (fun q => by rw [if_neg q] at h; exact Kf q h H locs ls hl hP hS)
theorem x_icmp_gt (C0 : x_C p s m args meth c D cl tys A H0 n ad wf cc nL own ret) {ρ : Type} {x y : Int32} {off : Int} {tgt : Nat} (d : decode cc pc = .ok (.if_icmp .gt off, 3)) (ht : (pc : Int) + off = (tgt : Int)) {a b res : ρ} (h : (if y < x then a else b) = res) (Kt : y < x → a = res → x_W p l e R s m args below meth c D cl A H0 n ad wf nL Q σ tgt L st) (Kf : ¬ y < x → b = res → x_W p l e R s m args below meth c D cl A H0 n ad wf nL Q σ (pc + 3) L st) : x_W p l e R s m args below meth c D cl A H0 n ad wf nL Q σ pc L (.int y :: .int x :: st) :=
  fun H locs ls hl hP hS => lv_icmp_gt C0.1.1 C0.1.2.1 d ht (fun q => by rw [if_pos q] at h; exact Kt q h H locs ls hl hP hS) (fun q => by rw [if_neg q] at h; exact Kf q h H locs ls hl hP hS)
theorem x_if_le (C0 : x_C p s m args meth c D cl tys A H0 n ad wf cc nL own ret) {ρ : Type} {x : Int32} {off : Int} {tgt : Nat} (d : decode cc pc = .ok (.ifCond .le off, 3)) (ht : (pc : Int) + off = (tgt : Int)) {a b res : ρ} (h : (if 0 < x then a else b) = res) (Kt : 0 < x → a = res → x_W p l e R s m args below meth c D cl A H0 n ad wf nL Q σ (pc + 3) L st) (Kf : ¬ 0 < x → b = res → x_W p l e R s m args below meth c D cl A H0 n ad wf nL Q σ tgt L st) : x_W p l e R s m args below meth c D cl A H0 n ad wf nL Q σ pc L (.int x :: st) :=
  fun H locs ls hl hP hS => lv_if_le C0.1.1 C0.1.2.1 d ht (fun q => by have q := x_nlt.mpr q; rw [if_neg q] at h; exact Kf q h H locs ls hl hP hS) (fun q => by have q := x_nle.mp q; rw [if_pos q] at h; exact Kt q h H locs ls hl hP hS)
theorem x_icmp_le (C0 : x_C p s m args meth c D cl tys A H0 n ad wf cc nL own ret) {ρ : Type} {x y : Int32} {off : Int} {tgt : Nat} (d : decode cc pc = .ok (.if_icmp .le off, 3)) (ht : (pc : Int) + off = (tgt : Int)) {a b res : ρ} (h : (if y < x then a else b) = res) (Kt : y < x → a = res → x_W p l e R s m args below meth c D cl A H0 n ad wf nL Q σ (pc + 3) L st) (Kf : ¬ y < x → b = res → x_W p l e R s m args below meth c D cl A H0 n ad wf nL Q σ tgt L st) : x_W p l e R s m args below meth c D cl A H0 n ad wf nL Q σ pc L (.int y :: .int x :: st) :=
  fun H locs ls hl hP hS => lv_icmp_le C0.1.1 C0.1.2.1 d ht (fun q => by have q := x_nlt.mpr q; rw [if_neg q] at h; exact Kf q h H locs ls hl hP hS) (fun q => by have q := x_nle.mp q; rw [if_pos q] at h; exact Kt q h H locs ls hl hP hS)
theorem x_goto (C0 : x_C p s m args meth c D cl tys A H0 n ad wf cc nL own ret) {off : Int} {tgt : Nat} (d : decode cc pc = .ok (.goto off, 3)) (ht : (pc : Int) + off = (tgt : Int)) (K : x_W p l e R s m args below meth c D cl A H0 n ad wf nL Q σ tgt L st) : x_W p l e R s m args below meth c D cl A H0 n ad wf nL Q σ pc L st :=
  fun H locs ls hl hP hS => lv_goto C0.1.1 C0.1.2.1 d ht (K H locs ls hl hP hS)
theorem x_ifnull (C0 : x_C p s m args meth c D cl tys A H0 n ad wf cc nL own ret) {x : Nat} {off : Int} (d : decode cc pc = .ok (.ifnull off, 3)) (K : x_W p l e R s m args below meth c D cl A H0 n ad wf nL Q σ (pc + 3) L st) : x_W p l e R s m args below meth c D cl A H0 n ad wf nL Q σ pc L (.ref x :: st) :=
  fun H locs ls hl hP hS => lv_ifnull C0.1.1 C0.1.2.1 d (K H locs ls hl hP hS)
theorem x_ifnullN (C0 : x_C p s m args meth c D cl tys A H0 n ad wf cc nL own ret) {off : Int} {tgt : Nat} (d : decode cc pc = .ok (.ifnull off, 3)) (ht : (pc : Int) + off = (tgt : Int)) (K : x_W p l e R s m args below meth c D cl A H0 n ad wf nL Q σ tgt L st) : x_W p l e R s m args below meth c D cl A H0 n ad wf nL Q σ pc L (.null :: st) :=
  fun H locs ls hl hP hS => lv_ifnullN C0.1.1 C0.1.2.1 d ht (K H locs ls hl hP hS)
theorem x_ifnonnull (C0 : x_C p s m args meth c D cl tys A H0 n ad wf cc nL own ret) {x : Nat} {off : Int} {tgt : Nat} (d : decode cc pc = .ok (.ifnonnull off, 3)) (ht : (pc : Int) + off = (tgt : Int)) (K : x_W p l e R s m args below meth c D cl A H0 n ad wf nL Q σ tgt L st) : x_W p l e R s m args below meth c D cl A H0 n ad wf nL Q σ pc L (.ref x :: st) :=
  fun H locs ls hl hP hS => lv_ifnonnull C0.1.1 C0.1.2.1 d ht (K H locs ls hl hP hS)
theorem x_ifnonnullN (C0 : x_C p s m args meth c D cl tys A H0 n ad wf cc nL own ret) {off : Int} (d : decode cc pc = .ok (.ifnonnull off, 3)) (K : x_W p l e R s m args below meth c D cl A H0 n ad wf nL Q σ (pc + 3) L st) : x_W p l e R s m args below meth c D cl A H0 n ad wf nL Q σ pc L (.null :: st) :=
  fun H locs ls hl hP hS => lv_ifnonnullN C0.1.1 C0.1.2.1 d (K H locs ls hl hP hS)
theorem x_tableIn (C0 : x_C p s m args meth c D cl tys A H0 n ad wf cc nL own ret) {dflt lo hi : Int} {offs : Array Int} {len : Nat} {x : Int32} {off : Int} {tgt : Nat} (d : decode cc pc = .ok (.tableswitch dflt lo hi offs, len)) (h1 : ¬ x.toInt < lo) (h2 : ¬ hi < x.toInt) (ho : offs[(x.toInt - lo).toNat]? = some off) (ht : (pc : Int) + off = (tgt : Int)) (K : x_W p l e R s m args below meth c D cl A H0 n ad wf nL Q σ tgt L st) : x_W p l e R s m args below meth c D cl A H0 n ad wf nL Q σ pc L (.int x :: st) :=
  fun H locs ls hl hP hS => lv_tableIn C0.1.1 C0.1.2.1 d h1 h2 ho ht (K H locs ls hl hP hS)
theorem x_tableOut (C0 : x_C p s m args meth c D cl tys A H0 n ad wf cc nL own ret) {dflt lo hi : Int} {offs : Array Int} {len : Nat} {x : Int32} {tgt : Nat} (d : decode cc pc = .ok (.tableswitch dflt lo hi offs, len)) (h : x.toInt < lo ∨ hi < x.toInt) (ht : (pc : Int) + dflt = (tgt : Int)) (K : x_W p l e R s m args below meth c D cl A H0 n ad wf nL Q σ tgt L st) : x_W p l e R s m args below meth c D cl A H0 n ad wf nL Q σ pc L (.int x :: st) :=
  fun H locs ls hl hP hS => lv_tableOut C0.1.1 C0.1.2.1 d h ht (K H locs ls hl hP hS)
theorem x_lookup (C0 : x_C p s m args meth c D cl tys A H0 n ad wf cc nL own ret) {dflt : Int} {ps : Array (Int × Int)} {len : Nat} {x : Int32} {off : Int} {tgt : Nat} (d : decode cc pc = .ok (.lookupswitch dflt ps, len)) (hp : (ps.toList.zip (ps.toList.drop 1)).all (fun (a, next) => a.1 < next.1) = true) (ho : Op.lookupswitch.offset ps.toList dflt x.toInt = off) (ht : (pc : Int) + off = (tgt : Int)) (K : x_W p l e R s m args below meth c D cl A H0 n ad wf nL Q σ tgt L st) : x_W p l e R s m args below meth c D cl A H0 n ad wf nL Q σ pc L (.int x :: st) :=
  fun H locs ls hl hP hS => lv_lookup C0.1.1 C0.1.2.1 d hp ho ht (K H locs ls hl hP hS)
theorem x_get (C0 : x_C p s m args meth c D cl tys A H0 n ad wf cc nL own ret) {Cn : String} {T : u_T} {N ci index : Nat} (hin : ∀ w ∈ u_ws Cn T N, w ∈ lw_use) (hc : cl[ci]? = some (Cn, T, N)) (k : Nat) (hk : k < N) (hlink : Cond.fieldLink own index (T k).1 (T k).2.1 (T k).2.2.1 ∈ lw_use) {r : Nat} {fs : List Value} {v : Value} (hr : r < n) (hw : wf σ r = .inr (ci, fs)) (hv : fs[k]? = some v) (d : decode cc pc = .ok (.getfield index, 3)) (K : x_W p l e R s m args below meth c D cl A H0 n ad wf nL Q σ (pc + 3) L (v :: st)) : x_W p l e R s m args below meth c D cl A H0 n ad wf nL Q σ pc L (.ref (ad r) :: st) :=
  fun H locs ls hl hP hS => va_get C0.1.1 C0.1.2.1 C0.1.2.2.2.2 hin C0.1.2.2.2.1 C0.2.1 hP r (by rw [x_bl_get hr, hw]) hc k hk (C0.1.2.2.2.2 _ hlink) (fun _ q => q) hv d (K H locs ls hl hP hS)
theorem x_getN (C0 : x_C p s m args meth c D cl tys A H0 n ad wf cc nL own ret) {host : String} {Cn : String} {T : u_T} {N ci index : Nat} (hin : ∀ w ∈ u_ws Cn T N, w ∈ lw_use) (hc : cl[ci]? = some (Cn, T, N)) (k : Nat) (hk : k < N) (hlink : Cond.fieldLinkNest own index (T k).1 (T k).2.1 (T k).2.2.1 host ∈ lw_use) {r : Nat} {fs : List Value} {v : Value} (hr : r < n) (hw : wf σ r = .inr (ci, fs)) (hv : fs[k]? = some v) (d : decode cc pc = .ok (.getfield index, 3)) (K : x_W p l e R s m args below meth c D cl A H0 n ad wf nL Q σ (pc + 3) L (v :: st)) : x_W p l e R s m args below meth c D cl A H0 n ad wf nL Q σ pc L (.ref (ad r) :: st) :=
  fun H locs ls hl hP hS => va_getN C0.1.1 C0.1.2.1 C0.1.2.2.2.2 hin C0.1.2.2.2.1 C0.2.1 hP r (by rw [x_bl_get hr, hw]) hc k hk (C0.1.2.2.2.2 _ hlink) (fun _ q => q) hv d (K H locs ls hl hP hS)
theorem x_put (C0 : x_C p s m args meth c D cl tys A H0 n ad wf cc nL own ret) {Cn : String} {T : u_T} {N ci index : Nat} (hin : ∀ w ∈ u_ws Cn T N, w ∈ lw_use) (ty0 : Nat → FieldType) (hty : ∀ k, k < N → parseFieldDescriptor (T k).2.2.1 = some (ty0 k)) (hnm : ∀ a, a < N → ∀ b, b < N → a ≠ b → (T a).2.1 ≠ (T b).2.1) (hc : cl[ci]? = some (Cn, T, N)) (k : Nat) (hk : k < N) (hlink : Cond.fieldLink own index (T k).1 (T k).2.1 (T k).2.2.1 ∈ lw_use) (hfin : (T k).2.2.2 = false) {v : Value} (hn : narrow (ty0 k) v = v) (hfit : fits (ty0 k) v = true) {r : Nat} {fs : List Value} (hr : r < n) (hw : wf σ r = .inr (ci, fs)) (hl9 : k < fs.length) {σ' : xM} (hw' : wf σ' r = .inr (ci, fs.set k v)) (ho : ∀ r', r' ≠ r → ∀ k', σ r' k' = σ' r' k') (d : decode cc pc = .ok (.putfield index, 3)) (K : x_W p l e R s m args below meth c D cl A H0 n ad wf nL Q σ' (pc + 3) L st) : x_W p l e R s m args below meth c D cl A H0 n ad wf nL Q σ pc L (v :: .ref (ad r) :: st) :=
  fun H locs ls hl hP hS => va_put C0.1.1 C0.1.2.1 C0.1.2.2.2.2 hin ty0 hty hnm C0.1.2.2.2.1 C0.2.1 hP (C0.2.2.1 σ) hS r (by rw [x_bl_get hr, hw]) hc k hk (C0.1.2.2.2.2 _ hlink) (fun _ q => q) hfin (hty k hk) hn hfit hl9 d (fun H1 locs1 hP1 hD1 hS1 => K H1 locs1 ls hl (by rw [x_bl_set C0.2.2.2.2.1 hr hw' ho] at hP1; exact hP1) hS1)
theorem x_putN (C0 : x_C p s m args meth c D cl tys A H0 n ad wf cc nL own ret) {host : String} {Cn : String} {T : u_T} {N ci index : Nat} (hin : ∀ w ∈ u_ws Cn T N, w ∈ lw_use) (ty0 : Nat → FieldType) (hty : ∀ k, k < N → parseFieldDescriptor (T k).2.2.1 = some (ty0 k)) (hnm : ∀ a, a < N → ∀ b, b < N → a ≠ b → (T a).2.1 ≠ (T b).2.1) (hc : cl[ci]? = some (Cn, T, N)) (k : Nat) (hk : k < N) (hlink : Cond.fieldLinkNest own index (T k).1 (T k).2.1 (T k).2.2.1 host ∈ lw_use) (hfin : (T k).2.2.2 = false) {v : Value} (hn : narrow (ty0 k) v = v) (hfit : fits (ty0 k) v = true) {r : Nat} {fs : List Value} (hr : r < n) (hw : wf σ r = .inr (ci, fs)) (hl9 : k < fs.length) {σ' : xM} (hw' : wf σ' r = .inr (ci, fs.set k v)) (ho : ∀ r', r' ≠ r → ∀ k', σ r' k' = σ' r' k') (d : decode cc pc = .ok (.putfield index, 3)) (K : x_W p l e R s m args below meth c D cl A H0 n ad wf nL Q σ' (pc + 3) L st) : x_W p l e R s m args below meth c D cl A H0 n ad wf nL Q σ pc L (v :: .ref (ad r) :: st) :=
  fun H locs ls hl hP hS => va_putN C0.1.1 C0.1.2.1 C0.1.2.2.2.2 hin ty0 hty hnm C0.1.2.2.2.1 C0.2.1 hP (C0.2.2.1 σ) hS r (by rw [x_bl_get hr, hw]) hc k hk (C0.1.2.2.2.2 _ hlink) (fun _ q => q) hfin (hty k hk) hn hfit hl9 d (fun H1 locs1 hP1 hD1 hS1 => K H1 locs1 ls hl (by rw [x_bl_set C0.2.2.2.2.1 hr hw' ho] at hP1; exact hP1) hS1)
theorem x_iald (C0 : x_C p s m args meth c D cl tys A H0 n ad wf cc nL own ret) {ρ : Type} {cA : ClassId} {nn : Nat} {f : Nat → Int32} (t0 : Nat) (ht : tys[t0]? = some (cA, .int)) {r : Nat} (hr : r < n) (hw : wf σ r = .inl (cA, nn, .inl f)) {i : Int32} (d : decode cc pc = .ok (.iaload, 1)) {b : Option ρ} {res : ρ} (h : (if i < 0 ∨ nn ≤ i.toNatClampNeg then none else b) = some res) (K : ¬ (i < 0 ∨ nn ≤ i.toNatClampNeg) → b = some res → x_W p l e R s m args below meth c D cl A H0 n ad wf nL Q σ (pc + 1) L (.int (f i.toNatClampNeg) :: st)) : x_W p l e R s m args below meth c D cl A H0 n ad wf nL Q σ pc L (.int i :: .ref (ad r) :: st) :=
  by
  by_cases hi : i < 0 ∨ nn ≤ i.toNatClampNeg
  · rw [if_pos hi] at h; cases h
  · rw [if_neg hi] at h
    exact fun H locs ls hl hP hS => va_iald C0.1.1 C0.1.2.1 C0.2.1 hP r t0 (by rw [x_bl_get hr, hw]) ht hi d (K hi h H locs ls hl hP hS)
theorem x_cald (C0 : x_C p s m args meth c D cl tys A H0 n ad wf cc nL own ret) {ρ : Type} {cA : ClassId} {nn : Nat} {f : Nat → Int32} (t0 : Nat) (ht : tys[t0]? = some (cA, .char)) {r : Nat} (hr : r < n) (hw : wf σ r = .inl (cA, nn, .inl f)) {i : Int32} (d : decode cc pc = .ok (.caload, 1)) {b : Option ρ} {res : ρ} (h : (if i < 0 ∨ nn ≤ i.toNatClampNeg then none else b) = some res) (K : ¬ (i < 0 ∨ nn ≤ i.toNatClampNeg) → b = some res → x_W p l e R s m args below meth c D cl A H0 n ad wf nL Q σ (pc + 1) L (.int (f i.toNatClampNeg) :: st)) : x_W p l e R s m args below meth c D cl A H0 n ad wf nL Q σ pc L (.int i :: .ref (ad r) :: st) :=
  by
  by_cases hi : i < 0 ∨ nn ≤ i.toNatClampNeg
  · rw [if_pos hi] at h; cases h
  · rw [if_neg hi] at h
    exact fun H locs ls hl hP hS => va_cald C0.1.1 C0.1.2.1 C0.2.1 hP r t0 (by rw [x_bl_get hr, hw]) ht hi d (K hi h H locs ls hl hP hS)
theorem x_aald (C0 : x_C p s m args meth c D cl tys A H0 n ad wf cc nL own ret) {ρ : Type} {cA : ClassId} {Cn : String} {nn : Nat} {f : Nat → Option Nat} (t0 : Nat) (ht : tys[t0]? = some (cA, .object Cn)) {r : Nat} (hr : r < n) (hw : wf σ r = .inl (cA, nn, .inr (.inr (.inr (.inr f))))) {i : Int32} (d : decode cc pc = .ok (.aaload, 1)) {b : Option ρ} {res : ρ} (h : (if i < 0 ∨ nn ≤ i.toNatClampNeg then none else b) = some res) (K : ¬ (i < 0 ∨ nn ≤ i.toNatClampNeg) → b = some res → x_W p l e R s m args below meth c D cl A H0 n ad wf nL Q σ (pc + 1) L (va_rf (f i.toNatClampNeg) :: st)) : x_W p l e R s m args below meth c D cl A H0 n ad wf nL Q σ pc L (.int i :: .ref (ad r) :: st) :=
  by
  by_cases hi : i < 0 ∨ nn ≤ i.toNatClampNeg
  · rw [if_pos hi] at h; cases h
  · rw [if_neg hi] at h
    exact fun H locs ls hl hP hS => va_aldq C0.1.1 C0.1.2.1 C0.2.1 hP r t0 (by rw [x_bl_get hr, hw]) ht hi d (K hi h H locs ls hl hP hS)
theorem x_iast (C0 : x_C p s m args meth c D cl tys A H0 n ad wf cc nL own ret) {ρ : Type} {cA : ClassId} {nn : Nat} {f : Nat → Int32} (t0 : Nat) (ht : tys[t0]? = some (cA, .int)) {r : Nat} (hr : r < n) (hw : wf σ r = .inl (cA, nn, .inl f)) {i x : Int32} {σ' : xM} (hw' : wf σ' r = .inl (cA, nn, .inl (upd f i.toNatClampNeg x))) (ho : ∀ r', r' ≠ r → ∀ k', σ r' k' = σ' r' k') (d : decode cc pc = .ok (.iastore, 1)) {b : Option ρ} {res : ρ} (h : (if i < 0 ∨ nn ≤ i.toNatClampNeg then none else b) = some res) (K : ¬ (i < 0 ∨ nn ≤ i.toNatClampNeg) → b = some res → x_W p l e R s m args below meth c D cl A H0 n ad wf nL Q σ' (pc + 1) L st) : x_W p l e R s m args below meth c D cl A H0 n ad wf nL Q σ pc L (.int x :: .int i :: .ref (ad r) :: st) :=
  by
  by_cases hi : i < 0 ∨ nn ≤ i.toNatClampNeg
  · rw [if_pos hi] at h; cases h
  · rw [if_neg hi] at h
    exact fun H locs ls hl hP hS => va_iast C0.1.1 C0.1.2.1 C0.2.1 hP (C0.2.2.1 σ) hS r t0 (by rw [x_bl_get hr, hw]) ht hi d (fun H1 locs1 hP1 hD1 hS1 => K hi h H1 locs1 ls hl (by rw [x_bl_set C0.2.2.2.2.1 hr hw' ho] at hP1; exact hP1) hS1)
theorem x_cast (C0 : x_C p s m args meth c D cl tys A H0 n ad wf cc nL own ret) {ρ : Type} {cA : ClassId} {nn : Nat} {f : Nat → Int32} (t0 : Nat) (ht : tys[t0]? = some (cA, .char)) {r : Nat} (hr : r < n) (hw : wf σ r = .inl (cA, nn, .inl f)) {i x : Int32} {σ' : xM} (hw' : wf σ' r = .inl (cA, nn, .inl (upd f i.toNatClampNeg (vp_nar .char x)))) (ho : ∀ r', r' ≠ r → ∀ k', σ r' k' = σ' r' k') (d : decode cc pc = .ok (.castore, 1)) {b : Option ρ} {res : ρ} (h : (if i < 0 ∨ nn ≤ i.toNatClampNeg then none else b) = some res) (K : ¬ (i < 0 ∨ nn ≤ i.toNatClampNeg) → b = some res → x_W p l e R s m args below meth c D cl A H0 n ad wf nL Q σ' (pc + 1) L st) : x_W p l e R s m args below meth c D cl A H0 n ad wf nL Q σ pc L (.int x :: .int i :: .ref (ad r) :: st) :=
  by
  by_cases hi : i < 0 ∨ nn ≤ i.toNatClampNeg
  · rw [if_pos hi] at h; cases h
  · rw [if_neg hi] at h
    exact fun H locs ls hl hP hS => va_cast C0.1.1 C0.1.2.1 C0.2.1 hP (C0.2.2.1 σ) hS r t0 (by rw [x_bl_get hr, hw]) ht hi d (fun H1 locs1 hP1 hD1 hS1 => K hi h H1 locs1 ls hl (by rw [x_bl_set C0.2.2.2.2.1 hr hw' ho] at hP1; exact hP1) hS1)
theorem x_aast (C0 : x_C p s m args meth c D cl tys A H0 n ad wf cc nL own ret) {ρ : Type} {cA : ClassId} {rc : vw_C} {nn ci : Nat} {vs : List Value} {f : Nat → Option Nat} (t0 : Nat) (ht : tys[t0]? = some (cA, .object rc.1)) {r rv : Nat} (hr : r < n) (hrv : rv < n) (hw : wf σ r = .inl (cA, nn, .inr (.inr (.inr (.inr f))))) (hwv : wf σ rv = .inr (ci, vs)) (hc : cl[ci]? = some rc) {i : Int32} {σ' : xM} (hw' : wf σ' r = .inl (cA, nn, .inr (.inr (.inr (.inr (va_up f i.toNatClampNeg (some (ad rv)))))))) (ho : ∀ r', r' ≠ r → ∀ k', σ r' k' = σ' r' k') (d : decode cc pc = .ok (.aastore, 1)) {b : Option ρ} {res : ρ} (h : (if i < 0 ∨ nn ≤ i.toNatClampNeg then none else b) = some res) (K : ¬ (i < 0 ∨ nn ≤ i.toNatClampNeg) → b = some res → x_W p l e R s m args below meth c D cl A H0 n ad wf nL Q σ' (pc + 1) L st) : x_W p l e R s m args below meth c D cl A H0 n ad wf nL Q σ pc L (.ref (ad rv) :: .int i :: .ref (ad r) :: st) :=
  by
  by_cases hi : i < 0 ∨ nn ≤ i.toNatClampNeg
  · rw [if_pos hi] at h; cases h
  · rw [if_neg hi] at h
    exact fun H locs ls hl hP hS => va_astq C0.1.1 C0.1.2.1 C0.2.1 hP (C0.2.2.1 σ) hS r t0 rv ci (by rw [x_bl_get hr, hw]) ht (by rw [x_bl_get hrv, hwv]) hc hi d (fun H1 locs1 hP1 hD1 hS1 => K hi h H1 locs1 ls hl (by rw [x_bl_set C0.2.2.2.2.1 hr hw' ho] at hP1; exact hP1) hS1)
theorem x_alen (C0 : x_C p s m args meth c D cl tys A H0 n ad wf cc nL own ret) {cA : ClassId} {x : vp_A} {ty : FieldType} (t0 : Nat) (ht : tys[t0]? = some (cA, ty)) {r : Nat} (hr : r < n) (hw : wf σ r = .inl (cA, x)) (d : decode cc pc = .ok (.arraylength, 1)) (K : x_W p l e R s m args below meth c D cl A H0 n ad wf nL Q σ (pc + 1) L (.int (Int32.ofNat x.1) :: st)) : x_W p l e R s m args below meth c D cl A H0 n ad wf nL Q σ pc L (.ref (ad r) :: st) :=
  fun H locs ls hl hP hS => va_alen C0.1.1 C0.1.2.1 C0.2.1 hP r t0 (by rw [x_bl_get hr, hw]) ht rfl d (K H locs ls hl hP hS)
theorem x_top {v v' : Value} (hv : v = v') (K : x_W p l e R s m args below meth c D cl A H0 n ad wf nL Q σ pc L (v' :: st)) : x_W p l e R s m args below meth c D cl A H0 n ad wf nL Q σ pc L (v :: st) := hv ▸ K
theorem x_mmax (C0 : x_C p s m args meth c D cl tys A H0 n ad wf cc nL own ret) {index : Nat} (hlink : Cond.methodLink own index Lib.Math.max.name ∈ lw_use) (hstat : Cond.static Lib.Math.max.name ∈ lw_use) (hini : Cond.initialized "java/lang/Math" ∈ lw_use) (hcode : Cond.code Lib.Math.max.name Lib.Math.max.code 2 (some .int) ∈ lw_use) (hR : 1 ≤ R.frames ∧ (st.map fun v => v.category).sum + 13 ≤ R.locals) {x y : Int32} (d : decode cc pc = .ok (.invokestatic index, 3)) (K : x_W p l e R s m args below meth c D cl A H0 n ad wf nL Q σ (pc + 3) L (.int (if x < y then y else x) :: st)) : x_W p l e R s m args below meth c D cl A H0 n ad wf nL Q σ pc L (.int y :: .int x :: st) :=
  fun H locs ls hl hP hS => va_mmax C0.1.1 C0.1.2.1 (C0.1.2.2.1.trans hl.1.symm) C0.1.2.2.2.1 (C0.1.2.2.2.2 _ hlink) (C0.1.2.2.2.2 _ hstat) (C0.1.2.2.2.2 _ hini) (C0.1.2.2.2.2 _ hcode) hR.1 hR.2 (Nat.zero_le _) (Nat.zero_le _) d (K H locs ls hl hP hS)
theorem x_mmin (C0 : x_C p s m args meth c D cl tys A H0 n ad wf cc nL own ret) {index : Nat} (hlink : Cond.methodLink own index Lib.Math.min.name ∈ lw_use) (hstat : Cond.static Lib.Math.min.name ∈ lw_use) (hini : Cond.initialized "java/lang/Math" ∈ lw_use) (hcode : Cond.code Lib.Math.min.name Lib.Math.min.code 2 (some .int) ∈ lw_use) (hR : 1 ≤ R.frames ∧ (st.map fun v => v.category).sum + 13 ≤ R.locals) {x y : Int32} (d : decode cc pc = .ok (.invokestatic index, 3)) (K : x_W p l e R s m args below meth c D cl A H0 n ad wf nL Q σ (pc + 3) L (.int (if y < x then y else x) :: st)) : x_W p l e R s m args below meth c D cl A H0 n ad wf nL Q σ pc L (.int y :: .int x :: st) :=
  fun H locs ls hl hP hS => va_mmin C0.1.1 C0.1.2.1 (C0.1.2.2.1.trans hl.1.symm) C0.1.2.2.2.1 (C0.1.2.2.2.2 _ hlink) (C0.1.2.2.2.2 _ hstat) (C0.1.2.2.2.2 _ hini) (C0.1.2.2.2.2 _ hcode) hR.1 hR.2 (Nat.zero_le _) (Nat.zero_le _) d (K H locs ls hl hP hS)
theorem x_mabs (C0 : x_C p s m args meth c D cl tys A H0 n ad wf cc nL own ret) {index : Nat} (hlink : Cond.methodLink own index Lib.Math.abs.name ∈ lw_use) (hstat : Cond.static Lib.Math.abs.name ∈ lw_use) (hini : Cond.initialized "java/lang/Math" ∈ lw_use) (hcode : Cond.code Lib.Math.abs.name Lib.Math.abs.code 1 (some .int) ∈ lw_use) (hR : 1 ≤ R.frames ∧ (st.map fun v => v.category).sum + 13 ≤ R.locals) {x : Int32} (d : decode cc pc = .ok (.invokestatic index, 3)) (K : x_W p l e R s m args below meth c D cl A H0 n ad wf nL Q σ (pc + 3) L (.int (if 0 ≤ x then x else 0 - x) :: st)) : x_W p l e R s m args below meth c D cl A H0 n ad wf nL Q σ pc L (.int x :: st) :=
  fun H locs ls hl hP hS => va_mabs C0.1.1 C0.1.2.1 (C0.1.2.2.1.trans hl.1.symm) C0.1.2.2.2.1 (C0.1.2.2.2.2 _ hlink) (C0.1.2.2.2.2 _ hstat) (C0.1.2.2.2.2 _ hini) (C0.1.2.2.2.2 _ hcode) hR.1 (by first | exact hR.2 | exact Nat.le_trans (by omega) hR.2) (Nat.zero_le _) (Nat.zero_le _) d (K H locs ls hl hP hS)
theorem x_iret {v : Int32} (C0 : x_C p s m args meth c D cl tys A s.heap n ad wf cc nL own (some .int)) (d : decode cc pc = .ok (.ireturn, 1)) : x_W p l e R s m args below meth c D cl A s.heap n ad wf nL (x_E below args s D cl n ad wf A (some (.int v)) σ) σ pc L [.int v] :=
  fun H locs ls hl hP hS => W.iret C0.1.1 C0.1.2.1 C0.2.2.2.2.2.2.1 (fun t ht hW => ⟨⟨rfl, by subst ht; exact hP⟩, hS.F ht⟩) hS.2.2 d C0.2.2.2.2.2.1
theorem x_zret {v : Int32} {rt : FieldType} (C0 : x_C p s m args meth c D cl tys A s.heap n ad wf cc nL own (some rt)) (hn : narrow rt (.int v) = .int v) (d : decode cc pc = .ok (.ireturn, 1)) : x_W p l e R s m args below meth c D cl A s.heap n ad wf nL (x_E below args s D cl n ad wf A (some (.int v)) σ) σ pc L [.int v] :=
  fun H locs ls hl hP hS => W.zret C0.1.1 C0.1.2.1 C0.2.2.2.2.2.2.1 hn (fun t ht hW => ⟨⟨rfl, by subst ht; exact hP⟩, hS.F ht⟩) hS.2.2 d C0.2.2.2.2.2.1
theorem x_vret (C0 : x_C p s m args meth c D cl tys A s.heap n ad wf cc nL own none) (d : decode cc pc = .ok (.return_, 1)) : x_W p l e R s m args below meth c D cl A s.heap n ad wf nL (x_E below args s D cl n ad wf A none σ) σ pc L [] :=
  fun H locs ls hl hP hS => W.vret C0.1.1 C0.1.2.1 C0.2.2.2.2.2.2.1 (fun t ht hW => ⟨⟨rfl, by subst ht; exact hP⟩, hS.F ht⟩) hS.2.2 d C0.2.2.2.2.2.1
theorem x_aret {v : Value} {rt : FieldType} (C0 : x_C p s m args meth c D cl tys A s.heap n ad wf cc nL own (some rt)) (hrt : (∃ n, rt = .object n) ∨ ∃ t, rt = .array t) (hv : v = .null ∨ ∃ a, v = .ref a) (d : decode cc pc = .ok (.areturn, 1)) : x_W p l e R s m args below meth c D cl A s.heap n ad wf nL (x_E below args s D cl n ad wf A (some v) σ) σ pc L [v] :=
  fun H locs ls hl hP hS => W.aret C0.1.1 C0.1.2.1 C0.2.2.2.2.2.2.1 hrt hv (fun t ht hW => ⟨⟨rfl, by subst ht; exact hP⟩, hS.F ht⟩) hS.2.2 d C0.2.2.2.2.2.1

theorem x_callK (C0 : x_C p s m args meth c D cl tys A H0 n ad wf cc nL own ret) {n' : Nat} {ι : Nat → Nat} {wf' : xM → Nat → va_E} {τ τ' : xM} {val : Option Value} {a : Array Value} {st0 : List Value}
    (hι : ∀ r, r < n' → ι r < n) (hinj : ∀ i j, i < n' → j < n' → ι i = ι j → i = j) (hwf : ∀ r, r < n' → wf σ (ι r) = wf' τ r) {σ' : xM} (hwf' : ∀ r, r < n' → wf σ' (ι r) = wf' τ' r) (hsame : ∀ r, r < n → (∀ i, i < n' → ι i ≠ r) → ∀ k, σ r k = σ' r k)
    (hrun : ∀ (H : Heap) (locs : List Loc) (ls : Array Slot), lv_has ls nL L → va_P D cl (x_bl n' (fun r => ad (ι r)) wf' τ) H → va_D (fun _ => True) (x_bl n' (fun r => ad (ι r)) wf' τ) → va_Run p l e R s m args below meth c H locs 0 0 0 0 (F0 m pc ls st0) st (x_Q val (fun t => va_P D cl (x_bl n' (fun r => ad (ι r)) wf' τ') t.heap) (va_A (x_bl n' (fun r => ad (ι r)) wf' τ) H.size) a) (va_A (x_bl n' (fun r => ad (ι r)) wf' τ) H.size))
    (K : x_W p l e R s m args below meth c D cl A H0 n ad wf nL Q σ' (pc + 3) L (val.toList ++ st)) : x_W p l e R s m args below meth c D cl A H0 n ad wf nL Q σ pc L st0 := by
  intro H locs ls hl hP hS
  have hD := C0.2.2.1 σ
  have hPc : va_P D cl (x_bl n' (fun r => ad (ι r)) wf' τ) H := fun k q hq => by
    obtain ⟨hk, rfl⟩ := x_bl_mem hq
    have h := hP (ι k) _ (x_bl_get (hι k hk))
    rw [hwf k hk] at h
    exact h
  have hDc : va_D (fun _ => True) (x_bl n' (fun r => ad (ι r)) wf' τ) := ⟨fun i j x y hx hy hxy => by
    obtain ⟨hi, rfl⟩ := x_bl_mem hx
    obtain ⟨hj, rfl⟩ := x_bl_mem hy
    exact hinj i j hi hj (hD.1 (ι i) (ι j) _ _ (x_bl_get (hι i hi)) (x_bl_get (hι j hj)) hxy), fun _ _ _ => trivial⟩
  have hF : ∀ q, va_A (x_bl n' (fun r => ad (ι r)) wf' τ) H.size q → A q := fun q hq => by
    rcases hq with ⟨k, e9, hq⟩ | hq
    · obtain ⟨hk, e8⟩ := x_bl_mem hq
      rw [(Prod.mk.inj e8).1]
      exact hD.2 (ι k) _ (x_bl_get (hι k hk))
    · exact C0.2.2.2.1 q (Nat.le_trans hS.1 hq)
  intro T hT X
  obtain ⟨v, st₀, t, T', L', h0, X', hL, e1, e2, ⟨⟨hv, hb⟩, hz, hk⟩, go⟩ := hrun H locs ls hl hPc hDc T hT X
  cases hv
  rw [h0] at hz hk
  have hS1 : va_S A H0 T'.heap (locs ++ L') := ⟨Nat.le_trans hS.1 (by rw [e1]; exact hz), fun q h1 h2 => by rw [e1, hk q (Nat.lt_of_lt_of_le h1 hS.1) (fun z => h2 (hF q z))]; exact hS.2.1 q h1 h2, fun q hq => by
      rcases List.mem_append.mp hq with h | h
      · exact hS.2.2 q h
      · exact hF _ (hL q h)⟩
  have hP1 : va_P D cl (x_bl n ad wf σ') T'.heap := by
    intro k q hq
    obtain ⟨hkn, rfl⟩ := x_bl_mem hq
    by_cases hex : ∃ i, i < n' ∧ ι i = k
    · obtain ⟨i, hi, rfl⟩ := hex
      have h := hb i _ (x_bl_get hi)
      rw [e1, hwf' i hi]
      exact h
    · have hne : ∀ i, i < n' → ι i ≠ k := fun i hi q => hex ⟨i, hi, q⟩
      have hw : wf σ k = wf σ' k := C0.2.2.2.2.1 σ σ' k (hsame k hkn hne)
      have h1 := hP k _ (x_bl_get hkn)
      rw [← hw]
      refine h1.kept ?_
      rw [e1]
      refine hk _ h1.lt (fun z => ?_)
      rcases z with ⟨i, e9, z⟩ | z
      · obtain ⟨hi, e8⟩ := x_bl_mem z
        exact hne i hi (hD.1 k (ι i) _ _ (x_bl_get hkn) (x_bl_get (hι i hi)) (Prod.mk.inj e8).1).symm
      · exact Nat.lt_irrefl _ (Nat.lt_of_lt_of_le h1.lt z)
  obtain ⟨t2, a1, b1⟩ := K T'.heap (locs ++ L') ls hl hP1 hS1 T' rfl X'
  exact ⟨t2, go t2 a1, b1⟩
theorem x_blind {av : List Value} {sz : Nat} {w : va_W} : FrameBlind (va_Pc av (fun U => U.heap.size = sz ∧ va_P D cl w U.heap ∧ va_K D cl tys U ∧ va_D (fun _ => True) w ∧ x_N U)) :=
  fun a U g mk q => by obtain ⟨q0, q1, qP, qK, qD, qN⟩ := q; exact ⟨q0, q1, qP, va_K.moved (u := U) (U := U.calling g mk a) (Vm.Alike.refl U.vm) qK, qD, x_N_same (s := U) (U := U.calling g mk a) rfl qN⟩

theorem x_runV (C0 : x_C p s m args meth c D cl tys A H0 n ad wf cc nL own ret) {n' : Nat} {ad' : Nat → Nat} {wf' : xM → Nat → va_E} {τ τ' : xM} {val : Option Value} {y : MethodName} {bytes : ByteArray} {mxl index k9 : Nat} {rty : Option FieldType} {ws : List Cond} {rm : Room} {As : List Value} {b : Nat} {T : u_T} {N ci r : Nat} {fs : List Value} {Cn : String} (hM : x_Met l y ws rm D cl tys n' ad' wf' (.ref b :: As) τ val τ') (cw : CallW R s args own Cn index y bytes mxl rty ws rm 0 0 k9) (hr : r < n') (hb9 : ad' r = b) (hw : wf' τ r = .inr (ci, fs)) (hc : cl[ci]? = some (Cn, T, N)) (hn : As.length = k9) (hW : (st.map fun v => v.category).sum ≤ 8) (d : decode cc pc = .ok (.invokevirtual index, 3)) : ∀ (H : Heap) (locs : List Loc) (ls : Array Slot), lv_has ls nL L → va_P D cl (x_bl n' ad' wf' τ) H → va_D (fun _ => True) (x_bl n' ad' wf' τ) → va_Run p l e R s m args below meth c H locs 0 0 0 0 (F0 m pc ls (As.reverse ++ .ref b :: st)) st (x_Q val (fun t => va_P D cl (x_bl n' ad' wf' τ') t.heap) (va_A (x_bl n' ad' wf' τ) H.size) (Value.ref b :: As).toArray) (va_A (x_bl n' ad' wf' τ) H.size) :=
  fun H locs ls hl hPc hDc => va_runV C0.1 (hM H.size) cw ⟨x_blind, va_recv C0.2.1 hPc hc (q0 := r) (by rw [x_bl_get hr, hw, hb9]), fun U hU hW => ⟨rfl, by rw [hU], by rw [hU]; exact hPc, va_K.moved hW.alike C0.2.1, hDc, x_N_warm hW C0.2.2.2.2.2.2.2⟩⟩ rfl hn hl.1 rfl (lv_room hW) d ⟨Nat.zero_le _, Nat.zero_le _⟩
theorem x_callV (C0 : x_C p s m args meth c D cl tys A H0 n ad wf cc nL own ret) {σ' : xM} {val : Option Value} {y : MethodName} {bytes : ByteArray} {mxl index k9 : Nat} {rty : Option FieldType} {ws : List Cond} {rm : Room} {As : List Value} {b : Nat} {T : u_T} {N ci r : Nat} {fs : List Value} {Cn : String} (hM : x_Met l y ws rm D cl tys n ad wf (.ref b :: As) σ val σ') (cw : CallW R s args own Cn index y bytes mxl rty ws rm 0 0 k9) (hr : r < n) (hb9 : ad r = b) (hw : wf σ r = .inr (ci, fs)) (hc : cl[ci]? = some (Cn, T, N)) (hn : As.length = k9) (hW : (st.map fun v => v.category).sum ≤ 8) (d : decode cc pc = .ok (.invokevirtual index, 3)) (K : x_W p l e R s m args below meth c D cl A H0 n ad wf nL Q σ' (pc + 3) L (val.toList ++ st)) : x_W p l e R s m args below meth c D cl A H0 n ad wf nL Q σ pc L (As.reverse ++ .ref b :: st) :=
  x_callK C0 (n' := n) (ι := fun r => r) (wf' := wf) (τ := σ) (τ' := σ') (fun _ h => h) (fun _ _ _ _ h => h) (fun _ _ => rfl) (fun _ _ => rfl) (fun r hr h => absurd rfl (h r hr)) (x_runV C0 hM cw hr hb9 hw hc hn hW d) K
theorem x_runVN (C0 : x_C p s m args meth c D cl tys A H0 n ad wf cc nL own ret) {n' : Nat} {ad' : Nat → Nat} {wf' : xM → Nat → va_E} {τ τ' : xM} {val : Option Value} {y : MethodName} {bytes : ByteArray} {mxl index k9 : Nat} {rty : Option FieldType} {ws : List Cond} {rm : Room} {As : List Value} {b : Nat} {T : u_T} {N ci r : Nat} {fs : List Value} {Cn : String} {host : String} (hM : x_Met l y ws rm D cl tys n' ad' wf' (.ref b :: As) τ val τ') (cw : va_CN R s args own index y host bytes mxl rty ws rm 0 0 k9 ∧ (Cond.instanceMethod y).before args s = true ∧ (Cond.selects Cn y y).before args s = true) (hr : r < n') (hb9 : ad' r = b) (hw : wf' τ r = .inr (ci, fs)) (hc : cl[ci]? = some (Cn, T, N)) (hn : As.length = k9) (hW : (st.map fun v => v.category).sum ≤ 8) (d : decode cc pc = .ok (.invokevirtual index, 3)) : ∀ (H : Heap) (locs : List Loc) (ls : Array Slot), lv_has ls nL L → va_P D cl (x_bl n' ad' wf' τ) H → va_D (fun _ => True) (x_bl n' ad' wf' τ) → va_Run p l e R s m args below meth c H locs 0 0 0 0 (F0 m pc ls (As.reverse ++ .ref b :: st)) st (x_Q val (fun t => va_P D cl (x_bl n' ad' wf' τ') t.heap) (va_A (x_bl n' ad' wf' τ) H.size) (Value.ref b :: As).toArray) (va_A (x_bl n' ad' wf' τ) H.size) :=
  fun H locs ls hl hPc hDc => va_runVN C0.1 (hM H.size) cw ⟨x_blind, va_recv C0.2.1 hPc hc (q0 := r) (by rw [x_bl_get hr, hw, hb9]), fun U hU hW => ⟨rfl, by rw [hU], by rw [hU]; exact hPc, va_K.moved hW.alike C0.2.1, hDc, x_N_warm hW C0.2.2.2.2.2.2.2⟩⟩ rfl hn hl.1 rfl (lv_room hW) d ⟨Nat.zero_le _, Nat.zero_le _⟩
theorem x_callVN (C0 : x_C p s m args meth c D cl tys A H0 n ad wf cc nL own ret) {σ' : xM} {val : Option Value} {y : MethodName} {bytes : ByteArray} {mxl index k9 : Nat} {rty : Option FieldType} {ws : List Cond} {rm : Room} {As : List Value} {b : Nat} {T : u_T} {N ci r : Nat} {fs : List Value} {Cn : String} {host : String} (hM : x_Met l y ws rm D cl tys n ad wf (.ref b :: As) σ val σ') (cw : va_CN R s args own index y host bytes mxl rty ws rm 0 0 k9 ∧ (Cond.instanceMethod y).before args s = true ∧ (Cond.selects Cn y y).before args s = true) (hr : r < n) (hb9 : ad r = b) (hw : wf σ r = .inr (ci, fs)) (hc : cl[ci]? = some (Cn, T, N)) (hn : As.length = k9) (hW : (st.map fun v => v.category).sum ≤ 8) (d : decode cc pc = .ok (.invokevirtual index, 3)) (K : x_W p l e R s m args below meth c D cl A H0 n ad wf nL Q σ' (pc + 3) L (val.toList ++ st)) : x_W p l e R s m args below meth c D cl A H0 n ad wf nL Q σ pc L (As.reverse ++ .ref b :: st) :=
  x_callK C0 (n' := n) (ι := fun r => r) (wf' := wf) (τ := σ) (τ' := σ') (fun _ h => h) (fun _ _ _ _ h => h) (fun _ _ => rfl) (fun _ _ => rfl) (fun r hr h => absurd rfl (h r hr)) (x_runVN C0 hM cw hr hb9 hw hc hn hW d) K
theorem x_runS (C0 : x_C p s m args meth c D cl tys A H0 n ad wf cc nL own ret) {n' : Nat} {ad' : Nat → Nat} {wf' : xM → Nat → va_E} {τ τ' : xM} {val : Option Value} {y : MethodName} {bytes : ByteArray} {mxl index k9 : Nat} {rty : Option FieldType} {ws : List Cond} {rm : Room} {As : List Value} (hM : x_Met l y ws rm D cl tys n' ad' wf' As τ val τ') (cw : CallB R s args own index y bytes mxl rty ws rm 0 0 k9 ∧ (Cond.static y).before args s = true) (hn : As.length = k9) (hW : (st.map fun v => v.category).sum ≤ 8) (d : decode cc pc = .ok (.invokestatic index, 3)) : ∀ (H : Heap) (locs : List Loc) (ls : Array Slot), lv_has ls nL L → va_P D cl (x_bl n' ad' wf' τ) H → va_D (fun _ => True) (x_bl n' ad' wf' τ) → va_Run p l e R s m args below meth c H locs 0 0 0 0 (F0 m pc ls (As.reverse ++ st)) st (x_Q val (fun t => va_P D cl (x_bl n' ad' wf' τ') t.heap) (va_A (x_bl n' ad' wf' τ) H.size) As.toArray) (va_A (x_bl n' ad' wf' τ) H.size) :=
  fun H locs ls hl hPc hDc => va_runS C0.1 (hM H.size) cw ⟨x_blind, fun U hU hW => ⟨rfl, by rw [hU], by rw [hU]; exact hPc, va_K.moved hW.alike C0.2.1, hDc, x_N_warm hW C0.2.2.2.2.2.2.2⟩⟩ rfl hn hl.1 rfl (lv_room hW) d ⟨Nat.zero_le _, Nat.zero_le _⟩
theorem x_callS (C0 : x_C p s m args meth c D cl tys A H0 n ad wf cc nL own ret) {σ' : xM} {val : Option Value} {y : MethodName} {bytes : ByteArray} {mxl index k9 : Nat} {rty : Option FieldType} {ws : List Cond} {rm : Room} {As : List Value} (hM : x_Met l y ws rm D cl tys n ad wf As σ val σ') (cw : CallB R s args own index y bytes mxl rty ws rm 0 0 k9 ∧ (Cond.static y).before args s = true) (hn : As.length = k9) (hW : (st.map fun v => v.category).sum ≤ 8) (d : decode cc pc = .ok (.invokestatic index, 3)) (K : x_W p l e R s m args below meth c D cl A H0 n ad wf nL Q σ' (pc + 3) L (val.toList ++ st)) : x_W p l e R s m args below meth c D cl A H0 n ad wf nL Q σ pc L (As.reverse ++ st) :=
  x_callK C0 (n' := n) (ι := fun r => r) (wf' := wf) (τ := σ) (τ' := σ') (fun _ h => h) (fun _ _ _ _ h => h) (fun _ _ => rfl) (fun _ _ => rfl) (fun r hr h => absurd rfl (h r hr)) (x_runS C0 hM cw hn hW d) K
theorem x_pureS (C0 : x_C p s m args meth c D cl tys A H0 n ad wf cc nL own ret) {wf' : xM → Nat → va_E} {τ τ' : xM} {val : Option Value} {y : MethodName} {bytes : ByteArray} {mxl index k9 : Nat} {rty : Option FieldType} {ws : List Cond} {rm : Room} {As : List Value} (hM : ∀ ad', x_Met l y ws rm D cl tys 0 ad' wf' As τ val τ') (cw : CallB R s args own index y bytes mxl rty ws rm 0 0 k9 ∧ (Cond.static y).before args s = true) (hn : As.length = k9) (hW : (st.map fun v => v.category).sum ≤ 8) (d : decode cc pc = .ok (.invokestatic index, 3)) (K : x_W p l e R s m args below meth c D cl A H0 n ad wf nL Q σ (pc + 3) L (val.toList ++ st)) : x_W p l e R s m args below meth c D cl A H0 n ad wf nL Q σ pc L (As.reverse ++ st) :=
  x_callK C0 (n' := 0) (ι := fun r => r) (wf' := wf') (τ := τ) (τ' := τ') (σ' := σ) (fun _ h => absurd h (Nat.not_lt_zero _)) (fun _ _ h => absurd h (Nat.not_lt_zero _)) (fun _ h => absurd h (Nat.not_lt_zero _)) (fun _ h => absurd h (Nat.not_lt_zero _)) (fun _ _ _ _ => rfl) (x_runS C0 (hM _) cw hn hW d) K
theorem x_runSN (C0 : x_C p s m args meth c D cl tys A H0 n ad wf cc nL own ret) {n' : Nat} {ad' : Nat → Nat} {wf' : xM → Nat → va_E} {τ τ' : xM} {val : Option Value} {y : MethodName} {bytes : ByteArray} {mxl index k9 : Nat} {rty : Option FieldType} {ws : List Cond} {rm : Room} {As : List Value} {host : String} (hM : x_Met l y ws rm D cl tys n' ad' wf' As τ val τ') (cw : va_CN R s args own index y host bytes mxl rty ws rm 0 0 k9 ∧ (Cond.static y).before args s = true ∧ True) (hn : As.length = k9) (hW : (st.map fun v => v.category).sum ≤ 8) (d : decode cc pc = .ok (.invokestatic index, 3)) : ∀ (H : Heap) (locs : List Loc) (ls : Array Slot), lv_has ls nL L → va_P D cl (x_bl n' ad' wf' τ) H → va_D (fun _ => True) (x_bl n' ad' wf' τ) → va_Run p l e R s m args below meth c H locs 0 0 0 0 (F0 m pc ls (As.reverse ++ st)) st (x_Q val (fun t => va_P D cl (x_bl n' ad' wf' τ') t.heap) (va_A (x_bl n' ad' wf' τ) H.size) As.toArray) (va_A (x_bl n' ad' wf' τ) H.size) :=
  fun H locs ls hl hPc hDc => va_runSN C0.1 (hM H.size) cw ⟨x_blind, fun U hU hW => ⟨rfl, by rw [hU], by rw [hU]; exact hPc, va_K.moved hW.alike C0.2.1, hDc, x_N_warm hW C0.2.2.2.2.2.2.2⟩⟩ rfl hn hl.1 rfl (lv_room hW) d ⟨Nat.zero_le _, Nat.zero_le _⟩
theorem x_callSN (C0 : x_C p s m args meth c D cl tys A H0 n ad wf cc nL own ret) {σ' : xM} {val : Option Value} {y : MethodName} {bytes : ByteArray} {mxl index k9 : Nat} {rty : Option FieldType} {ws : List Cond} {rm : Room} {As : List Value} {host : String} (hM : x_Met l y ws rm D cl tys n ad wf As σ val σ') (cw : va_CN R s args own index y host bytes mxl rty ws rm 0 0 k9 ∧ (Cond.static y).before args s = true ∧ True) (hn : As.length = k9) (hW : (st.map fun v => v.category).sum ≤ 8) (d : decode cc pc = .ok (.invokestatic index, 3)) (K : x_W p l e R s m args below meth c D cl A H0 n ad wf nL Q σ' (pc + 3) L (val.toList ++ st)) : x_W p l e R s m args below meth c D cl A H0 n ad wf nL Q σ pc L (As.reverse ++ st) :=
  x_callK C0 (n' := n) (ι := fun r => r) (wf' := wf) (τ := σ) (τ' := σ') (fun _ h => h) (fun _ _ _ _ h => h) (fun _ _ => rfl) (fun _ _ => rfl) (fun r hr h => absurd rfl (h r hr)) (x_runSN C0 hM cw hn hW d) K
theorem x_pureSN (C0 : x_C p s m args meth c D cl tys A H0 n ad wf cc nL own ret) {wf' : xM → Nat → va_E} {τ τ' : xM} {val : Option Value} {y : MethodName} {bytes : ByteArray} {mxl index k9 : Nat} {rty : Option FieldType} {ws : List Cond} {rm : Room} {As : List Value} {host : String} (hM : ∀ ad', x_Met l y ws rm D cl tys 0 ad' wf' As τ val τ') (cw : va_CN R s args own index y host bytes mxl rty ws rm 0 0 k9 ∧ (Cond.static y).before args s = true ∧ True) (hn : As.length = k9) (hW : (st.map fun v => v.category).sum ≤ 8) (d : decode cc pc = .ok (.invokestatic index, 3)) (K : x_W p l e R s m args below meth c D cl A H0 n ad wf nL Q σ (pc + 3) L (val.toList ++ st)) : x_W p l e R s m args below meth c D cl A H0 n ad wf nL Q σ pc L (As.reverse ++ st) :=
  x_callK C0 (n' := 0) (ι := fun r => r) (wf' := wf') (τ := τ) (τ' := τ') (σ' := σ) (fun _ h => absurd h (Nat.not_lt_zero _)) (fun _ _ h => absurd h (Nat.not_lt_zero _)) (fun _ h => absurd h (Nat.not_lt_zero _)) (fun _ h => absurd h (Nat.not_lt_zero _)) (fun _ _ _ _ => rfl) (x_runSN C0 (hM _) cw hn hW d) K
theorem x_gi1 {y : MethodName} {b : ByteArray} {k : Nat} {r : Option FieldType} (h : Cond.code y b k r ∈ lw_use) : GoodIn lw_use [Cond.code y b k r] := fun w hw => by
  rcases List.mem_singleton.mp hw with rfl
  exact ⟨h, Or.inl rfl⟩
theorem x_cwV (C0 : x_C p s m args meth c D cl tys A H0 n ad wf cc nL own ret) {Cn : String} {index k9 mxl : Nat} {y : MethodName} {bytes : ByteArray} {rty : Option FieldType} {rm : Room} (m1 : Cond.methodLink own index y ∈ lw_use) (m2 : Cond.instanceMethod y ∈ lw_use) (m3 : Cond.selects Cn y y ∈ lw_use) (m4 : Cond.initialized y.cls ∈ lw_use) (m5 : Cond.code y bytes mxl rty ∈ lw_use) (hd : y.cls ≠ "java/lang/invoke/MethodHandle" ∧ y.cls ≠ "java/lang/invoke/VarHandle" ∧ (parseMethodDescriptor y.desc).map (fun d => d.parameters.length) = some k9) (hR : rm.cells = 0 ∧ rm.slots = 0 ∧ rm.frames + 1 ≤ R.frames ∧ 8 + (mxl + 11) + rm.locals ≤ R.locals) : CallW R s args own Cn index y bytes mxl rty [Cond.code y bytes mxl rty] rm 0 0 k9 :=
  ⟨callB_of k9 C0.1.2.2.2.2 (x_gi1 m5) rfl hR.1 hR.2.1 (C0.1.2.2.2.2 _ m4) (C0.1.2.2.2.2 _ m1) hd hR.2.2, C0.1.2.2.2.2 _ m2, C0.1.2.2.2.2 _ m3⟩
theorem x_cwS (C0 : x_C p s m args meth c D cl tys A H0 n ad wf cc nL own ret) {index k9 mxl : Nat} {y : MethodName} {bytes : ByteArray} {rty : Option FieldType} {rm : Room} (m1 : Cond.methodLink own index y ∈ lw_use) (m2 : Cond.static y ∈ lw_use) (m4 : Cond.initialized y.cls ∈ lw_use) (m5 : Cond.code y bytes mxl rty ∈ lw_use) (hd : y.cls ≠ "java/lang/invoke/MethodHandle" ∧ y.cls ≠ "java/lang/invoke/VarHandle" ∧ (parseMethodDescriptor y.desc).map (fun d => d.parameters.length) = some k9) (hR : rm.cells = 0 ∧ rm.slots = 0 ∧ rm.frames + 1 ≤ R.frames ∧ 8 + (mxl + 11) + rm.locals ≤ R.locals) : CallB R s args own index y bytes mxl rty [Cond.code y bytes mxl rty] rm 0 0 k9 ∧ (Cond.static y).before args s = true :=
  ⟨callB_of k9 C0.1.2.2.2.2 (x_gi1 m5) rfl hR.1 hR.2.1 (C0.1.2.2.2.2 _ m4) (C0.1.2.2.2.2 _ m1) hd hR.2.2, C0.1.2.2.2.2 _ m2⟩
theorem x_cwVN (C0 : x_C p s m args meth c D cl tys A H0 n ad wf cc nL own ret) {Cn host : String} {index k9 mxl : Nat} {y : MethodName} {bytes : ByteArray} {rty : Option FieldType} {rm : Room} (m1 : Cond.methodLinkNest own index y host ∈ lw_use) (m2 : Cond.instanceMethod y ∈ lw_use) (m3 : Cond.selects Cn y y ∈ lw_use) (m4 : Cond.initialized y.cls ∈ lw_use) (m5 : Cond.code y bytes mxl rty ∈ lw_use) (hd : y.cls ≠ "java/lang/invoke/MethodHandle" ∧ y.cls ≠ "java/lang/invoke/VarHandle" ∧ (parseMethodDescriptor y.desc).map (fun d => d.parameters.length) = some k9) (hR : rm.cells = 0 ∧ rm.slots = 0 ∧ rm.frames + 1 ≤ R.frames ∧ 8 + (mxl + 11) + rm.locals ≤ R.locals) : va_CN R s args own index y host bytes mxl rty [Cond.code y bytes mxl rty] rm 0 0 k9 ∧ (Cond.instanceMethod y).before args s = true ∧ (Cond.selects Cn y y).before args s = true :=
  ⟨va_cnB k9 C0.1.2.2.2.2 (x_gi1 m5) rfl hR.1 hR.2.1 (C0.2.2.2.2.2.2.2 #[] _ m1) (C0.1.2.2.2.2 _ m4) hd hR.2.2, C0.1.2.2.2.2 _ m2, C0.1.2.2.2.2 _ m3⟩
theorem x_cwSN (C0 : x_C p s m args meth c D cl tys A H0 n ad wf cc nL own ret) {host : String} {index k9 mxl : Nat} {y : MethodName} {bytes : ByteArray} {rty : Option FieldType} {rm : Room} (m1 : Cond.methodLinkNest own index y host ∈ lw_use) (m2 : Cond.static y ∈ lw_use) (m4 : Cond.initialized y.cls ∈ lw_use) (m5 : Cond.code y bytes mxl rty ∈ lw_use) (hd : y.cls ≠ "java/lang/invoke/MethodHandle" ∧ y.cls ≠ "java/lang/invoke/VarHandle" ∧ (parseMethodDescriptor y.desc).map (fun d => d.parameters.length) = some k9) (hR : rm.cells = 0 ∧ rm.slots = 0 ∧ rm.frames + 1 ≤ R.frames ∧ 8 + (mxl + 11) + rm.locals ≤ R.locals) : va_CN R s args own index y host bytes mxl rty [Cond.code y bytes mxl rty] rm 0 0 k9 ∧ (Cond.static y).before args s = true ∧ True :=
  ⟨va_cnB k9 C0.1.2.2.2.2 (x_gi1 m5) rfl hR.1 hR.2.1 (C0.2.2.2.2.2.2.2 #[] _ m1) (C0.1.2.2.2.2 _ m4) hd hR.2.2, C0.1.2.2.2.2 _ m2, trivial⟩
theorem x_callV00 (C0 : x_C p s m args meth c D cl tys A H0 n ad wf cc nL own ret) {y : MethodName} {bytes : ByteArray} {mxl index : Nat} {rty : Option FieldType} {ws : List Cond} {rm : Room} {b : Nat} {T : u_T} {N ci r : Nat} {fs : List Value} {Cn : String} {σ' : xM} (hM : x_Met l y ws rm D cl tys n ad wf (.ref b :: []) σ none σ') (cw : CallW R s args own Cn index y bytes mxl rty ws rm 0 0 0) (hr : r < n) (hb9 : ad r = b) (hw : wf σ r = .inr (ci, fs)) (hc : cl[ci]? = some (Cn, T, N)) (hW : (st.map fun v => v.category).sum ≤ 8) (d : decode cc pc = .ok (.invokevirtual index, 3)) (K : x_W p l e R s m args below meth c D cl A H0 n ad wf nL Q σ' (pc + 3) L st) : x_W p l e R s m args below meth c D cl A H0 n ad wf nL Q σ pc L (.ref b :: st) :=
  x_callV C0 (As := []) (val := none) hM cw hr hb9 hw hc rfl hW d K
theorem x_subV00 (C0 : x_C p s m args meth c D cl tys A H0 n ad wf cc nL own ret) {y : MethodName} {bytes : ByteArray} {mxl index : Nat} {rty : Option FieldType} {ws : List Cond} {rm : Room} {b : Nat} {T : u_T} {N ci r : Nat} {fs : List Value} {Cn : String} {n' : Nat} {ι : Nat → Nat} {wf' : xM → Nat → va_E} {τ τ' : xM} (hι : ∀ r, r < n' → ι r < n) (hinj : ∀ i j, i < n' → j < n' → ι i = ι j → i = j) (hwf : ∀ r, r < n' → wf σ (ι r) = wf' τ r) {σ' : xM} (hwf' : ∀ r, r < n' → wf σ' (ι r) = wf' τ' r) (hsame : ∀ r, r < n → (∀ i, i < n' → ι i ≠ r) → ∀ k, σ r k = σ' r k) (hM : x_Met l y ws rm D cl tys n' (fun r => ad (ι r)) wf' (.ref b :: []) τ none τ') (cw : CallW R s args own Cn index y bytes mxl rty ws rm 0 0 0) (hr : r < n') (hb9 : ad (ι r) = b) (hw : wf' τ r = .inr (ci, fs)) (hc : cl[ci]? = some (Cn, T, N)) (hW : (st.map fun v => v.category).sum ≤ 8) (d : decode cc pc = .ok (.invokevirtual index, 3)) (K : x_W p l e R s m args below meth c D cl A H0 n ad wf nL Q σ' (pc + 3) L st) : x_W p l e R s m args below meth c D cl A H0 n ad wf nL Q σ pc L (.ref b :: st) :=
  x_callK C0 (val := none) hι hinj hwf hwf' hsame (x_runV C0 (As := []) hM cw hr hb9 hw hc rfl hW d) K
theorem x_callV01 (C0 : x_C p s m args meth c D cl tys A H0 n ad wf cc nL own ret) {y : MethodName} {bytes : ByteArray} {mxl index : Nat} {rty : Option FieldType} {ws : List Cond} {rm : Room} {b : Nat} {T : u_T} {N ci r : Nat} {fs : List Value} {Cn : String} {w : Value} {σ' : xM} (hM : x_Met l y ws rm D cl tys n ad wf (.ref b :: []) σ (some w) σ') (cw : CallW R s args own Cn index y bytes mxl rty ws rm 0 0 0) (hr : r < n) (hb9 : ad r = b) (hw : wf σ r = .inr (ci, fs)) (hc : cl[ci]? = some (Cn, T, N)) (hW : (st.map fun v => v.category).sum ≤ 8) (d : decode cc pc = .ok (.invokevirtual index, 3)) (K : x_W p l e R s m args below meth c D cl A H0 n ad wf nL Q σ' (pc + 3) L (w :: st)) : x_W p l e R s m args below meth c D cl A H0 n ad wf nL Q σ pc L (.ref b :: st) :=
  x_callV C0 (As := []) (val := (some w)) hM cw hr hb9 hw hc rfl hW d K
theorem x_subV01 (C0 : x_C p s m args meth c D cl tys A H0 n ad wf cc nL own ret) {y : MethodName} {bytes : ByteArray} {mxl index : Nat} {rty : Option FieldType} {ws : List Cond} {rm : Room} {b : Nat} {T : u_T} {N ci r : Nat} {fs : List Value} {Cn : String} {w : Value} {n' : Nat} {ι : Nat → Nat} {wf' : xM → Nat → va_E} {τ τ' : xM} (hι : ∀ r, r < n' → ι r < n) (hinj : ∀ i j, i < n' → j < n' → ι i = ι j → i = j) (hwf : ∀ r, r < n' → wf σ (ι r) = wf' τ r) {σ' : xM} (hwf' : ∀ r, r < n' → wf σ' (ι r) = wf' τ' r) (hsame : ∀ r, r < n → (∀ i, i < n' → ι i ≠ r) → ∀ k, σ r k = σ' r k) (hM : x_Met l y ws rm D cl tys n' (fun r => ad (ι r)) wf' (.ref b :: []) τ (some w) τ') (cw : CallW R s args own Cn index y bytes mxl rty ws rm 0 0 0) (hr : r < n') (hb9 : ad (ι r) = b) (hw : wf' τ r = .inr (ci, fs)) (hc : cl[ci]? = some (Cn, T, N)) (hW : (st.map fun v => v.category).sum ≤ 8) (d : decode cc pc = .ok (.invokevirtual index, 3)) (K : x_W p l e R s m args below meth c D cl A H0 n ad wf nL Q σ' (pc + 3) L (w :: st)) : x_W p l e R s m args below meth c D cl A H0 n ad wf nL Q σ pc L (.ref b :: st) :=
  x_callK C0 (val := (some w)) hι hinj hwf hwf' hsame (x_runV C0 (As := []) hM cw hr hb9 hw hc rfl hW d) K
theorem x_callV10 (C0 : x_C p s m args meth c D cl tys A H0 n ad wf cc nL own ret) {y : MethodName} {bytes : ByteArray} {mxl index : Nat} {rty : Option FieldType} {ws : List Cond} {rm : Room} {b : Nat} {T : u_T} {N ci r : Nat} {fs : List Value} {Cn : String} {v1 : Value} {σ' : xM} (hM : x_Met l y ws rm D cl tys n ad wf (.ref b :: [v1]) σ none σ') (cw : CallW R s args own Cn index y bytes mxl rty ws rm 0 0 1) (hr : r < n) (hb9 : ad r = b) (hw : wf σ r = .inr (ci, fs)) (hc : cl[ci]? = some (Cn, T, N)) (hW : (st.map fun v => v.category).sum ≤ 8) (d : decode cc pc = .ok (.invokevirtual index, 3)) (K : x_W p l e R s m args below meth c D cl A H0 n ad wf nL Q σ' (pc + 3) L st) : x_W p l e R s m args below meth c D cl A H0 n ad wf nL Q σ pc L (v1 :: .ref b :: st) :=
  x_callV C0 (As := [v1]) (val := none) hM cw hr hb9 hw hc rfl hW d K
theorem x_subV10 (C0 : x_C p s m args meth c D cl tys A H0 n ad wf cc nL own ret) {y : MethodName} {bytes : ByteArray} {mxl index : Nat} {rty : Option FieldType} {ws : List Cond} {rm : Room} {b : Nat} {T : u_T} {N ci r : Nat} {fs : List Value} {Cn : String} {v1 : Value} {n' : Nat} {ι : Nat → Nat} {wf' : xM → Nat → va_E} {τ τ' : xM} (hι : ∀ r, r < n' → ι r < n) (hinj : ∀ i j, i < n' → j < n' → ι i = ι j → i = j) (hwf : ∀ r, r < n' → wf σ (ι r) = wf' τ r) {σ' : xM} (hwf' : ∀ r, r < n' → wf σ' (ι r) = wf' τ' r) (hsame : ∀ r, r < n → (∀ i, i < n' → ι i ≠ r) → ∀ k, σ r k = σ' r k) (hM : x_Met l y ws rm D cl tys n' (fun r => ad (ι r)) wf' (.ref b :: [v1]) τ none τ') (cw : CallW R s args own Cn index y bytes mxl rty ws rm 0 0 1) (hr : r < n') (hb9 : ad (ι r) = b) (hw : wf' τ r = .inr (ci, fs)) (hc : cl[ci]? = some (Cn, T, N)) (hW : (st.map fun v => v.category).sum ≤ 8) (d : decode cc pc = .ok (.invokevirtual index, 3)) (K : x_W p l e R s m args below meth c D cl A H0 n ad wf nL Q σ' (pc + 3) L st) : x_W p l e R s m args below meth c D cl A H0 n ad wf nL Q σ pc L (v1 :: .ref b :: st) :=
  x_callK C0 (val := none) hι hinj hwf hwf' hsame (x_runV C0 (As := [v1]) hM cw hr hb9 hw hc rfl hW d) K
theorem x_callV11 (C0 : x_C p s m args meth c D cl tys A H0 n ad wf cc nL own ret) {y : MethodName} {bytes : ByteArray} {mxl index : Nat} {rty : Option FieldType} {ws : List Cond} {rm : Room} {b : Nat} {T : u_T} {N ci r : Nat} {fs : List Value} {Cn : String} {v1 : Value} {w : Value} {σ' : xM} (hM : x_Met l y ws rm D cl tys n ad wf (.ref b :: [v1]) σ (some w) σ') (cw : CallW R s args own Cn index y bytes mxl rty ws rm 0 0 1) (hr : r < n) (hb9 : ad r = b) (hw : wf σ r = .inr (ci, fs)) (hc : cl[ci]? = some (Cn, T, N)) (hW : (st.map fun v => v.category).sum ≤ 8) (d : decode cc pc = .ok (.invokevirtual index, 3)) (K : x_W p l e R s m args below meth c D cl A H0 n ad wf nL Q σ' (pc + 3) L (w :: st)) : x_W p l e R s m args below meth c D cl A H0 n ad wf nL Q σ pc L (v1 :: .ref b :: st) :=
  x_callV C0 (As := [v1]) (val := (some w)) hM cw hr hb9 hw hc rfl hW d K
theorem x_subV11 (C0 : x_C p s m args meth c D cl tys A H0 n ad wf cc nL own ret) {y : MethodName} {bytes : ByteArray} {mxl index : Nat} {rty : Option FieldType} {ws : List Cond} {rm : Room} {b : Nat} {T : u_T} {N ci r : Nat} {fs : List Value} {Cn : String} {v1 : Value} {w : Value} {n' : Nat} {ι : Nat → Nat} {wf' : xM → Nat → va_E} {τ τ' : xM} (hι : ∀ r, r < n' → ι r < n) (hinj : ∀ i j, i < n' → j < n' → ι i = ι j → i = j) (hwf : ∀ r, r < n' → wf σ (ι r) = wf' τ r) {σ' : xM} (hwf' : ∀ r, r < n' → wf σ' (ι r) = wf' τ' r) (hsame : ∀ r, r < n → (∀ i, i < n' → ι i ≠ r) → ∀ k, σ r k = σ' r k) (hM : x_Met l y ws rm D cl tys n' (fun r => ad (ι r)) wf' (.ref b :: [v1]) τ (some w) τ') (cw : CallW R s args own Cn index y bytes mxl rty ws rm 0 0 1) (hr : r < n') (hb9 : ad (ι r) = b) (hw : wf' τ r = .inr (ci, fs)) (hc : cl[ci]? = some (Cn, T, N)) (hW : (st.map fun v => v.category).sum ≤ 8) (d : decode cc pc = .ok (.invokevirtual index, 3)) (K : x_W p l e R s m args below meth c D cl A H0 n ad wf nL Q σ' (pc + 3) L (w :: st)) : x_W p l e R s m args below meth c D cl A H0 n ad wf nL Q σ pc L (v1 :: .ref b :: st) :=
  x_callK C0 (val := (some w)) hι hinj hwf hwf' hsame (x_runV C0 (As := [v1]) hM cw hr hb9 hw hc rfl hW d) K
theorem x_callV20 (C0 : x_C p s m args meth c D cl tys A H0 n ad wf cc nL own ret) {y : MethodName} {bytes : ByteArray} {mxl index : Nat} {rty : Option FieldType} {ws : List Cond} {rm : Room} {b : Nat} {T : u_T} {N ci r : Nat} {fs : List Value} {Cn : String} {v1 v2 : Value} {σ' : xM} (hM : x_Met l y ws rm D cl tys n ad wf (.ref b :: [v1, v2]) σ none σ') (cw : CallW R s args own Cn index y bytes mxl rty ws rm 0 0 2) (hr : r < n) (hb9 : ad r = b) (hw : wf σ r = .inr (ci, fs)) (hc : cl[ci]? = some (Cn, T, N)) (hW : (st.map fun v => v.category).sum ≤ 8) (d : decode cc pc = .ok (.invokevirtual index, 3)) (K : x_W p l e R s m args below meth c D cl A H0 n ad wf nL Q σ' (pc + 3) L st) : x_W p l e R s m args below meth c D cl A H0 n ad wf nL Q σ pc L (v2 :: v1 :: .ref b :: st) :=
  x_callV C0 (As := [v1, v2]) (val := none) hM cw hr hb9 hw hc rfl hW d K
theorem x_subV20 (C0 : x_C p s m args meth c D cl tys A H0 n ad wf cc nL own ret) {y : MethodName} {bytes : ByteArray} {mxl index : Nat} {rty : Option FieldType} {ws : List Cond} {rm : Room} {b : Nat} {T : u_T} {N ci r : Nat} {fs : List Value} {Cn : String} {v1 v2 : Value} {n' : Nat} {ι : Nat → Nat} {wf' : xM → Nat → va_E} {τ τ' : xM} (hι : ∀ r, r < n' → ι r < n) (hinj : ∀ i j, i < n' → j < n' → ι i = ι j → i = j) (hwf : ∀ r, r < n' → wf σ (ι r) = wf' τ r) {σ' : xM} (hwf' : ∀ r, r < n' → wf σ' (ι r) = wf' τ' r) (hsame : ∀ r, r < n → (∀ i, i < n' → ι i ≠ r) → ∀ k, σ r k = σ' r k) (hM : x_Met l y ws rm D cl tys n' (fun r => ad (ι r)) wf' (.ref b :: [v1, v2]) τ none τ') (cw : CallW R s args own Cn index y bytes mxl rty ws rm 0 0 2) (hr : r < n') (hb9 : ad (ι r) = b) (hw : wf' τ r = .inr (ci, fs)) (hc : cl[ci]? = some (Cn, T, N)) (hW : (st.map fun v => v.category).sum ≤ 8) (d : decode cc pc = .ok (.invokevirtual index, 3)) (K : x_W p l e R s m args below meth c D cl A H0 n ad wf nL Q σ' (pc + 3) L st) : x_W p l e R s m args below meth c D cl A H0 n ad wf nL Q σ pc L (v2 :: v1 :: .ref b :: st) :=
  x_callK C0 (val := none) hι hinj hwf hwf' hsame (x_runV C0 (As := [v1, v2]) hM cw hr hb9 hw hc rfl hW d) K
theorem x_callV21 (C0 : x_C p s m args meth c D cl tys A H0 n ad wf cc nL own ret) {y : MethodName} {bytes : ByteArray} {mxl index : Nat} {rty : Option FieldType} {ws : List Cond} {rm : Room} {b : Nat} {T : u_T} {N ci r : Nat} {fs : List Value} {Cn : String} {v1 v2 : Value} {w : Value} {σ' : xM} (hM : x_Met l y ws rm D cl tys n ad wf (.ref b :: [v1, v2]) σ (some w) σ') (cw : CallW R s args own Cn index y bytes mxl rty ws rm 0 0 2) (hr : r < n) (hb9 : ad r = b) (hw : wf σ r = .inr (ci, fs)) (hc : cl[ci]? = some (Cn, T, N)) (hW : (st.map fun v => v.category).sum ≤ 8) (d : decode cc pc = .ok (.invokevirtual index, 3)) (K : x_W p l e R s m args below meth c D cl A H0 n ad wf nL Q σ' (pc + 3) L (w :: st)) : x_W p l e R s m args below meth c D cl A H0 n ad wf nL Q σ pc L (v2 :: v1 :: .ref b :: st) :=
  x_callV C0 (As := [v1, v2]) (val := (some w)) hM cw hr hb9 hw hc rfl hW d K
theorem x_subV21 (C0 : x_C p s m args meth c D cl tys A H0 n ad wf cc nL own ret) {y : MethodName} {bytes : ByteArray} {mxl index : Nat} {rty : Option FieldType} {ws : List Cond} {rm : Room} {b : Nat} {T : u_T} {N ci r : Nat} {fs : List Value} {Cn : String} {v1 v2 : Value} {w : Value} {n' : Nat} {ι : Nat → Nat} {wf' : xM → Nat → va_E} {τ τ' : xM} (hι : ∀ r, r < n' → ι r < n) (hinj : ∀ i j, i < n' → j < n' → ι i = ι j → i = j) (hwf : ∀ r, r < n' → wf σ (ι r) = wf' τ r) {σ' : xM} (hwf' : ∀ r, r < n' → wf σ' (ι r) = wf' τ' r) (hsame : ∀ r, r < n → (∀ i, i < n' → ι i ≠ r) → ∀ k, σ r k = σ' r k) (hM : x_Met l y ws rm D cl tys n' (fun r => ad (ι r)) wf' (.ref b :: [v1, v2]) τ (some w) τ') (cw : CallW R s args own Cn index y bytes mxl rty ws rm 0 0 2) (hr : r < n') (hb9 : ad (ι r) = b) (hw : wf' τ r = .inr (ci, fs)) (hc : cl[ci]? = some (Cn, T, N)) (hW : (st.map fun v => v.category).sum ≤ 8) (d : decode cc pc = .ok (.invokevirtual index, 3)) (K : x_W p l e R s m args below meth c D cl A H0 n ad wf nL Q σ' (pc + 3) L (w :: st)) : x_W p l e R s m args below meth c D cl A H0 n ad wf nL Q σ pc L (v2 :: v1 :: .ref b :: st) :=
  x_callK C0 (val := (some w)) hι hinj hwf hwf' hsame (x_runV C0 (As := [v1, v2]) hM cw hr hb9 hw hc rfl hW d) K
theorem x_callV30 (C0 : x_C p s m args meth c D cl tys A H0 n ad wf cc nL own ret) {y : MethodName} {bytes : ByteArray} {mxl index : Nat} {rty : Option FieldType} {ws : List Cond} {rm : Room} {b : Nat} {T : u_T} {N ci r : Nat} {fs : List Value} {Cn : String} {v1 v2 v3 : Value} {σ' : xM} (hM : x_Met l y ws rm D cl tys n ad wf (.ref b :: [v1, v2, v3]) σ none σ') (cw : CallW R s args own Cn index y bytes mxl rty ws rm 0 0 3) (hr : r < n) (hb9 : ad r = b) (hw : wf σ r = .inr (ci, fs)) (hc : cl[ci]? = some (Cn, T, N)) (hW : (st.map fun v => v.category).sum ≤ 8) (d : decode cc pc = .ok (.invokevirtual index, 3)) (K : x_W p l e R s m args below meth c D cl A H0 n ad wf nL Q σ' (pc + 3) L st) : x_W p l e R s m args below meth c D cl A H0 n ad wf nL Q σ pc L (v3 :: v2 :: v1 :: .ref b :: st) :=
  x_callV C0 (As := [v1, v2, v3]) (val := none) hM cw hr hb9 hw hc rfl hW d K
theorem x_subV30 (C0 : x_C p s m args meth c D cl tys A H0 n ad wf cc nL own ret) {y : MethodName} {bytes : ByteArray} {mxl index : Nat} {rty : Option FieldType} {ws : List Cond} {rm : Room} {b : Nat} {T : u_T} {N ci r : Nat} {fs : List Value} {Cn : String} {v1 v2 v3 : Value} {n' : Nat} {ι : Nat → Nat} {wf' : xM → Nat → va_E} {τ τ' : xM} (hι : ∀ r, r < n' → ι r < n) (hinj : ∀ i j, i < n' → j < n' → ι i = ι j → i = j) (hwf : ∀ r, r < n' → wf σ (ι r) = wf' τ r) {σ' : xM} (hwf' : ∀ r, r < n' → wf σ' (ι r) = wf' τ' r) (hsame : ∀ r, r < n → (∀ i, i < n' → ι i ≠ r) → ∀ k, σ r k = σ' r k) (hM : x_Met l y ws rm D cl tys n' (fun r => ad (ι r)) wf' (.ref b :: [v1, v2, v3]) τ none τ') (cw : CallW R s args own Cn index y bytes mxl rty ws rm 0 0 3) (hr : r < n') (hb9 : ad (ι r) = b) (hw : wf' τ r = .inr (ci, fs)) (hc : cl[ci]? = some (Cn, T, N)) (hW : (st.map fun v => v.category).sum ≤ 8) (d : decode cc pc = .ok (.invokevirtual index, 3)) (K : x_W p l e R s m args below meth c D cl A H0 n ad wf nL Q σ' (pc + 3) L st) : x_W p l e R s m args below meth c D cl A H0 n ad wf nL Q σ pc L (v3 :: v2 :: v1 :: .ref b :: st) :=
  x_callK C0 (val := none) hι hinj hwf hwf' hsame (x_runV C0 (As := [v1, v2, v3]) hM cw hr hb9 hw hc rfl hW d) K
theorem x_callV31 (C0 : x_C p s m args meth c D cl tys A H0 n ad wf cc nL own ret) {y : MethodName} {bytes : ByteArray} {mxl index : Nat} {rty : Option FieldType} {ws : List Cond} {rm : Room} {b : Nat} {T : u_T} {N ci r : Nat} {fs : List Value} {Cn : String} {v1 v2 v3 : Value} {w : Value} {σ' : xM} (hM : x_Met l y ws rm D cl tys n ad wf (.ref b :: [v1, v2, v3]) σ (some w) σ') (cw : CallW R s args own Cn index y bytes mxl rty ws rm 0 0 3) (hr : r < n) (hb9 : ad r = b) (hw : wf σ r = .inr (ci, fs)) (hc : cl[ci]? = some (Cn, T, N)) (hW : (st.map fun v => v.category).sum ≤ 8) (d : decode cc pc = .ok (.invokevirtual index, 3)) (K : x_W p l e R s m args below meth c D cl A H0 n ad wf nL Q σ' (pc + 3) L (w :: st)) : x_W p l e R s m args below meth c D cl A H0 n ad wf nL Q σ pc L (v3 :: v2 :: v1 :: .ref b :: st) :=
  x_callV C0 (As := [v1, v2, v3]) (val := (some w)) hM cw hr hb9 hw hc rfl hW d K
theorem x_subV31 (C0 : x_C p s m args meth c D cl tys A H0 n ad wf cc nL own ret) {y : MethodName} {bytes : ByteArray} {mxl index : Nat} {rty : Option FieldType} {ws : List Cond} {rm : Room} {b : Nat} {T : u_T} {N ci r : Nat} {fs : List Value} {Cn : String} {v1 v2 v3 : Value} {w : Value} {n' : Nat} {ι : Nat → Nat} {wf' : xM → Nat → va_E} {τ τ' : xM} (hι : ∀ r, r < n' → ι r < n) (hinj : ∀ i j, i < n' → j < n' → ι i = ι j → i = j) (hwf : ∀ r, r < n' → wf σ (ι r) = wf' τ r) {σ' : xM} (hwf' : ∀ r, r < n' → wf σ' (ι r) = wf' τ' r) (hsame : ∀ r, r < n → (∀ i, i < n' → ι i ≠ r) → ∀ k, σ r k = σ' r k) (hM : x_Met l y ws rm D cl tys n' (fun r => ad (ι r)) wf' (.ref b :: [v1, v2, v3]) τ (some w) τ') (cw : CallW R s args own Cn index y bytes mxl rty ws rm 0 0 3) (hr : r < n') (hb9 : ad (ι r) = b) (hw : wf' τ r = .inr (ci, fs)) (hc : cl[ci]? = some (Cn, T, N)) (hW : (st.map fun v => v.category).sum ≤ 8) (d : decode cc pc = .ok (.invokevirtual index, 3)) (K : x_W p l e R s m args below meth c D cl A H0 n ad wf nL Q σ' (pc + 3) L (w :: st)) : x_W p l e R s m args below meth c D cl A H0 n ad wf nL Q σ pc L (v3 :: v2 :: v1 :: .ref b :: st) :=
  x_callK C0 (val := (some w)) hι hinj hwf hwf' hsame (x_runV C0 (As := [v1, v2, v3]) hM cw hr hb9 hw hc rfl hW d) K
theorem x_callV40 (C0 : x_C p s m args meth c D cl tys A H0 n ad wf cc nL own ret) {y : MethodName} {bytes : ByteArray} {mxl index : Nat} {rty : Option FieldType} {ws : List Cond} {rm : Room} {b : Nat} {T : u_T} {N ci r : Nat} {fs : List Value} {Cn : String} {v1 v2 v3 v4 : Value} {σ' : xM} (hM : x_Met l y ws rm D cl tys n ad wf (.ref b :: [v1, v2, v3, v4]) σ none σ') (cw : CallW R s args own Cn index y bytes mxl rty ws rm 0 0 4) (hr : r < n) (hb9 : ad r = b) (hw : wf σ r = .inr (ci, fs)) (hc : cl[ci]? = some (Cn, T, N)) (hW : (st.map fun v => v.category).sum ≤ 8) (d : decode cc pc = .ok (.invokevirtual index, 3)) (K : x_W p l e R s m args below meth c D cl A H0 n ad wf nL Q σ' (pc + 3) L st) : x_W p l e R s m args below meth c D cl A H0 n ad wf nL Q σ pc L (v4 :: v3 :: v2 :: v1 :: .ref b :: st) :=
  x_callV C0 (As := [v1, v2, v3, v4]) (val := none) hM cw hr hb9 hw hc rfl hW d K
theorem x_subV40 (C0 : x_C p s m args meth c D cl tys A H0 n ad wf cc nL own ret) {y : MethodName} {bytes : ByteArray} {mxl index : Nat} {rty : Option FieldType} {ws : List Cond} {rm : Room} {b : Nat} {T : u_T} {N ci r : Nat} {fs : List Value} {Cn : String} {v1 v2 v3 v4 : Value} {n' : Nat} {ι : Nat → Nat} {wf' : xM → Nat → va_E} {τ τ' : xM} (hι : ∀ r, r < n' → ι r < n) (hinj : ∀ i j, i < n' → j < n' → ι i = ι j → i = j) (hwf : ∀ r, r < n' → wf σ (ι r) = wf' τ r) {σ' : xM} (hwf' : ∀ r, r < n' → wf σ' (ι r) = wf' τ' r) (hsame : ∀ r, r < n → (∀ i, i < n' → ι i ≠ r) → ∀ k, σ r k = σ' r k) (hM : x_Met l y ws rm D cl tys n' (fun r => ad (ι r)) wf' (.ref b :: [v1, v2, v3, v4]) τ none τ') (cw : CallW R s args own Cn index y bytes mxl rty ws rm 0 0 4) (hr : r < n') (hb9 : ad (ι r) = b) (hw : wf' τ r = .inr (ci, fs)) (hc : cl[ci]? = some (Cn, T, N)) (hW : (st.map fun v => v.category).sum ≤ 8) (d : decode cc pc = .ok (.invokevirtual index, 3)) (K : x_W p l e R s m args below meth c D cl A H0 n ad wf nL Q σ' (pc + 3) L st) : x_W p l e R s m args below meth c D cl A H0 n ad wf nL Q σ pc L (v4 :: v3 :: v2 :: v1 :: .ref b :: st) :=
  x_callK C0 (val := none) hι hinj hwf hwf' hsame (x_runV C0 (As := [v1, v2, v3, v4]) hM cw hr hb9 hw hc rfl hW d) K
theorem x_callV41 (C0 : x_C p s m args meth c D cl tys A H0 n ad wf cc nL own ret) {y : MethodName} {bytes : ByteArray} {mxl index : Nat} {rty : Option FieldType} {ws : List Cond} {rm : Room} {b : Nat} {T : u_T} {N ci r : Nat} {fs : List Value} {Cn : String} {v1 v2 v3 v4 : Value} {w : Value} {σ' : xM} (hM : x_Met l y ws rm D cl tys n ad wf (.ref b :: [v1, v2, v3, v4]) σ (some w) σ') (cw : CallW R s args own Cn index y bytes mxl rty ws rm 0 0 4) (hr : r < n) (hb9 : ad r = b) (hw : wf σ r = .inr (ci, fs)) (hc : cl[ci]? = some (Cn, T, N)) (hW : (st.map fun v => v.category).sum ≤ 8) (d : decode cc pc = .ok (.invokevirtual index, 3)) (K : x_W p l e R s m args below meth c D cl A H0 n ad wf nL Q σ' (pc + 3) L (w :: st)) : x_W p l e R s m args below meth c D cl A H0 n ad wf nL Q σ pc L (v4 :: v3 :: v2 :: v1 :: .ref b :: st) :=
  x_callV C0 (As := [v1, v2, v3, v4]) (val := (some w)) hM cw hr hb9 hw hc rfl hW d K
theorem x_subV41 (C0 : x_C p s m args meth c D cl tys A H0 n ad wf cc nL own ret) {y : MethodName} {bytes : ByteArray} {mxl index : Nat} {rty : Option FieldType} {ws : List Cond} {rm : Room} {b : Nat} {T : u_T} {N ci r : Nat} {fs : List Value} {Cn : String} {v1 v2 v3 v4 : Value} {w : Value} {n' : Nat} {ι : Nat → Nat} {wf' : xM → Nat → va_E} {τ τ' : xM} (hι : ∀ r, r < n' → ι r < n) (hinj : ∀ i j, i < n' → j < n' → ι i = ι j → i = j) (hwf : ∀ r, r < n' → wf σ (ι r) = wf' τ r) {σ' : xM} (hwf' : ∀ r, r < n' → wf σ' (ι r) = wf' τ' r) (hsame : ∀ r, r < n → (∀ i, i < n' → ι i ≠ r) → ∀ k, σ r k = σ' r k) (hM : x_Met l y ws rm D cl tys n' (fun r => ad (ι r)) wf' (.ref b :: [v1, v2, v3, v4]) τ (some w) τ') (cw : CallW R s args own Cn index y bytes mxl rty ws rm 0 0 4) (hr : r < n') (hb9 : ad (ι r) = b) (hw : wf' τ r = .inr (ci, fs)) (hc : cl[ci]? = some (Cn, T, N)) (hW : (st.map fun v => v.category).sum ≤ 8) (d : decode cc pc = .ok (.invokevirtual index, 3)) (K : x_W p l e R s m args below meth c D cl A H0 n ad wf nL Q σ' (pc + 3) L (w :: st)) : x_W p l e R s m args below meth c D cl A H0 n ad wf nL Q σ pc L (v4 :: v3 :: v2 :: v1 :: .ref b :: st) :=
  x_callK C0 (val := (some w)) hι hinj hwf hwf' hsame (x_runV C0 (As := [v1, v2, v3, v4]) hM cw hr hb9 hw hc rfl hW d) K
theorem x_callV50 (C0 : x_C p s m args meth c D cl tys A H0 n ad wf cc nL own ret) {y : MethodName} {bytes : ByteArray} {mxl index : Nat} {rty : Option FieldType} {ws : List Cond} {rm : Room} {b : Nat} {T : u_T} {N ci r : Nat} {fs : List Value} {Cn : String} {v1 v2 v3 v4 v5 : Value} {σ' : xM} (hM : x_Met l y ws rm D cl tys n ad wf (.ref b :: [v1, v2, v3, v4, v5]) σ none σ') (cw : CallW R s args own Cn index y bytes mxl rty ws rm 0 0 5) (hr : r < n) (hb9 : ad r = b) (hw : wf σ r = .inr (ci, fs)) (hc : cl[ci]? = some (Cn, T, N)) (hW : (st.map fun v => v.category).sum ≤ 8) (d : decode cc pc = .ok (.invokevirtual index, 3)) (K : x_W p l e R s m args below meth c D cl A H0 n ad wf nL Q σ' (pc + 3) L st) : x_W p l e R s m args below meth c D cl A H0 n ad wf nL Q σ pc L (v5 :: v4 :: v3 :: v2 :: v1 :: .ref b :: st) :=
  x_callV C0 (As := [v1, v2, v3, v4, v5]) (val := none) hM cw hr hb9 hw hc rfl hW d K
theorem x_subV50 (C0 : x_C p s m args meth c D cl tys A H0 n ad wf cc nL own ret) {y : MethodName} {bytes : ByteArray} {mxl index : Nat} {rty : Option FieldType} {ws : List Cond} {rm : Room} {b : Nat} {T : u_T} {N ci r : Nat} {fs : List Value} {Cn : String} {v1 v2 v3 v4 v5 : Value} {n' : Nat} {ι : Nat → Nat} {wf' : xM → Nat → va_E} {τ τ' : xM} (hι : ∀ r, r < n' → ι r < n) (hinj : ∀ i j, i < n' → j < n' → ι i = ι j → i = j) (hwf : ∀ r, r < n' → wf σ (ι r) = wf' τ r) {σ' : xM} (hwf' : ∀ r, r < n' → wf σ' (ι r) = wf' τ' r) (hsame : ∀ r, r < n → (∀ i, i < n' → ι i ≠ r) → ∀ k, σ r k = σ' r k) (hM : x_Met l y ws rm D cl tys n' (fun r => ad (ι r)) wf' (.ref b :: [v1, v2, v3, v4, v5]) τ none τ') (cw : CallW R s args own Cn index y bytes mxl rty ws rm 0 0 5) (hr : r < n') (hb9 : ad (ι r) = b) (hw : wf' τ r = .inr (ci, fs)) (hc : cl[ci]? = some (Cn, T, N)) (hW : (st.map fun v => v.category).sum ≤ 8) (d : decode cc pc = .ok (.invokevirtual index, 3)) (K : x_W p l e R s m args below meth c D cl A H0 n ad wf nL Q σ' (pc + 3) L st) : x_W p l e R s m args below meth c D cl A H0 n ad wf nL Q σ pc L (v5 :: v4 :: v3 :: v2 :: v1 :: .ref b :: st) :=
  x_callK C0 (val := none) hι hinj hwf hwf' hsame (x_runV C0 (As := [v1, v2, v3, v4, v5]) hM cw hr hb9 hw hc rfl hW d) K
theorem x_callV51 (C0 : x_C p s m args meth c D cl tys A H0 n ad wf cc nL own ret) {y : MethodName} {bytes : ByteArray} {mxl index : Nat} {rty : Option FieldType} {ws : List Cond} {rm : Room} {b : Nat} {T : u_T} {N ci r : Nat} {fs : List Value} {Cn : String} {v1 v2 v3 v4 v5 : Value} {w : Value} {σ' : xM} (hM : x_Met l y ws rm D cl tys n ad wf (.ref b :: [v1, v2, v3, v4, v5]) σ (some w) σ') (cw : CallW R s args own Cn index y bytes mxl rty ws rm 0 0 5) (hr : r < n) (hb9 : ad r = b) (hw : wf σ r = .inr (ci, fs)) (hc : cl[ci]? = some (Cn, T, N)) (hW : (st.map fun v => v.category).sum ≤ 8) (d : decode cc pc = .ok (.invokevirtual index, 3)) (K : x_W p l e R s m args below meth c D cl A H0 n ad wf nL Q σ' (pc + 3) L (w :: st)) : x_W p l e R s m args below meth c D cl A H0 n ad wf nL Q σ pc L (v5 :: v4 :: v3 :: v2 :: v1 :: .ref b :: st) :=
  x_callV C0 (As := [v1, v2, v3, v4, v5]) (val := (some w)) hM cw hr hb9 hw hc rfl hW d K
theorem x_subV51 (C0 : x_C p s m args meth c D cl tys A H0 n ad wf cc nL own ret) {y : MethodName} {bytes : ByteArray} {mxl index : Nat} {rty : Option FieldType} {ws : List Cond} {rm : Room} {b : Nat} {T : u_T} {N ci r : Nat} {fs : List Value} {Cn : String} {v1 v2 v3 v4 v5 : Value} {w : Value} {n' : Nat} {ι : Nat → Nat} {wf' : xM → Nat → va_E} {τ τ' : xM} (hι : ∀ r, r < n' → ι r < n) (hinj : ∀ i j, i < n' → j < n' → ι i = ι j → i = j) (hwf : ∀ r, r < n' → wf σ (ι r) = wf' τ r) {σ' : xM} (hwf' : ∀ r, r < n' → wf σ' (ι r) = wf' τ' r) (hsame : ∀ r, r < n → (∀ i, i < n' → ι i ≠ r) → ∀ k, σ r k = σ' r k) (hM : x_Met l y ws rm D cl tys n' (fun r => ad (ι r)) wf' (.ref b :: [v1, v2, v3, v4, v5]) τ (some w) τ') (cw : CallW R s args own Cn index y bytes mxl rty ws rm 0 0 5) (hr : r < n') (hb9 : ad (ι r) = b) (hw : wf' τ r = .inr (ci, fs)) (hc : cl[ci]? = some (Cn, T, N)) (hW : (st.map fun v => v.category).sum ≤ 8) (d : decode cc pc = .ok (.invokevirtual index, 3)) (K : x_W p l e R s m args below meth c D cl A H0 n ad wf nL Q σ' (pc + 3) L (w :: st)) : x_W p l e R s m args below meth c D cl A H0 n ad wf nL Q σ pc L (v5 :: v4 :: v3 :: v2 :: v1 :: .ref b :: st) :=
  x_callK C0 (val := (some w)) hι hinj hwf hwf' hsame (x_runV C0 (As := [v1, v2, v3, v4, v5]) hM cw hr hb9 hw hc rfl hW d) K
theorem x_callVN00 (C0 : x_C p s m args meth c D cl tys A H0 n ad wf cc nL own ret) {y : MethodName} {bytes : ByteArray} {mxl index : Nat} {rty : Option FieldType} {ws : List Cond} {rm : Room} {b : Nat} {T : u_T} {N ci r : Nat} {fs : List Value} {Cn : String} {host : String} {σ' : xM} (hM : x_Met l y ws rm D cl tys n ad wf (.ref b :: []) σ none σ') (cw : va_CN R s args own index y host bytes mxl rty ws rm 0 0 0 ∧ (Cond.instanceMethod y).before args s = true ∧ (Cond.selects Cn y y).before args s = true) (hr : r < n) (hb9 : ad r = b) (hw : wf σ r = .inr (ci, fs)) (hc : cl[ci]? = some (Cn, T, N)) (hW : (st.map fun v => v.category).sum ≤ 8) (d : decode cc pc = .ok (.invokevirtual index, 3)) (K : x_W p l e R s m args below meth c D cl A H0 n ad wf nL Q σ' (pc + 3) L st) : x_W p l e R s m args below meth c D cl A H0 n ad wf nL Q σ pc L (.ref b :: st) :=
  x_callVN C0 (As := []) (val := none) hM cw hr hb9 hw hc rfl hW d K
theorem x_subVN00 (C0 : x_C p s m args meth c D cl tys A H0 n ad wf cc nL own ret) {y : MethodName} {bytes : ByteArray} {mxl index : Nat} {rty : Option FieldType} {ws : List Cond} {rm : Room} {b : Nat} {T : u_T} {N ci r : Nat} {fs : List Value} {Cn : String} {host : String} {n' : Nat} {ι : Nat → Nat} {wf' : xM → Nat → va_E} {τ τ' : xM} (hι : ∀ r, r < n' → ι r < n) (hinj : ∀ i j, i < n' → j < n' → ι i = ι j → i = j) (hwf : ∀ r, r < n' → wf σ (ι r) = wf' τ r) {σ' : xM} (hwf' : ∀ r, r < n' → wf σ' (ι r) = wf' τ' r) (hsame : ∀ r, r < n → (∀ i, i < n' → ι i ≠ r) → ∀ k, σ r k = σ' r k) (hM : x_Met l y ws rm D cl tys n' (fun r => ad (ι r)) wf' (.ref b :: []) τ none τ') (cw : va_CN R s args own index y host bytes mxl rty ws rm 0 0 0 ∧ (Cond.instanceMethod y).before args s = true ∧ (Cond.selects Cn y y).before args s = true) (hr : r < n') (hb9 : ad (ι r) = b) (hw : wf' τ r = .inr (ci, fs)) (hc : cl[ci]? = some (Cn, T, N)) (hW : (st.map fun v => v.category).sum ≤ 8) (d : decode cc pc = .ok (.invokevirtual index, 3)) (K : x_W p l e R s m args below meth c D cl A H0 n ad wf nL Q σ' (pc + 3) L st) : x_W p l e R s m args below meth c D cl A H0 n ad wf nL Q σ pc L (.ref b :: st) :=
  x_callK C0 (val := none) hι hinj hwf hwf' hsame (x_runVN C0 (As := []) hM cw hr hb9 hw hc rfl hW d) K
theorem x_callVN01 (C0 : x_C p s m args meth c D cl tys A H0 n ad wf cc nL own ret) {y : MethodName} {bytes : ByteArray} {mxl index : Nat} {rty : Option FieldType} {ws : List Cond} {rm : Room} {b : Nat} {T : u_T} {N ci r : Nat} {fs : List Value} {Cn : String} {host : String} {w : Value} {σ' : xM} (hM : x_Met l y ws rm D cl tys n ad wf (.ref b :: []) σ (some w) σ') (cw : va_CN R s args own index y host bytes mxl rty ws rm 0 0 0 ∧ (Cond.instanceMethod y).before args s = true ∧ (Cond.selects Cn y y).before args s = true) (hr : r < n) (hb9 : ad r = b) (hw : wf σ r = .inr (ci, fs)) (hc : cl[ci]? = some (Cn, T, N)) (hW : (st.map fun v => v.category).sum ≤ 8) (d : decode cc pc = .ok (.invokevirtual index, 3)) (K : x_W p l e R s m args below meth c D cl A H0 n ad wf nL Q σ' (pc + 3) L (w :: st)) : x_W p l e R s m args below meth c D cl A H0 n ad wf nL Q σ pc L (.ref b :: st) :=
  x_callVN C0 (As := []) (val := (some w)) hM cw hr hb9 hw hc rfl hW d K
theorem x_subVN01 (C0 : x_C p s m args meth c D cl tys A H0 n ad wf cc nL own ret) {y : MethodName} {bytes : ByteArray} {mxl index : Nat} {rty : Option FieldType} {ws : List Cond} {rm : Room} {b : Nat} {T : u_T} {N ci r : Nat} {fs : List Value} {Cn : String} {host : String} {w : Value} {n' : Nat} {ι : Nat → Nat} {wf' : xM → Nat → va_E} {τ τ' : xM} (hι : ∀ r, r < n' → ι r < n) (hinj : ∀ i j, i < n' → j < n' → ι i = ι j → i = j) (hwf : ∀ r, r < n' → wf σ (ι r) = wf' τ r) {σ' : xM} (hwf' : ∀ r, r < n' → wf σ' (ι r) = wf' τ' r) (hsame : ∀ r, r < n → (∀ i, i < n' → ι i ≠ r) → ∀ k, σ r k = σ' r k) (hM : x_Met l y ws rm D cl tys n' (fun r => ad (ι r)) wf' (.ref b :: []) τ (some w) τ') (cw : va_CN R s args own index y host bytes mxl rty ws rm 0 0 0 ∧ (Cond.instanceMethod y).before args s = true ∧ (Cond.selects Cn y y).before args s = true) (hr : r < n') (hb9 : ad (ι r) = b) (hw : wf' τ r = .inr (ci, fs)) (hc : cl[ci]? = some (Cn, T, N)) (hW : (st.map fun v => v.category).sum ≤ 8) (d : decode cc pc = .ok (.invokevirtual index, 3)) (K : x_W p l e R s m args below meth c D cl A H0 n ad wf nL Q σ' (pc + 3) L (w :: st)) : x_W p l e R s m args below meth c D cl A H0 n ad wf nL Q σ pc L (.ref b :: st) :=
  x_callK C0 (val := (some w)) hι hinj hwf hwf' hsame (x_runVN C0 (As := []) hM cw hr hb9 hw hc rfl hW d) K
theorem x_callVN10 (C0 : x_C p s m args meth c D cl tys A H0 n ad wf cc nL own ret) {y : MethodName} {bytes : ByteArray} {mxl index : Nat} {rty : Option FieldType} {ws : List Cond} {rm : Room} {b : Nat} {T : u_T} {N ci r : Nat} {fs : List Value} {Cn : String} {host : String} {v1 : Value} {σ' : xM} (hM : x_Met l y ws rm D cl tys n ad wf (.ref b :: [v1]) σ none σ') (cw : va_CN R s args own index y host bytes mxl rty ws rm 0 0 1 ∧ (Cond.instanceMethod y).before args s = true ∧ (Cond.selects Cn y y).before args s = true) (hr : r < n) (hb9 : ad r = b) (hw : wf σ r = .inr (ci, fs)) (hc : cl[ci]? = some (Cn, T, N)) (hW : (st.map fun v => v.category).sum ≤ 8) (d : decode cc pc = .ok (.invokevirtual index, 3)) (K : x_W p l e R s m args below meth c D cl A H0 n ad wf nL Q σ' (pc + 3) L st) : x_W p l e R s m args below meth c D cl A H0 n ad wf nL Q σ pc L (v1 :: .ref b :: st) :=
  x_callVN C0 (As := [v1]) (val := none) hM cw hr hb9 hw hc rfl hW d K
theorem x_subVN10 (C0 : x_C p s m args meth c D cl tys A H0 n ad wf cc nL own ret) {y : MethodName} {bytes : ByteArray} {mxl index : Nat} {rty : Option FieldType} {ws : List Cond} {rm : Room} {b : Nat} {T : u_T} {N ci r : Nat} {fs : List Value} {Cn : String} {host : String} {v1 : Value} {n' : Nat} {ι : Nat → Nat} {wf' : xM → Nat → va_E} {τ τ' : xM} (hι : ∀ r, r < n' → ι r < n) (hinj : ∀ i j, i < n' → j < n' → ι i = ι j → i = j) (hwf : ∀ r, r < n' → wf σ (ι r) = wf' τ r) {σ' : xM} (hwf' : ∀ r, r < n' → wf σ' (ι r) = wf' τ' r) (hsame : ∀ r, r < n → (∀ i, i < n' → ι i ≠ r) → ∀ k, σ r k = σ' r k) (hM : x_Met l y ws rm D cl tys n' (fun r => ad (ι r)) wf' (.ref b :: [v1]) τ none τ') (cw : va_CN R s args own index y host bytes mxl rty ws rm 0 0 1 ∧ (Cond.instanceMethod y).before args s = true ∧ (Cond.selects Cn y y).before args s = true) (hr : r < n') (hb9 : ad (ι r) = b) (hw : wf' τ r = .inr (ci, fs)) (hc : cl[ci]? = some (Cn, T, N)) (hW : (st.map fun v => v.category).sum ≤ 8) (d : decode cc pc = .ok (.invokevirtual index, 3)) (K : x_W p l e R s m args below meth c D cl A H0 n ad wf nL Q σ' (pc + 3) L st) : x_W p l e R s m args below meth c D cl A H0 n ad wf nL Q σ pc L (v1 :: .ref b :: st) :=
  x_callK C0 (val := none) hι hinj hwf hwf' hsame (x_runVN C0 (As := [v1]) hM cw hr hb9 hw hc rfl hW d) K
theorem x_callVN11 (C0 : x_C p s m args meth c D cl tys A H0 n ad wf cc nL own ret) {y : MethodName} {bytes : ByteArray} {mxl index : Nat} {rty : Option FieldType} {ws : List Cond} {rm : Room} {b : Nat} {T : u_T} {N ci r : Nat} {fs : List Value} {Cn : String} {host : String} {v1 : Value} {w : Value} {σ' : xM} (hM : x_Met l y ws rm D cl tys n ad wf (.ref b :: [v1]) σ (some w) σ') (cw : va_CN R s args own index y host bytes mxl rty ws rm 0 0 1 ∧ (Cond.instanceMethod y).before args s = true ∧ (Cond.selects Cn y y).before args s = true) (hr : r < n) (hb9 : ad r = b) (hw : wf σ r = .inr (ci, fs)) (hc : cl[ci]? = some (Cn, T, N)) (hW : (st.map fun v => v.category).sum ≤ 8) (d : decode cc pc = .ok (.invokevirtual index, 3)) (K : x_W p l e R s m args below meth c D cl A H0 n ad wf nL Q σ' (pc + 3) L (w :: st)) : x_W p l e R s m args below meth c D cl A H0 n ad wf nL Q σ pc L (v1 :: .ref b :: st) :=
  x_callVN C0 (As := [v1]) (val := (some w)) hM cw hr hb9 hw hc rfl hW d K
theorem x_subVN11 (C0 : x_C p s m args meth c D cl tys A H0 n ad wf cc nL own ret) {y : MethodName} {bytes : ByteArray} {mxl index : Nat} {rty : Option FieldType} {ws : List Cond} {rm : Room} {b : Nat} {T : u_T} {N ci r : Nat} {fs : List Value} {Cn : String} {host : String} {v1 : Value} {w : Value} {n' : Nat} {ι : Nat → Nat} {wf' : xM → Nat → va_E} {τ τ' : xM} (hι : ∀ r, r < n' → ι r < n) (hinj : ∀ i j, i < n' → j < n' → ι i = ι j → i = j) (hwf : ∀ r, r < n' → wf σ (ι r) = wf' τ r) {σ' : xM} (hwf' : ∀ r, r < n' → wf σ' (ι r) = wf' τ' r) (hsame : ∀ r, r < n → (∀ i, i < n' → ι i ≠ r) → ∀ k, σ r k = σ' r k) (hM : x_Met l y ws rm D cl tys n' (fun r => ad (ι r)) wf' (.ref b :: [v1]) τ (some w) τ') (cw : va_CN R s args own index y host bytes mxl rty ws rm 0 0 1 ∧ (Cond.instanceMethod y).before args s = true ∧ (Cond.selects Cn y y).before args s = true) (hr : r < n') (hb9 : ad (ι r) = b) (hw : wf' τ r = .inr (ci, fs)) (hc : cl[ci]? = some (Cn, T, N)) (hW : (st.map fun v => v.category).sum ≤ 8) (d : decode cc pc = .ok (.invokevirtual index, 3)) (K : x_W p l e R s m args below meth c D cl A H0 n ad wf nL Q σ' (pc + 3) L (w :: st)) : x_W p l e R s m args below meth c D cl A H0 n ad wf nL Q σ pc L (v1 :: .ref b :: st) :=
  x_callK C0 (val := (some w)) hι hinj hwf hwf' hsame (x_runVN C0 (As := [v1]) hM cw hr hb9 hw hc rfl hW d) K
theorem x_callVN20 (C0 : x_C p s m args meth c D cl tys A H0 n ad wf cc nL own ret) {y : MethodName} {bytes : ByteArray} {mxl index : Nat} {rty : Option FieldType} {ws : List Cond} {rm : Room} {b : Nat} {T : u_T} {N ci r : Nat} {fs : List Value} {Cn : String} {host : String} {v1 v2 : Value} {σ' : xM} (hM : x_Met l y ws rm D cl tys n ad wf (.ref b :: [v1, v2]) σ none σ') (cw : va_CN R s args own index y host bytes mxl rty ws rm 0 0 2 ∧ (Cond.instanceMethod y).before args s = true ∧ (Cond.selects Cn y y).before args s = true) (hr : r < n) (hb9 : ad r = b) (hw : wf σ r = .inr (ci, fs)) (hc : cl[ci]? = some (Cn, T, N)) (hW : (st.map fun v => v.category).sum ≤ 8) (d : decode cc pc = .ok (.invokevirtual index, 3)) (K : x_W p l e R s m args below meth c D cl A H0 n ad wf nL Q σ' (pc + 3) L st) : x_W p l e R s m args below meth c D cl A H0 n ad wf nL Q σ pc L (v2 :: v1 :: .ref b :: st) :=
  x_callVN C0 (As := [v1, v2]) (val := none) hM cw hr hb9 hw hc rfl hW d K
theorem x_subVN20 (C0 : x_C p s m args meth c D cl tys A H0 n ad wf cc nL own ret) {y : MethodName} {bytes : ByteArray} {mxl index : Nat} {rty : Option FieldType} {ws : List Cond} {rm : Room} {b : Nat} {T : u_T} {N ci r : Nat} {fs : List Value} {Cn : String} {host : String} {v1 v2 : Value} {n' : Nat} {ι : Nat → Nat} {wf' : xM → Nat → va_E} {τ τ' : xM} (hι : ∀ r, r < n' → ι r < n) (hinj : ∀ i j, i < n' → j < n' → ι i = ι j → i = j) (hwf : ∀ r, r < n' → wf σ (ι r) = wf' τ r) {σ' : xM} (hwf' : ∀ r, r < n' → wf σ' (ι r) = wf' τ' r) (hsame : ∀ r, r < n → (∀ i, i < n' → ι i ≠ r) → ∀ k, σ r k = σ' r k) (hM : x_Met l y ws rm D cl tys n' (fun r => ad (ι r)) wf' (.ref b :: [v1, v2]) τ none τ') (cw : va_CN R s args own index y host bytes mxl rty ws rm 0 0 2 ∧ (Cond.instanceMethod y).before args s = true ∧ (Cond.selects Cn y y).before args s = true) (hr : r < n') (hb9 : ad (ι r) = b) (hw : wf' τ r = .inr (ci, fs)) (hc : cl[ci]? = some (Cn, T, N)) (hW : (st.map fun v => v.category).sum ≤ 8) (d : decode cc pc = .ok (.invokevirtual index, 3)) (K : x_W p l e R s m args below meth c D cl A H0 n ad wf nL Q σ' (pc + 3) L st) : x_W p l e R s m args below meth c D cl A H0 n ad wf nL Q σ pc L (v2 :: v1 :: .ref b :: st) :=
  x_callK C0 (val := none) hι hinj hwf hwf' hsame (x_runVN C0 (As := [v1, v2]) hM cw hr hb9 hw hc rfl hW d) K
theorem x_callVN21 (C0 : x_C p s m args meth c D cl tys A H0 n ad wf cc nL own ret) {y : MethodName} {bytes : ByteArray} {mxl index : Nat} {rty : Option FieldType} {ws : List Cond} {rm : Room} {b : Nat} {T : u_T} {N ci r : Nat} {fs : List Value} {Cn : String} {host : String} {v1 v2 : Value} {w : Value} {σ' : xM} (hM : x_Met l y ws rm D cl tys n ad wf (.ref b :: [v1, v2]) σ (some w) σ') (cw : va_CN R s args own index y host bytes mxl rty ws rm 0 0 2 ∧ (Cond.instanceMethod y).before args s = true ∧ (Cond.selects Cn y y).before args s = true) (hr : r < n) (hb9 : ad r = b) (hw : wf σ r = .inr (ci, fs)) (hc : cl[ci]? = some (Cn, T, N)) (hW : (st.map fun v => v.category).sum ≤ 8) (d : decode cc pc = .ok (.invokevirtual index, 3)) (K : x_W p l e R s m args below meth c D cl A H0 n ad wf nL Q σ' (pc + 3) L (w :: st)) : x_W p l e R s m args below meth c D cl A H0 n ad wf nL Q σ pc L (v2 :: v1 :: .ref b :: st) :=
  x_callVN C0 (As := [v1, v2]) (val := (some w)) hM cw hr hb9 hw hc rfl hW d K
theorem x_subVN21 (C0 : x_C p s m args meth c D cl tys A H0 n ad wf cc nL own ret) {y : MethodName} {bytes : ByteArray} {mxl index : Nat} {rty : Option FieldType} {ws : List Cond} {rm : Room} {b : Nat} {T : u_T} {N ci r : Nat} {fs : List Value} {Cn : String} {host : String} {v1 v2 : Value} {w : Value} {n' : Nat} {ι : Nat → Nat} {wf' : xM → Nat → va_E} {τ τ' : xM} (hι : ∀ r, r < n' → ι r < n) (hinj : ∀ i j, i < n' → j < n' → ι i = ι j → i = j) (hwf : ∀ r, r < n' → wf σ (ι r) = wf' τ r) {σ' : xM} (hwf' : ∀ r, r < n' → wf σ' (ι r) = wf' τ' r) (hsame : ∀ r, r < n → (∀ i, i < n' → ι i ≠ r) → ∀ k, σ r k = σ' r k) (hM : x_Met l y ws rm D cl tys n' (fun r => ad (ι r)) wf' (.ref b :: [v1, v2]) τ (some w) τ') (cw : va_CN R s args own index y host bytes mxl rty ws rm 0 0 2 ∧ (Cond.instanceMethod y).before args s = true ∧ (Cond.selects Cn y y).before args s = true) (hr : r < n') (hb9 : ad (ι r) = b) (hw : wf' τ r = .inr (ci, fs)) (hc : cl[ci]? = some (Cn, T, N)) (hW : (st.map fun v => v.category).sum ≤ 8) (d : decode cc pc = .ok (.invokevirtual index, 3)) (K : x_W p l e R s m args below meth c D cl A H0 n ad wf nL Q σ' (pc + 3) L (w :: st)) : x_W p l e R s m args below meth c D cl A H0 n ad wf nL Q σ pc L (v2 :: v1 :: .ref b :: st) :=
  x_callK C0 (val := (some w)) hι hinj hwf hwf' hsame (x_runVN C0 (As := [v1, v2]) hM cw hr hb9 hw hc rfl hW d) K
theorem x_callVN30 (C0 : x_C p s m args meth c D cl tys A H0 n ad wf cc nL own ret) {y : MethodName} {bytes : ByteArray} {mxl index : Nat} {rty : Option FieldType} {ws : List Cond} {rm : Room} {b : Nat} {T : u_T} {N ci r : Nat} {fs : List Value} {Cn : String} {host : String} {v1 v2 v3 : Value} {σ' : xM} (hM : x_Met l y ws rm D cl tys n ad wf (.ref b :: [v1, v2, v3]) σ none σ') (cw : va_CN R s args own index y host bytes mxl rty ws rm 0 0 3 ∧ (Cond.instanceMethod y).before args s = true ∧ (Cond.selects Cn y y).before args s = true) (hr : r < n) (hb9 : ad r = b) (hw : wf σ r = .inr (ci, fs)) (hc : cl[ci]? = some (Cn, T, N)) (hW : (st.map fun v => v.category).sum ≤ 8) (d : decode cc pc = .ok (.invokevirtual index, 3)) (K : x_W p l e R s m args below meth c D cl A H0 n ad wf nL Q σ' (pc + 3) L st) : x_W p l e R s m args below meth c D cl A H0 n ad wf nL Q σ pc L (v3 :: v2 :: v1 :: .ref b :: st) :=
  x_callVN C0 (As := [v1, v2, v3]) (val := none) hM cw hr hb9 hw hc rfl hW d K
theorem x_subVN30 (C0 : x_C p s m args meth c D cl tys A H0 n ad wf cc nL own ret) {y : MethodName} {bytes : ByteArray} {mxl index : Nat} {rty : Option FieldType} {ws : List Cond} {rm : Room} {b : Nat} {T : u_T} {N ci r : Nat} {fs : List Value} {Cn : String} {host : String} {v1 v2 v3 : Value} {n' : Nat} {ι : Nat → Nat} {wf' : xM → Nat → va_E} {τ τ' : xM} (hι : ∀ r, r < n' → ι r < n) (hinj : ∀ i j, i < n' → j < n' → ι i = ι j → i = j) (hwf : ∀ r, r < n' → wf σ (ι r) = wf' τ r) {σ' : xM} (hwf' : ∀ r, r < n' → wf σ' (ι r) = wf' τ' r) (hsame : ∀ r, r < n → (∀ i, i < n' → ι i ≠ r) → ∀ k, σ r k = σ' r k) (hM : x_Met l y ws rm D cl tys n' (fun r => ad (ι r)) wf' (.ref b :: [v1, v2, v3]) τ none τ') (cw : va_CN R s args own index y host bytes mxl rty ws rm 0 0 3 ∧ (Cond.instanceMethod y).before args s = true ∧ (Cond.selects Cn y y).before args s = true) (hr : r < n') (hb9 : ad (ι r) = b) (hw : wf' τ r = .inr (ci, fs)) (hc : cl[ci]? = some (Cn, T, N)) (hW : (st.map fun v => v.category).sum ≤ 8) (d : decode cc pc = .ok (.invokevirtual index, 3)) (K : x_W p l e R s m args below meth c D cl A H0 n ad wf nL Q σ' (pc + 3) L st) : x_W p l e R s m args below meth c D cl A H0 n ad wf nL Q σ pc L (v3 :: v2 :: v1 :: .ref b :: st) :=
  x_callK C0 (val := none) hι hinj hwf hwf' hsame (x_runVN C0 (As := [v1, v2, v3]) hM cw hr hb9 hw hc rfl hW d) K
theorem x_callVN31 (C0 : x_C p s m args meth c D cl tys A H0 n ad wf cc nL own ret) {y : MethodName} {bytes : ByteArray} {mxl index : Nat} {rty : Option FieldType} {ws : List Cond} {rm : Room} {b : Nat} {T : u_T} {N ci r : Nat} {fs : List Value} {Cn : String} {host : String} {v1 v2 v3 : Value} {w : Value} {σ' : xM} (hM : x_Met l y ws rm D cl tys n ad wf (.ref b :: [v1, v2, v3]) σ (some w) σ') (cw : va_CN R s args own index y host bytes mxl rty ws rm 0 0 3 ∧ (Cond.instanceMethod y).before args s = true ∧ (Cond.selects Cn y y).before args s = true) (hr : r < n) (hb9 : ad r = b) (hw : wf σ r = .inr (ci, fs)) (hc : cl[ci]? = some (Cn, T, N)) (hW : (st.map fun v => v.category).sum ≤ 8) (d : decode cc pc = .ok (.invokevirtual index, 3)) (K : x_W p l e R s m args below meth c D cl A H0 n ad wf nL Q σ' (pc + 3) L (w :: st)) : x_W p l e R s m args below meth c D cl A H0 n ad wf nL Q σ pc L (v3 :: v2 :: v1 :: .ref b :: st) :=
  x_callVN C0 (As := [v1, v2, v3]) (val := (some w)) hM cw hr hb9 hw hc rfl hW d K
theorem x_subVN31 (C0 : x_C p s m args meth c D cl tys A H0 n ad wf cc nL own ret) {y : MethodName} {bytes : ByteArray} {mxl index : Nat} {rty : Option FieldType} {ws : List Cond} {rm : Room} {b : Nat} {T : u_T} {N ci r : Nat} {fs : List Value} {Cn : String} {host : String} {v1 v2 v3 : Value} {w : Value} {n' : Nat} {ι : Nat → Nat} {wf' : xM → Nat → va_E} {τ τ' : xM} (hι : ∀ r, r < n' → ι r < n) (hinj : ∀ i j, i < n' → j < n' → ι i = ι j → i = j) (hwf : ∀ r, r < n' → wf σ (ι r) = wf' τ r) {σ' : xM} (hwf' : ∀ r, r < n' → wf σ' (ι r) = wf' τ' r) (hsame : ∀ r, r < n → (∀ i, i < n' → ι i ≠ r) → ∀ k, σ r k = σ' r k) (hM : x_Met l y ws rm D cl tys n' (fun r => ad (ι r)) wf' (.ref b :: [v1, v2, v3]) τ (some w) τ') (cw : va_CN R s args own index y host bytes mxl rty ws rm 0 0 3 ∧ (Cond.instanceMethod y).before args s = true ∧ (Cond.selects Cn y y).before args s = true) (hr : r < n') (hb9 : ad (ι r) = b) (hw : wf' τ r = .inr (ci, fs)) (hc : cl[ci]? = some (Cn, T, N)) (hW : (st.map fun v => v.category).sum ≤ 8) (d : decode cc pc = .ok (.invokevirtual index, 3)) (K : x_W p l e R s m args below meth c D cl A H0 n ad wf nL Q σ' (pc + 3) L (w :: st)) : x_W p l e R s m args below meth c D cl A H0 n ad wf nL Q σ pc L (v3 :: v2 :: v1 :: .ref b :: st) :=
  x_callK C0 (val := (some w)) hι hinj hwf hwf' hsame (x_runVN C0 (As := [v1, v2, v3]) hM cw hr hb9 hw hc rfl hW d) K
theorem x_callVN40 (C0 : x_C p s m args meth c D cl tys A H0 n ad wf cc nL own ret) {y : MethodName} {bytes : ByteArray} {mxl index : Nat} {rty : Option FieldType} {ws : List Cond} {rm : Room} {b : Nat} {T : u_T} {N ci r : Nat} {fs : List Value} {Cn : String} {host : String} {v1 v2 v3 v4 : Value} {σ' : xM} (hM : x_Met l y ws rm D cl tys n ad wf (.ref b :: [v1, v2, v3, v4]) σ none σ') (cw : va_CN R s args own index y host bytes mxl rty ws rm 0 0 4 ∧ (Cond.instanceMethod y).before args s = true ∧ (Cond.selects Cn y y).before args s = true) (hr : r < n) (hb9 : ad r = b) (hw : wf σ r = .inr (ci, fs)) (hc : cl[ci]? = some (Cn, T, N)) (hW : (st.map fun v => v.category).sum ≤ 8) (d : decode cc pc = .ok (.invokevirtual index, 3)) (K : x_W p l e R s m args below meth c D cl A H0 n ad wf nL Q σ' (pc + 3) L st) : x_W p l e R s m args below meth c D cl A H0 n ad wf nL Q σ pc L (v4 :: v3 :: v2 :: v1 :: .ref b :: st) :=
  x_callVN C0 (As := [v1, v2, v3, v4]) (val := none) hM cw hr hb9 hw hc rfl hW d K
theorem x_subVN40 (C0 : x_C p s m args meth c D cl tys A H0 n ad wf cc nL own ret) {y : MethodName} {bytes : ByteArray} {mxl index : Nat} {rty : Option FieldType} {ws : List Cond} {rm : Room} {b : Nat} {T : u_T} {N ci r : Nat} {fs : List Value} {Cn : String} {host : String} {v1 v2 v3 v4 : Value} {n' : Nat} {ι : Nat → Nat} {wf' : xM → Nat → va_E} {τ τ' : xM} (hι : ∀ r, r < n' → ι r < n) (hinj : ∀ i j, i < n' → j < n' → ι i = ι j → i = j) (hwf : ∀ r, r < n' → wf σ (ι r) = wf' τ r) {σ' : xM} (hwf' : ∀ r, r < n' → wf σ' (ι r) = wf' τ' r) (hsame : ∀ r, r < n → (∀ i, i < n' → ι i ≠ r) → ∀ k, σ r k = σ' r k) (hM : x_Met l y ws rm D cl tys n' (fun r => ad (ι r)) wf' (.ref b :: [v1, v2, v3, v4]) τ none τ') (cw : va_CN R s args own index y host bytes mxl rty ws rm 0 0 4 ∧ (Cond.instanceMethod y).before args s = true ∧ (Cond.selects Cn y y).before args s = true) (hr : r < n') (hb9 : ad (ι r) = b) (hw : wf' τ r = .inr (ci, fs)) (hc : cl[ci]? = some (Cn, T, N)) (hW : (st.map fun v => v.category).sum ≤ 8) (d : decode cc pc = .ok (.invokevirtual index, 3)) (K : x_W p l e R s m args below meth c D cl A H0 n ad wf nL Q σ' (pc + 3) L st) : x_W p l e R s m args below meth c D cl A H0 n ad wf nL Q σ pc L (v4 :: v3 :: v2 :: v1 :: .ref b :: st) :=
  x_callK C0 (val := none) hι hinj hwf hwf' hsame (x_runVN C0 (As := [v1, v2, v3, v4]) hM cw hr hb9 hw hc rfl hW d) K
theorem x_callVN41 (C0 : x_C p s m args meth c D cl tys A H0 n ad wf cc nL own ret) {y : MethodName} {bytes : ByteArray} {mxl index : Nat} {rty : Option FieldType} {ws : List Cond} {rm : Room} {b : Nat} {T : u_T} {N ci r : Nat} {fs : List Value} {Cn : String} {host : String} {v1 v2 v3 v4 : Value} {w : Value} {σ' : xM} (hM : x_Met l y ws rm D cl tys n ad wf (.ref b :: [v1, v2, v3, v4]) σ (some w) σ') (cw : va_CN R s args own index y host bytes mxl rty ws rm 0 0 4 ∧ (Cond.instanceMethod y).before args s = true ∧ (Cond.selects Cn y y).before args s = true) (hr : r < n) (hb9 : ad r = b) (hw : wf σ r = .inr (ci, fs)) (hc : cl[ci]? = some (Cn, T, N)) (hW : (st.map fun v => v.category).sum ≤ 8) (d : decode cc pc = .ok (.invokevirtual index, 3)) (K : x_W p l e R s m args below meth c D cl A H0 n ad wf nL Q σ' (pc + 3) L (w :: st)) : x_W p l e R s m args below meth c D cl A H0 n ad wf nL Q σ pc L (v4 :: v3 :: v2 :: v1 :: .ref b :: st) :=
  x_callVN C0 (As := [v1, v2, v3, v4]) (val := (some w)) hM cw hr hb9 hw hc rfl hW d K
theorem x_subVN41 (C0 : x_C p s m args meth c D cl tys A H0 n ad wf cc nL own ret) {y : MethodName} {bytes : ByteArray} {mxl index : Nat} {rty : Option FieldType} {ws : List Cond} {rm : Room} {b : Nat} {T : u_T} {N ci r : Nat} {fs : List Value} {Cn : String} {host : String} {v1 v2 v3 v4 : Value} {w : Value} {n' : Nat} {ι : Nat → Nat} {wf' : xM → Nat → va_E} {τ τ' : xM} (hι : ∀ r, r < n' → ι r < n) (hinj : ∀ i j, i < n' → j < n' → ι i = ι j → i = j) (hwf : ∀ r, r < n' → wf σ (ι r) = wf' τ r) {σ' : xM} (hwf' : ∀ r, r < n' → wf σ' (ι r) = wf' τ' r) (hsame : ∀ r, r < n → (∀ i, i < n' → ι i ≠ r) → ∀ k, σ r k = σ' r k) (hM : x_Met l y ws rm D cl tys n' (fun r => ad (ι r)) wf' (.ref b :: [v1, v2, v3, v4]) τ (some w) τ') (cw : va_CN R s args own index y host bytes mxl rty ws rm 0 0 4 ∧ (Cond.instanceMethod y).before args s = true ∧ (Cond.selects Cn y y).before args s = true) (hr : r < n') (hb9 : ad (ι r) = b) (hw : wf' τ r = .inr (ci, fs)) (hc : cl[ci]? = some (Cn, T, N)) (hW : (st.map fun v => v.category).sum ≤ 8) (d : decode cc pc = .ok (.invokevirtual index, 3)) (K : x_W p l e R s m args below meth c D cl A H0 n ad wf nL Q σ' (pc + 3) L (w :: st)) : x_W p l e R s m args below meth c D cl A H0 n ad wf nL Q σ pc L (v4 :: v3 :: v2 :: v1 :: .ref b :: st) :=
  x_callK C0 (val := (some w)) hι hinj hwf hwf' hsame (x_runVN C0 (As := [v1, v2, v3, v4]) hM cw hr hb9 hw hc rfl hW d) K
theorem x_callVN50 (C0 : x_C p s m args meth c D cl tys A H0 n ad wf cc nL own ret) {y : MethodName} {bytes : ByteArray} {mxl index : Nat} {rty : Option FieldType} {ws : List Cond} {rm : Room} {b : Nat} {T : u_T} {N ci r : Nat} {fs : List Value} {Cn : String} {host : String} {v1 v2 v3 v4 v5 : Value} {σ' : xM} (hM : x_Met l y ws rm D cl tys n ad wf (.ref b :: [v1, v2, v3, v4, v5]) σ none σ') (cw : va_CN R s args own index y host bytes mxl rty ws rm 0 0 5 ∧ (Cond.instanceMethod y).before args s = true ∧ (Cond.selects Cn y y).before args s = true) (hr : r < n) (hb9 : ad r = b) (hw : wf σ r = .inr (ci, fs)) (hc : cl[ci]? = some (Cn, T, N)) (hW : (st.map fun v => v.category).sum ≤ 8) (d : decode cc pc = .ok (.invokevirtual index, 3)) (K : x_W p l e R s m args below meth c D cl A H0 n ad wf nL Q σ' (pc + 3) L st) : x_W p l e R s m args below meth c D cl A H0 n ad wf nL Q σ pc L (v5 :: v4 :: v3 :: v2 :: v1 :: .ref b :: st) :=
  x_callVN C0 (As := [v1, v2, v3, v4, v5]) (val := none) hM cw hr hb9 hw hc rfl hW d K
theorem x_subVN50 (C0 : x_C p s m args meth c D cl tys A H0 n ad wf cc nL own ret) {y : MethodName} {bytes : ByteArray} {mxl index : Nat} {rty : Option FieldType} {ws : List Cond} {rm : Room} {b : Nat} {T : u_T} {N ci r : Nat} {fs : List Value} {Cn : String} {host : String} {v1 v2 v3 v4 v5 : Value} {n' : Nat} {ι : Nat → Nat} {wf' : xM → Nat → va_E} {τ τ' : xM} (hι : ∀ r, r < n' → ι r < n) (hinj : ∀ i j, i < n' → j < n' → ι i = ι j → i = j) (hwf : ∀ r, r < n' → wf σ (ι r) = wf' τ r) {σ' : xM} (hwf' : ∀ r, r < n' → wf σ' (ι r) = wf' τ' r) (hsame : ∀ r, r < n → (∀ i, i < n' → ι i ≠ r) → ∀ k, σ r k = σ' r k) (hM : x_Met l y ws rm D cl tys n' (fun r => ad (ι r)) wf' (.ref b :: [v1, v2, v3, v4, v5]) τ none τ') (cw : va_CN R s args own index y host bytes mxl rty ws rm 0 0 5 ∧ (Cond.instanceMethod y).before args s = true ∧ (Cond.selects Cn y y).before args s = true) (hr : r < n') (hb9 : ad (ι r) = b) (hw : wf' τ r = .inr (ci, fs)) (hc : cl[ci]? = some (Cn, T, N)) (hW : (st.map fun v => v.category).sum ≤ 8) (d : decode cc pc = .ok (.invokevirtual index, 3)) (K : x_W p l e R s m args below meth c D cl A H0 n ad wf nL Q σ' (pc + 3) L st) : x_W p l e R s m args below meth c D cl A H0 n ad wf nL Q σ pc L (v5 :: v4 :: v3 :: v2 :: v1 :: .ref b :: st) :=
  x_callK C0 (val := none) hι hinj hwf hwf' hsame (x_runVN C0 (As := [v1, v2, v3, v4, v5]) hM cw hr hb9 hw hc rfl hW d) K
theorem x_callVN51 (C0 : x_C p s m args meth c D cl tys A H0 n ad wf cc nL own ret) {y : MethodName} {bytes : ByteArray} {mxl index : Nat} {rty : Option FieldType} {ws : List Cond} {rm : Room} {b : Nat} {T : u_T} {N ci r : Nat} {fs : List Value} {Cn : String} {host : String} {v1 v2 v3 v4 v5 : Value} {w : Value} {σ' : xM} (hM : x_Met l y ws rm D cl tys n ad wf (.ref b :: [v1, v2, v3, v4, v5]) σ (some w) σ') (cw : va_CN R s args own index y host bytes mxl rty ws rm 0 0 5 ∧ (Cond.instanceMethod y).before args s = true ∧ (Cond.selects Cn y y).before args s = true) (hr : r < n) (hb9 : ad r = b) (hw : wf σ r = .inr (ci, fs)) (hc : cl[ci]? = some (Cn, T, N)) (hW : (st.map fun v => v.category).sum ≤ 8) (d : decode cc pc = .ok (.invokevirtual index, 3)) (K : x_W p l e R s m args below meth c D cl A H0 n ad wf nL Q σ' (pc + 3) L (w :: st)) : x_W p l e R s m args below meth c D cl A H0 n ad wf nL Q σ pc L (v5 :: v4 :: v3 :: v2 :: v1 :: .ref b :: st) :=
  x_callVN C0 (As := [v1, v2, v3, v4, v5]) (val := (some w)) hM cw hr hb9 hw hc rfl hW d K
theorem x_subVN51 (C0 : x_C p s m args meth c D cl tys A H0 n ad wf cc nL own ret) {y : MethodName} {bytes : ByteArray} {mxl index : Nat} {rty : Option FieldType} {ws : List Cond} {rm : Room} {b : Nat} {T : u_T} {N ci r : Nat} {fs : List Value} {Cn : String} {host : String} {v1 v2 v3 v4 v5 : Value} {w : Value} {n' : Nat} {ι : Nat → Nat} {wf' : xM → Nat → va_E} {τ τ' : xM} (hι : ∀ r, r < n' → ι r < n) (hinj : ∀ i j, i < n' → j < n' → ι i = ι j → i = j) (hwf : ∀ r, r < n' → wf σ (ι r) = wf' τ r) {σ' : xM} (hwf' : ∀ r, r < n' → wf σ' (ι r) = wf' τ' r) (hsame : ∀ r, r < n → (∀ i, i < n' → ι i ≠ r) → ∀ k, σ r k = σ' r k) (hM : x_Met l y ws rm D cl tys n' (fun r => ad (ι r)) wf' (.ref b :: [v1, v2, v3, v4, v5]) τ (some w) τ') (cw : va_CN R s args own index y host bytes mxl rty ws rm 0 0 5 ∧ (Cond.instanceMethod y).before args s = true ∧ (Cond.selects Cn y y).before args s = true) (hr : r < n') (hb9 : ad (ι r) = b) (hw : wf' τ r = .inr (ci, fs)) (hc : cl[ci]? = some (Cn, T, N)) (hW : (st.map fun v => v.category).sum ≤ 8) (d : decode cc pc = .ok (.invokevirtual index, 3)) (K : x_W p l e R s m args below meth c D cl A H0 n ad wf nL Q σ' (pc + 3) L (w :: st)) : x_W p l e R s m args below meth c D cl A H0 n ad wf nL Q σ pc L (v5 :: v4 :: v3 :: v2 :: v1 :: .ref b :: st) :=
  x_callK C0 (val := (some w)) hι hinj hwf hwf' hsame (x_runVN C0 (As := [v1, v2, v3, v4, v5]) hM cw hr hb9 hw hc rfl hW d) K
theorem x_callS00 (C0 : x_C p s m args meth c D cl tys A H0 n ad wf cc nL own ret) {y : MethodName} {bytes : ByteArray} {mxl index : Nat} {rty : Option FieldType} {ws : List Cond} {rm : Room} {σ' : xM} (hM : x_Met l y ws rm D cl tys n ad wf [] σ none σ') (cw : CallB R s args own index y bytes mxl rty ws rm 0 0 0 ∧ (Cond.static y).before args s = true) (hW : (st.map fun v => v.category).sum ≤ 8) (d : decode cc pc = .ok (.invokestatic index, 3)) (K : x_W p l e R s m args below meth c D cl A H0 n ad wf nL Q σ' (pc + 3) L st) : x_W p l e R s m args below meth c D cl A H0 n ad wf nL Q σ pc L (st) :=
  x_callS C0 (As := []) (val := none) hM cw rfl hW d K
theorem x_callS01 (C0 : x_C p s m args meth c D cl tys A H0 n ad wf cc nL own ret) {y : MethodName} {bytes : ByteArray} {mxl index : Nat} {rty : Option FieldType} {ws : List Cond} {rm : Room} {w : Value} {σ' : xM} (hM : x_Met l y ws rm D cl tys n ad wf [] σ (some w) σ') (cw : CallB R s args own index y bytes mxl rty ws rm 0 0 0 ∧ (Cond.static y).before args s = true) (hW : (st.map fun v => v.category).sum ≤ 8) (d : decode cc pc = .ok (.invokestatic index, 3)) (K : x_W p l e R s m args below meth c D cl A H0 n ad wf nL Q σ' (pc + 3) L (w :: st)) : x_W p l e R s m args below meth c D cl A H0 n ad wf nL Q σ pc L (st) :=
  x_callS C0 (As := []) (val := (some w)) hM cw rfl hW d K
theorem x_pureS0 (C0 : x_C p s m args meth c D cl tys A H0 n ad wf cc nL own ret) {y : MethodName} {bytes : ByteArray} {mxl index : Nat} {rty : Option FieldType} {ws : List Cond} {rm : Room} {w : Value} {wf' : xM → Nat → va_E} {τ τ' : xM} (hM : ∀ ad', x_Met l y ws rm D cl tys 0 ad' wf' [] τ (some w) τ') (cw : CallB R s args own index y bytes mxl rty ws rm 0 0 0 ∧ (Cond.static y).before args s = true) (hW : (st.map fun v => v.category).sum ≤ 8) (d : decode cc pc = .ok (.invokestatic index, 3)) (K : x_W p l e R s m args below meth c D cl A H0 n ad wf nL Q σ (pc + 3) L (w :: st)) : x_W p l e R s m args below meth c D cl A H0 n ad wf nL Q σ pc L (st) :=
  x_pureS C0 (As := []) (val := (some w)) hM cw rfl hW d K
theorem x_callS10 (C0 : x_C p s m args meth c D cl tys A H0 n ad wf cc nL own ret) {y : MethodName} {bytes : ByteArray} {mxl index : Nat} {rty : Option FieldType} {ws : List Cond} {rm : Room} {v1 : Value} {σ' : xM} (hM : x_Met l y ws rm D cl tys n ad wf [v1] σ none σ') (cw : CallB R s args own index y bytes mxl rty ws rm 0 0 1 ∧ (Cond.static y).before args s = true) (hW : (st.map fun v => v.category).sum ≤ 8) (d : decode cc pc = .ok (.invokestatic index, 3)) (K : x_W p l e R s m args below meth c D cl A H0 n ad wf nL Q σ' (pc + 3) L st) : x_W p l e R s m args below meth c D cl A H0 n ad wf nL Q σ pc L (v1 :: st) :=
  x_callS C0 (As := [v1]) (val := none) hM cw rfl hW d K
theorem x_callS11 (C0 : x_C p s m args meth c D cl tys A H0 n ad wf cc nL own ret) {y : MethodName} {bytes : ByteArray} {mxl index : Nat} {rty : Option FieldType} {ws : List Cond} {rm : Room} {v1 : Value} {w : Value} {σ' : xM} (hM : x_Met l y ws rm D cl tys n ad wf [v1] σ (some w) σ') (cw : CallB R s args own index y bytes mxl rty ws rm 0 0 1 ∧ (Cond.static y).before args s = true) (hW : (st.map fun v => v.category).sum ≤ 8) (d : decode cc pc = .ok (.invokestatic index, 3)) (K : x_W p l e R s m args below meth c D cl A H0 n ad wf nL Q σ' (pc + 3) L (w :: st)) : x_W p l e R s m args below meth c D cl A H0 n ad wf nL Q σ pc L (v1 :: st) :=
  x_callS C0 (As := [v1]) (val := (some w)) hM cw rfl hW d K
theorem x_pureS1 (C0 : x_C p s m args meth c D cl tys A H0 n ad wf cc nL own ret) {y : MethodName} {bytes : ByteArray} {mxl index : Nat} {rty : Option FieldType} {ws : List Cond} {rm : Room} {v1 : Value} {w : Value} {wf' : xM → Nat → va_E} {τ τ' : xM} (hM : ∀ ad', x_Met l y ws rm D cl tys 0 ad' wf' [v1] τ (some w) τ') (cw : CallB R s args own index y bytes mxl rty ws rm 0 0 1 ∧ (Cond.static y).before args s = true) (hW : (st.map fun v => v.category).sum ≤ 8) (d : decode cc pc = .ok (.invokestatic index, 3)) (K : x_W p l e R s m args below meth c D cl A H0 n ad wf nL Q σ (pc + 3) L (w :: st)) : x_W p l e R s m args below meth c D cl A H0 n ad wf nL Q σ pc L (v1 :: st) :=
  x_pureS C0 (As := [v1]) (val := (some w)) hM cw rfl hW d K
theorem x_callS20 (C0 : x_C p s m args meth c D cl tys A H0 n ad wf cc nL own ret) {y : MethodName} {bytes : ByteArray} {mxl index : Nat} {rty : Option FieldType} {ws : List Cond} {rm : Room} {v1 v2 : Value} {σ' : xM} (hM : x_Met l y ws rm D cl tys n ad wf [v1, v2] σ none σ') (cw : CallB R s args own index y bytes mxl rty ws rm 0 0 2 ∧ (Cond.static y).before args s = true) (hW : (st.map fun v => v.category).sum ≤ 8) (d : decode cc pc = .ok (.invokestatic index, 3)) (K : x_W p l e R s m args below meth c D cl A H0 n ad wf nL Q σ' (pc + 3) L st) : x_W p l e R s m args below meth c D cl A H0 n ad wf nL Q σ pc L (v2 :: v1 :: st) :=
  x_callS C0 (As := [v1, v2]) (val := none) hM cw rfl hW d K
theorem x_callS21 (C0 : x_C p s m args meth c D cl tys A H0 n ad wf cc nL own ret) {y : MethodName} {bytes : ByteArray} {mxl index : Nat} {rty : Option FieldType} {ws : List Cond} {rm : Room} {v1 v2 : Value} {w : Value} {σ' : xM} (hM : x_Met l y ws rm D cl tys n ad wf [v1, v2] σ (some w) σ') (cw : CallB R s args own index y bytes mxl rty ws rm 0 0 2 ∧ (Cond.static y).before args s = true) (hW : (st.map fun v => v.category).sum ≤ 8) (d : decode cc pc = .ok (.invokestatic index, 3)) (K : x_W p l e R s m args below meth c D cl A H0 n ad wf nL Q σ' (pc + 3) L (w :: st)) : x_W p l e R s m args below meth c D cl A H0 n ad wf nL Q σ pc L (v2 :: v1 :: st) :=
  x_callS C0 (As := [v1, v2]) (val := (some w)) hM cw rfl hW d K
theorem x_pureS2 (C0 : x_C p s m args meth c D cl tys A H0 n ad wf cc nL own ret) {y : MethodName} {bytes : ByteArray} {mxl index : Nat} {rty : Option FieldType} {ws : List Cond} {rm : Room} {v1 v2 : Value} {w : Value} {wf' : xM → Nat → va_E} {τ τ' : xM} (hM : ∀ ad', x_Met l y ws rm D cl tys 0 ad' wf' [v1, v2] τ (some w) τ') (cw : CallB R s args own index y bytes mxl rty ws rm 0 0 2 ∧ (Cond.static y).before args s = true) (hW : (st.map fun v => v.category).sum ≤ 8) (d : decode cc pc = .ok (.invokestatic index, 3)) (K : x_W p l e R s m args below meth c D cl A H0 n ad wf nL Q σ (pc + 3) L (w :: st)) : x_W p l e R s m args below meth c D cl A H0 n ad wf nL Q σ pc L (v2 :: v1 :: st) :=
  x_pureS C0 (As := [v1, v2]) (val := (some w)) hM cw rfl hW d K
theorem x_callS30 (C0 : x_C p s m args meth c D cl tys A H0 n ad wf cc nL own ret) {y : MethodName} {bytes : ByteArray} {mxl index : Nat} {rty : Option FieldType} {ws : List Cond} {rm : Room} {v1 v2 v3 : Value} {σ' : xM} (hM : x_Met l y ws rm D cl tys n ad wf [v1, v2, v3] σ none σ') (cw : CallB R s args own index y bytes mxl rty ws rm 0 0 3 ∧ (Cond.static y).before args s = true) (hW : (st.map fun v => v.category).sum ≤ 8) (d : decode cc pc = .ok (.invokestatic index, 3)) (K : x_W p l e R s m args below meth c D cl A H0 n ad wf nL Q σ' (pc + 3) L st) : x_W p l e R s m args below meth c D cl A H0 n ad wf nL Q σ pc L (v3 :: v2 :: v1 :: st) :=
  x_callS C0 (As := [v1, v2, v3]) (val := none) hM cw rfl hW d K
theorem x_callS31 (C0 : x_C p s m args meth c D cl tys A H0 n ad wf cc nL own ret) {y : MethodName} {bytes : ByteArray} {mxl index : Nat} {rty : Option FieldType} {ws : List Cond} {rm : Room} {v1 v2 v3 : Value} {w : Value} {σ' : xM} (hM : x_Met l y ws rm D cl tys n ad wf [v1, v2, v3] σ (some w) σ') (cw : CallB R s args own index y bytes mxl rty ws rm 0 0 3 ∧ (Cond.static y).before args s = true) (hW : (st.map fun v => v.category).sum ≤ 8) (d : decode cc pc = .ok (.invokestatic index, 3)) (K : x_W p l e R s m args below meth c D cl A H0 n ad wf nL Q σ' (pc + 3) L (w :: st)) : x_W p l e R s m args below meth c D cl A H0 n ad wf nL Q σ pc L (v3 :: v2 :: v1 :: st) :=
  x_callS C0 (As := [v1, v2, v3]) (val := (some w)) hM cw rfl hW d K
theorem x_pureS3 (C0 : x_C p s m args meth c D cl tys A H0 n ad wf cc nL own ret) {y : MethodName} {bytes : ByteArray} {mxl index : Nat} {rty : Option FieldType} {ws : List Cond} {rm : Room} {v1 v2 v3 : Value} {w : Value} {wf' : xM → Nat → va_E} {τ τ' : xM} (hM : ∀ ad', x_Met l y ws rm D cl tys 0 ad' wf' [v1, v2, v3] τ (some w) τ') (cw : CallB R s args own index y bytes mxl rty ws rm 0 0 3 ∧ (Cond.static y).before args s = true) (hW : (st.map fun v => v.category).sum ≤ 8) (d : decode cc pc = .ok (.invokestatic index, 3)) (K : x_W p l e R s m args below meth c D cl A H0 n ad wf nL Q σ (pc + 3) L (w :: st)) : x_W p l e R s m args below meth c D cl A H0 n ad wf nL Q σ pc L (v3 :: v2 :: v1 :: st) :=
  x_pureS C0 (As := [v1, v2, v3]) (val := (some w)) hM cw rfl hW d K
theorem x_callS40 (C0 : x_C p s m args meth c D cl tys A H0 n ad wf cc nL own ret) {y : MethodName} {bytes : ByteArray} {mxl index : Nat} {rty : Option FieldType} {ws : List Cond} {rm : Room} {v1 v2 v3 v4 : Value} {σ' : xM} (hM : x_Met l y ws rm D cl tys n ad wf [v1, v2, v3, v4] σ none σ') (cw : CallB R s args own index y bytes mxl rty ws rm 0 0 4 ∧ (Cond.static y).before args s = true) (hW : (st.map fun v => v.category).sum ≤ 8) (d : decode cc pc = .ok (.invokestatic index, 3)) (K : x_W p l e R s m args below meth c D cl A H0 n ad wf nL Q σ' (pc + 3) L st) : x_W p l e R s m args below meth c D cl A H0 n ad wf nL Q σ pc L (v4 :: v3 :: v2 :: v1 :: st) :=
  x_callS C0 (As := [v1, v2, v3, v4]) (val := none) hM cw rfl hW d K
theorem x_callS41 (C0 : x_C p s m args meth c D cl tys A H0 n ad wf cc nL own ret) {y : MethodName} {bytes : ByteArray} {mxl index : Nat} {rty : Option FieldType} {ws : List Cond} {rm : Room} {v1 v2 v3 v4 : Value} {w : Value} {σ' : xM} (hM : x_Met l y ws rm D cl tys n ad wf [v1, v2, v3, v4] σ (some w) σ') (cw : CallB R s args own index y bytes mxl rty ws rm 0 0 4 ∧ (Cond.static y).before args s = true) (hW : (st.map fun v => v.category).sum ≤ 8) (d : decode cc pc = .ok (.invokestatic index, 3)) (K : x_W p l e R s m args below meth c D cl A H0 n ad wf nL Q σ' (pc + 3) L (w :: st)) : x_W p l e R s m args below meth c D cl A H0 n ad wf nL Q σ pc L (v4 :: v3 :: v2 :: v1 :: st) :=
  x_callS C0 (As := [v1, v2, v3, v4]) (val := (some w)) hM cw rfl hW d K
theorem x_pureS4 (C0 : x_C p s m args meth c D cl tys A H0 n ad wf cc nL own ret) {y : MethodName} {bytes : ByteArray} {mxl index : Nat} {rty : Option FieldType} {ws : List Cond} {rm : Room} {v1 v2 v3 v4 : Value} {w : Value} {wf' : xM → Nat → va_E} {τ τ' : xM} (hM : ∀ ad', x_Met l y ws rm D cl tys 0 ad' wf' [v1, v2, v3, v4] τ (some w) τ') (cw : CallB R s args own index y bytes mxl rty ws rm 0 0 4 ∧ (Cond.static y).before args s = true) (hW : (st.map fun v => v.category).sum ≤ 8) (d : decode cc pc = .ok (.invokestatic index, 3)) (K : x_W p l e R s m args below meth c D cl A H0 n ad wf nL Q σ (pc + 3) L (w :: st)) : x_W p l e R s m args below meth c D cl A H0 n ad wf nL Q σ pc L (v4 :: v3 :: v2 :: v1 :: st) :=
  x_pureS C0 (As := [v1, v2, v3, v4]) (val := (some w)) hM cw rfl hW d K
theorem x_callS50 (C0 : x_C p s m args meth c D cl tys A H0 n ad wf cc nL own ret) {y : MethodName} {bytes : ByteArray} {mxl index : Nat} {rty : Option FieldType} {ws : List Cond} {rm : Room} {v1 v2 v3 v4 v5 : Value} {σ' : xM} (hM : x_Met l y ws rm D cl tys n ad wf [v1, v2, v3, v4, v5] σ none σ') (cw : CallB R s args own index y bytes mxl rty ws rm 0 0 5 ∧ (Cond.static y).before args s = true) (hW : (st.map fun v => v.category).sum ≤ 8) (d : decode cc pc = .ok (.invokestatic index, 3)) (K : x_W p l e R s m args below meth c D cl A H0 n ad wf nL Q σ' (pc + 3) L st) : x_W p l e R s m args below meth c D cl A H0 n ad wf nL Q σ pc L (v5 :: v4 :: v3 :: v2 :: v1 :: st) :=
  x_callS C0 (As := [v1, v2, v3, v4, v5]) (val := none) hM cw rfl hW d K
theorem x_callS51 (C0 : x_C p s m args meth c D cl tys A H0 n ad wf cc nL own ret) {y : MethodName} {bytes : ByteArray} {mxl index : Nat} {rty : Option FieldType} {ws : List Cond} {rm : Room} {v1 v2 v3 v4 v5 : Value} {w : Value} {σ' : xM} (hM : x_Met l y ws rm D cl tys n ad wf [v1, v2, v3, v4, v5] σ (some w) σ') (cw : CallB R s args own index y bytes mxl rty ws rm 0 0 5 ∧ (Cond.static y).before args s = true) (hW : (st.map fun v => v.category).sum ≤ 8) (d : decode cc pc = .ok (.invokestatic index, 3)) (K : x_W p l e R s m args below meth c D cl A H0 n ad wf nL Q σ' (pc + 3) L (w :: st)) : x_W p l e R s m args below meth c D cl A H0 n ad wf nL Q σ pc L (v5 :: v4 :: v3 :: v2 :: v1 :: st) :=
  x_callS C0 (As := [v1, v2, v3, v4, v5]) (val := (some w)) hM cw rfl hW d K
theorem x_pureS5 (C0 : x_C p s m args meth c D cl tys A H0 n ad wf cc nL own ret) {y : MethodName} {bytes : ByteArray} {mxl index : Nat} {rty : Option FieldType} {ws : List Cond} {rm : Room} {v1 v2 v3 v4 v5 : Value} {w : Value} {wf' : xM → Nat → va_E} {τ τ' : xM} (hM : ∀ ad', x_Met l y ws rm D cl tys 0 ad' wf' [v1, v2, v3, v4, v5] τ (some w) τ') (cw : CallB R s args own index y bytes mxl rty ws rm 0 0 5 ∧ (Cond.static y).before args s = true) (hW : (st.map fun v => v.category).sum ≤ 8) (d : decode cc pc = .ok (.invokestatic index, 3)) (K : x_W p l e R s m args below meth c D cl A H0 n ad wf nL Q σ (pc + 3) L (w :: st)) : x_W p l e R s m args below meth c D cl A H0 n ad wf nL Q σ pc L (v5 :: v4 :: v3 :: v2 :: v1 :: st) :=
  x_pureS C0 (As := [v1, v2, v3, v4, v5]) (val := (some w)) hM cw rfl hW d K
theorem x_callSN00 (C0 : x_C p s m args meth c D cl tys A H0 n ad wf cc nL own ret) {y : MethodName} {bytes : ByteArray} {mxl index : Nat} {rty : Option FieldType} {ws : List Cond} {rm : Room} {host : String} {σ' : xM} (hM : x_Met l y ws rm D cl tys n ad wf [] σ none σ') (cw : va_CN R s args own index y host bytes mxl rty ws rm 0 0 0 ∧ (Cond.static y).before args s = true ∧ True) (hW : (st.map fun v => v.category).sum ≤ 8) (d : decode cc pc = .ok (.invokestatic index, 3)) (K : x_W p l e R s m args below meth c D cl A H0 n ad wf nL Q σ' (pc + 3) L st) : x_W p l e R s m args below meth c D cl A H0 n ad wf nL Q σ pc L (st) :=
  x_callSN C0 (As := []) (val := none) hM cw rfl hW d K
theorem x_callSN01 (C0 : x_C p s m args meth c D cl tys A H0 n ad wf cc nL own ret) {y : MethodName} {bytes : ByteArray} {mxl index : Nat} {rty : Option FieldType} {ws : List Cond} {rm : Room} {host : String} {w : Value} {σ' : xM} (hM : x_Met l y ws rm D cl tys n ad wf [] σ (some w) σ') (cw : va_CN R s args own index y host bytes mxl rty ws rm 0 0 0 ∧ (Cond.static y).before args s = true ∧ True) (hW : (st.map fun v => v.category).sum ≤ 8) (d : decode cc pc = .ok (.invokestatic index, 3)) (K : x_W p l e R s m args below meth c D cl A H0 n ad wf nL Q σ' (pc + 3) L (w :: st)) : x_W p l e R s m args below meth c D cl A H0 n ad wf nL Q σ pc L (st) :=
  x_callSN C0 (As := []) (val := (some w)) hM cw rfl hW d K
theorem x_pureSN0 (C0 : x_C p s m args meth c D cl tys A H0 n ad wf cc nL own ret) {y : MethodName} {bytes : ByteArray} {mxl index : Nat} {rty : Option FieldType} {ws : List Cond} {rm : Room} {host : String} {w : Value} {wf' : xM → Nat → va_E} {τ τ' : xM} (hM : ∀ ad', x_Met l y ws rm D cl tys 0 ad' wf' [] τ (some w) τ') (cw : va_CN R s args own index y host bytes mxl rty ws rm 0 0 0 ∧ (Cond.static y).before args s = true ∧ True) (hW : (st.map fun v => v.category).sum ≤ 8) (d : decode cc pc = .ok (.invokestatic index, 3)) (K : x_W p l e R s m args below meth c D cl A H0 n ad wf nL Q σ (pc + 3) L (w :: st)) : x_W p l e R s m args below meth c D cl A H0 n ad wf nL Q σ pc L (st) :=
  x_pureSN C0 (As := []) (val := (some w)) hM cw rfl hW d K
theorem x_callSN10 (C0 : x_C p s m args meth c D cl tys A H0 n ad wf cc nL own ret) {y : MethodName} {bytes : ByteArray} {mxl index : Nat} {rty : Option FieldType} {ws : List Cond} {rm : Room} {host : String} {v1 : Value} {σ' : xM} (hM : x_Met l y ws rm D cl tys n ad wf [v1] σ none σ') (cw : va_CN R s args own index y host bytes mxl rty ws rm 0 0 1 ∧ (Cond.static y).before args s = true ∧ True) (hW : (st.map fun v => v.category).sum ≤ 8) (d : decode cc pc = .ok (.invokestatic index, 3)) (K : x_W p l e R s m args below meth c D cl A H0 n ad wf nL Q σ' (pc + 3) L st) : x_W p l e R s m args below meth c D cl A H0 n ad wf nL Q σ pc L (v1 :: st) :=
  x_callSN C0 (As := [v1]) (val := none) hM cw rfl hW d K
theorem x_callSN11 (C0 : x_C p s m args meth c D cl tys A H0 n ad wf cc nL own ret) {y : MethodName} {bytes : ByteArray} {mxl index : Nat} {rty : Option FieldType} {ws : List Cond} {rm : Room} {host : String} {v1 : Value} {w : Value} {σ' : xM} (hM : x_Met l y ws rm D cl tys n ad wf [v1] σ (some w) σ') (cw : va_CN R s args own index y host bytes mxl rty ws rm 0 0 1 ∧ (Cond.static y).before args s = true ∧ True) (hW : (st.map fun v => v.category).sum ≤ 8) (d : decode cc pc = .ok (.invokestatic index, 3)) (K : x_W p l e R s m args below meth c D cl A H0 n ad wf nL Q σ' (pc + 3) L (w :: st)) : x_W p l e R s m args below meth c D cl A H0 n ad wf nL Q σ pc L (v1 :: st) :=
  x_callSN C0 (As := [v1]) (val := (some w)) hM cw rfl hW d K
theorem x_pureSN1 (C0 : x_C p s m args meth c D cl tys A H0 n ad wf cc nL own ret) {y : MethodName} {bytes : ByteArray} {mxl index : Nat} {rty : Option FieldType} {ws : List Cond} {rm : Room} {host : String} {v1 : Value} {w : Value} {wf' : xM → Nat → va_E} {τ τ' : xM} (hM : ∀ ad', x_Met l y ws rm D cl tys 0 ad' wf' [v1] τ (some w) τ') (cw : va_CN R s args own index y host bytes mxl rty ws rm 0 0 1 ∧ (Cond.static y).before args s = true ∧ True) (hW : (st.map fun v => v.category).sum ≤ 8) (d : decode cc pc = .ok (.invokestatic index, 3)) (K : x_W p l e R s m args below meth c D cl A H0 n ad wf nL Q σ (pc + 3) L (w :: st)) : x_W p l e R s m args below meth c D cl A H0 n ad wf nL Q σ pc L (v1 :: st) :=
  x_pureSN C0 (As := [v1]) (val := (some w)) hM cw rfl hW d K
theorem x_callSN20 (C0 : x_C p s m args meth c D cl tys A H0 n ad wf cc nL own ret) {y : MethodName} {bytes : ByteArray} {mxl index : Nat} {rty : Option FieldType} {ws : List Cond} {rm : Room} {host : String} {v1 v2 : Value} {σ' : xM} (hM : x_Met l y ws rm D cl tys n ad wf [v1, v2] σ none σ') (cw : va_CN R s args own index y host bytes mxl rty ws rm 0 0 2 ∧ (Cond.static y).before args s = true ∧ True) (hW : (st.map fun v => v.category).sum ≤ 8) (d : decode cc pc = .ok (.invokestatic index, 3)) (K : x_W p l e R s m args below meth c D cl A H0 n ad wf nL Q σ' (pc + 3) L st) : x_W p l e R s m args below meth c D cl A H0 n ad wf nL Q σ pc L (v2 :: v1 :: st) :=
  x_callSN C0 (As := [v1, v2]) (val := none) hM cw rfl hW d K
theorem x_callSN21 (C0 : x_C p s m args meth c D cl tys A H0 n ad wf cc nL own ret) {y : MethodName} {bytes : ByteArray} {mxl index : Nat} {rty : Option FieldType} {ws : List Cond} {rm : Room} {host : String} {v1 v2 : Value} {w : Value} {σ' : xM} (hM : x_Met l y ws rm D cl tys n ad wf [v1, v2] σ (some w) σ') (cw : va_CN R s args own index y host bytes mxl rty ws rm 0 0 2 ∧ (Cond.static y).before args s = true ∧ True) (hW : (st.map fun v => v.category).sum ≤ 8) (d : decode cc pc = .ok (.invokestatic index, 3)) (K : x_W p l e R s m args below meth c D cl A H0 n ad wf nL Q σ' (pc + 3) L (w :: st)) : x_W p l e R s m args below meth c D cl A H0 n ad wf nL Q σ pc L (v2 :: v1 :: st) :=
  x_callSN C0 (As := [v1, v2]) (val := (some w)) hM cw rfl hW d K
theorem x_pureSN2 (C0 : x_C p s m args meth c D cl tys A H0 n ad wf cc nL own ret) {y : MethodName} {bytes : ByteArray} {mxl index : Nat} {rty : Option FieldType} {ws : List Cond} {rm : Room} {host : String} {v1 v2 : Value} {w : Value} {wf' : xM → Nat → va_E} {τ τ' : xM} (hM : ∀ ad', x_Met l y ws rm D cl tys 0 ad' wf' [v1, v2] τ (some w) τ') (cw : va_CN R s args own index y host bytes mxl rty ws rm 0 0 2 ∧ (Cond.static y).before args s = true ∧ True) (hW : (st.map fun v => v.category).sum ≤ 8) (d : decode cc pc = .ok (.invokestatic index, 3)) (K : x_W p l e R s m args below meth c D cl A H0 n ad wf nL Q σ (pc + 3) L (w :: st)) : x_W p l e R s m args below meth c D cl A H0 n ad wf nL Q σ pc L (v2 :: v1 :: st) :=
  x_pureSN C0 (As := [v1, v2]) (val := (some w)) hM cw rfl hW d K
theorem x_callSN30 (C0 : x_C p s m args meth c D cl tys A H0 n ad wf cc nL own ret) {y : MethodName} {bytes : ByteArray} {mxl index : Nat} {rty : Option FieldType} {ws : List Cond} {rm : Room} {host : String} {v1 v2 v3 : Value} {σ' : xM} (hM : x_Met l y ws rm D cl tys n ad wf [v1, v2, v3] σ none σ') (cw : va_CN R s args own index y host bytes mxl rty ws rm 0 0 3 ∧ (Cond.static y).before args s = true ∧ True) (hW : (st.map fun v => v.category).sum ≤ 8) (d : decode cc pc = .ok (.invokestatic index, 3)) (K : x_W p l e R s m args below meth c D cl A H0 n ad wf nL Q σ' (pc + 3) L st) : x_W p l e R s m args below meth c D cl A H0 n ad wf nL Q σ pc L (v3 :: v2 :: v1 :: st) :=
  x_callSN C0 (As := [v1, v2, v3]) (val := none) hM cw rfl hW d K
theorem x_callSN31 (C0 : x_C p s m args meth c D cl tys A H0 n ad wf cc nL own ret) {y : MethodName} {bytes : ByteArray} {mxl index : Nat} {rty : Option FieldType} {ws : List Cond} {rm : Room} {host : String} {v1 v2 v3 : Value} {w : Value} {σ' : xM} (hM : x_Met l y ws rm D cl tys n ad wf [v1, v2, v3] σ (some w) σ') (cw : va_CN R s args own index y host bytes mxl rty ws rm 0 0 3 ∧ (Cond.static y).before args s = true ∧ True) (hW : (st.map fun v => v.category).sum ≤ 8) (d : decode cc pc = .ok (.invokestatic index, 3)) (K : x_W p l e R s m args below meth c D cl A H0 n ad wf nL Q σ' (pc + 3) L (w :: st)) : x_W p l e R s m args below meth c D cl A H0 n ad wf nL Q σ pc L (v3 :: v2 :: v1 :: st) :=
  x_callSN C0 (As := [v1, v2, v3]) (val := (some w)) hM cw rfl hW d K
theorem x_pureSN3 (C0 : x_C p s m args meth c D cl tys A H0 n ad wf cc nL own ret) {y : MethodName} {bytes : ByteArray} {mxl index : Nat} {rty : Option FieldType} {ws : List Cond} {rm : Room} {host : String} {v1 v2 v3 : Value} {w : Value} {wf' : xM → Nat → va_E} {τ τ' : xM} (hM : ∀ ad', x_Met l y ws rm D cl tys 0 ad' wf' [v1, v2, v3] τ (some w) τ') (cw : va_CN R s args own index y host bytes mxl rty ws rm 0 0 3 ∧ (Cond.static y).before args s = true ∧ True) (hW : (st.map fun v => v.category).sum ≤ 8) (d : decode cc pc = .ok (.invokestatic index, 3)) (K : x_W p l e R s m args below meth c D cl A H0 n ad wf nL Q σ (pc + 3) L (w :: st)) : x_W p l e R s m args below meth c D cl A H0 n ad wf nL Q σ pc L (v3 :: v2 :: v1 :: st) :=
  x_pureSN C0 (As := [v1, v2, v3]) (val := (some w)) hM cw rfl hW d K
theorem x_callSN40 (C0 : x_C p s m args meth c D cl tys A H0 n ad wf cc nL own ret) {y : MethodName} {bytes : ByteArray} {mxl index : Nat} {rty : Option FieldType} {ws : List Cond} {rm : Room} {host : String} {v1 v2 v3 v4 : Value} {σ' : xM} (hM : x_Met l y ws rm D cl tys n ad wf [v1, v2, v3, v4] σ none σ') (cw : va_CN R s args own index y host bytes mxl rty ws rm 0 0 4 ∧ (Cond.static y).before args s = true ∧ True) (hW : (st.map fun v => v.category).sum ≤ 8) (d : decode cc pc = .ok (.invokestatic index, 3)) (K : x_W p l e R s m args below meth c D cl A H0 n ad wf nL Q σ' (pc + 3) L st) : x_W p l e R s m args below meth c D cl A H0 n ad wf nL Q σ pc L (v4 :: v3 :: v2 :: v1 :: st) :=
  x_callSN C0 (As := [v1, v2, v3, v4]) (val := none) hM cw rfl hW d K
theorem x_callSN41 (C0 : x_C p s m args meth c D cl tys A H0 n ad wf cc nL own ret) {y : MethodName} {bytes : ByteArray} {mxl index : Nat} {rty : Option FieldType} {ws : List Cond} {rm : Room} {host : String} {v1 v2 v3 v4 : Value} {w : Value} {σ' : xM} (hM : x_Met l y ws rm D cl tys n ad wf [v1, v2, v3, v4] σ (some w) σ') (cw : va_CN R s args own index y host bytes mxl rty ws rm 0 0 4 ∧ (Cond.static y).before args s = true ∧ True) (hW : (st.map fun v => v.category).sum ≤ 8) (d : decode cc pc = .ok (.invokestatic index, 3)) (K : x_W p l e R s m args below meth c D cl A H0 n ad wf nL Q σ' (pc + 3) L (w :: st)) : x_W p l e R s m args below meth c D cl A H0 n ad wf nL Q σ pc L (v4 :: v3 :: v2 :: v1 :: st) :=
  x_callSN C0 (As := [v1, v2, v3, v4]) (val := (some w)) hM cw rfl hW d K
theorem x_pureSN4 (C0 : x_C p s m args meth c D cl tys A H0 n ad wf cc nL own ret) {y : MethodName} {bytes : ByteArray} {mxl index : Nat} {rty : Option FieldType} {ws : List Cond} {rm : Room} {host : String} {v1 v2 v3 v4 : Value} {w : Value} {wf' : xM → Nat → va_E} {τ τ' : xM} (hM : ∀ ad', x_Met l y ws rm D cl tys 0 ad' wf' [v1, v2, v3, v4] τ (some w) τ') (cw : va_CN R s args own index y host bytes mxl rty ws rm 0 0 4 ∧ (Cond.static y).before args s = true ∧ True) (hW : (st.map fun v => v.category).sum ≤ 8) (d : decode cc pc = .ok (.invokestatic index, 3)) (K : x_W p l e R s m args below meth c D cl A H0 n ad wf nL Q σ (pc + 3) L (w :: st)) : x_W p l e R s m args below meth c D cl A H0 n ad wf nL Q σ pc L (v4 :: v3 :: v2 :: v1 :: st) :=
  x_pureSN C0 (As := [v1, v2, v3, v4]) (val := (some w)) hM cw rfl hW d K
theorem x_callSN50 (C0 : x_C p s m args meth c D cl tys A H0 n ad wf cc nL own ret) {y : MethodName} {bytes : ByteArray} {mxl index : Nat} {rty : Option FieldType} {ws : List Cond} {rm : Room} {host : String} {v1 v2 v3 v4 v5 : Value} {σ' : xM} (hM : x_Met l y ws rm D cl tys n ad wf [v1, v2, v3, v4, v5] σ none σ') (cw : va_CN R s args own index y host bytes mxl rty ws rm 0 0 5 ∧ (Cond.static y).before args s = true ∧ True) (hW : (st.map fun v => v.category).sum ≤ 8) (d : decode cc pc = .ok (.invokestatic index, 3)) (K : x_W p l e R s m args below meth c D cl A H0 n ad wf nL Q σ' (pc + 3) L st) : x_W p l e R s m args below meth c D cl A H0 n ad wf nL Q σ pc L (v5 :: v4 :: v3 :: v2 :: v1 :: st) :=
  x_callSN C0 (As := [v1, v2, v3, v4, v5]) (val := none) hM cw rfl hW d K
theorem x_callSN51 (C0 : x_C p s m args meth c D cl tys A H0 n ad wf cc nL own ret) {y : MethodName} {bytes : ByteArray} {mxl index : Nat} {rty : Option FieldType} {ws : List Cond} {rm : Room} {host : String} {v1 v2 v3 v4 v5 : Value} {w : Value} {σ' : xM} (hM : x_Met l y ws rm D cl tys n ad wf [v1, v2, v3, v4, v5] σ (some w) σ') (cw : va_CN R s args own index y host bytes mxl rty ws rm 0 0 5 ∧ (Cond.static y).before args s = true ∧ True) (hW : (st.map fun v => v.category).sum ≤ 8) (d : decode cc pc = .ok (.invokestatic index, 3)) (K : x_W p l e R s m args below meth c D cl A H0 n ad wf nL Q σ' (pc + 3) L (w :: st)) : x_W p l e R s m args below meth c D cl A H0 n ad wf nL Q σ pc L (v5 :: v4 :: v3 :: v2 :: v1 :: st) :=
  x_callSN C0 (As := [v1, v2, v3, v4, v5]) (val := (some w)) hM cw rfl hW d K
theorem x_pureSN5 (C0 : x_C p s m args meth c D cl tys A H0 n ad wf cc nL own ret) {y : MethodName} {bytes : ByteArray} {mxl index : Nat} {rty : Option FieldType} {ws : List Cond} {rm : Room} {host : String} {v1 v2 v3 v4 v5 : Value} {w : Value} {wf' : xM → Nat → va_E} {τ τ' : xM} (hM : ∀ ad', x_Met l y ws rm D cl tys 0 ad' wf' [v1, v2, v3, v4, v5] τ (some w) τ') (cw : va_CN R s args own index y host bytes mxl rty ws rm 0 0 5 ∧ (Cond.static y).before args s = true ∧ True) (hW : (st.map fun v => v.category).sum ≤ 8) (d : decode cc pc = .ok (.invokestatic index, 3)) (K : x_W p l e R s m args below meth c D cl A H0 n ad wf nL Q σ (pc + 3) L (w :: st)) : x_W p l e R s m args below meth c D cl A H0 n ad wf nL Q σ pc L (v5 :: v4 :: v3 :: v2 :: v1 :: st) :=
  x_pureSN C0 (As := [v1, v2, v3, v4, v5]) (val := (some w)) hM cw rfl hW d K
end XR
theorem x_bind {α β : Type} {o : Option α} {f : α → Option β} {res : β} (h : o.bind f = some res) : ∃ a, o = some a ∧ f a = some res := by
  cases o with
  | none => cases h
  | some a => exact ⟨a, rfl, h⟩
theorem x_inj {α : Type} {a b : α} (h : some a = some b) : a = b := Option.some.inj h
theorem x_rf {o : Option Nat} {ad : Nat → Nat} {a : Nat} (h : o = some a) : va_rf (o.map ad) = .ref (ad a) := by
  subst h
  rfl
theorem x_ite {c G : Prop} [Decidable c] {ρ : Type} {a b r : ρ} (h : (if c then a else b) = r) (kt : c → a = r → G) (kf : ¬ c → b = r → G) : G := by
  by_cases hc : c
  · rw [if_pos hc] at h
    exact kt hc h
  · rw [if_neg hc] at h
    exact kf hc h
def x_opt {α β : Type} (o : Option α) (a : β) (f : α → β) : β := match o with
  | none => a
  | some x => f x
end
section
theorem mw_0 : Cond.selects RX0 yX0_begin yX0_begin ∈ lw_use := x_use 0 (by decide +kernel) (by decide +kernel)
theorem mw_1 : Cond.selects RX4 yX4_remember yX4_remember ∈ lw_use := x_use 1 (by decide +kernel) (by decide +kernel)
theorem mw_2 : Cond.selects RX2 yX2_copyFrom yX2_copyFrom ∈ lw_use := x_use 2 (by decide +kernel) (by decide +kernel)
theorem mw_3 : Cond.selects RX1 yX1_copyFrom yX1_copyFrom ∈ lw_use := x_use 3 (by decide +kernel) (by decide +kernel)
theorem mw_4 : Cond.selects RX0 yX0_copyFrom yX0_copyFrom ∈ lw_use := x_use 4 (by decide +kernel) (by decide +kernel)
theorem mw_5 : Cond.selects RX2 yX2_throwAllOut yX2_throwAllOut ∈ lw_use := x_use 5 (by decide +kernel) (by decide +kernel)
theorem mw_6 : Cond.selects RX2 yX2_throwOldest yX2_throwOldest ∈ lw_use := x_use 6 (by decide +kernel) (by decide +kernel)
theorem mw_7 : Cond.selects RX1 yX1_get yX1_get ∈ lw_use := x_use 7 (by decide +kernel) (by decide +kernel)
theorem mw_8 : Cond.selects RX1 yX1_holds yX1_holds ∈ lw_use := x_use 8 (by decide +kernel) (by decide +kernel)
theorem mw_9 : Cond.selects RX2 yX2_helperAt yX2_helperAt ∈ lw_use := x_use 9 (by decide +kernel) (by decide +kernel)
theorem mw_10 : Cond.selects RX1 yX1_remove yX1_remove ∈ lw_use := x_use 10 (by decide +kernel) (by decide +kernel)
theorem mw_11 : Cond.selects RX1 yX1_touch yX1_touch ∈ lw_use := x_use 11 (by decide +kernel) (by decide +kernel)
theorem mw_12 : Cond.selects RX1 yX1_open yX1_open ∈ lw_use := x_use 12 (by decide +kernel) (by decide +kernel)
theorem mw_13 : Cond.selects RX1 yX1_put yX1_put ∈ lw_use := x_use 13 (by decide +kernel) (by decide +kernel)
theorem mw_14 : Cond.selects RX0 yX0_sentence yX0_sentence ∈ lw_use := x_use 14 (by decide +kernel) (by decide +kernel)
theorem mw_15 : Cond.selects RX2 yX2_linesInCache yX2_linesInCache ∈ lw_use := x_use 15 (by decide +kernel) (by decide +kernel)
theorem mw_16 : Cond.selects RX2 yX2_hire yX2_hire ∈ lw_use := x_use 16 (by decide +kernel) (by decide +kernel)
theorem mw_17 : Cond.selects RX0 yX0_release yX0_release ∈ lw_use := x_use 17 (by decide +kernel) (by decide +kernel)
theorem mw_18 : Cond.selects RX2 yX2_perform yX2_perform ∈ lw_use := x_use 18 (by decide +kernel) (by decide +kernel)
theorem mw_19 : Cond.selects RX0 yX0_workOneHour yX0_workOneHour ∈ lw_use := x_use 19 (by decide +kernel) (by decide +kernel)
theorem mw_20 : Cond.selects RX2 yX2_serve yX2_serve ∈ lw_use := x_use 20 (by decide +kernel) (by decide +kernel)
theorem mw_21 : Cond.selects RX2 yX2_setOf yX2_setOf ∈ lw_use := x_use 21 (by decide +kernel) (by decide +kernel)
theorem mw_22 : Cond.selects RX2 yX2_setAt yX2_setAt ∈ lw_use := x_use 22 (by decide +kernel) (by decide +kernel)
theorem mw_23 : Cond.selects RX1 yX1_find yX1_find ∈ lw_use := x_use 23 (by decide +kernel) (by decide +kernel)
theorem mw_24 : Cond.selects RX2 yX2_punishThrower yX2_punishThrower ∈ lw_use := x_use 24 (by decide +kernel) (by decide +kernel)
theorem mw_25 : Cond.selects RX2 yX2_fetch yX2_fetch ∈ lw_use := x_use 25 (by decide +kernel) (by decide +kernel)
theorem mw_26 : Cond.selects RX0 yX0_lineWasUsed yX0_lineWasUsed ∈ lw_use := x_use 26 (by decide +kernel) (by decide +kernel)
theorem mw_27 : Cond.selects RX0 yX0_learn yX0_learn ∈ lw_use := x_use 27 (by decide +kernel) (by decide +kernel)
theorem mw_28 : Cond.selects RX0 yX0_learnStride yX0_learnStride ∈ lw_use := x_use 28 (by decide +kernel) (by decide +kernel)
theorem mw_29 : Cond.selects RX0 yX0_addRow yX0_addRow ∈ lw_use := x_use 29 (by decide +kernel) (by decide +kernel)
theorem mw_30 : Cond.selects RX0 yX0_updateRow yX0_updateRow ∈ lw_use := x_use 30 (by decide +kernel) (by decide +kernel)
theorem mw_31 : Cond.selects RX0 yX0_wish yX0_wish ∈ lw_use := x_use 31 (by decide +kernel) (by decide +kernel)
theorem mw_32 : Cond.selects RX0 yX0_reach yX0_reach ∈ lw_use := x_use 32 (by decide +kernel) (by decide +kernel)
theorem mw_33 : Cond.selects RX0 yX0_learnStream yX0_learnStream ∈ lw_use := x_use 33 (by decide +kernel) (by decide +kernel)
theorem mw_34 : Cond.selects RX0 yX0_streamNear yX0_streamNear ∈ lw_use := x_use 34 (by decide +kernel) (by decide +kernel)
theorem mw_35 : Cond.selects RX2 yX2_fetchWishes yX2_fetchWishes ∈ lw_use := x_use 35 (by decide +kernel) (by decide +kernel)
theorem mw_36 : Cond.selects RX2 yX2_writeLog yX2_writeLog ∈ lw_use := x_use 36 (by decide +kernel) (by decide +kernel)
theorem mw_37 : Cond.selects RX2 yX2_performWalk yX2_performWalk ∈ lw_use := x_use 37 (by decide +kernel) (by decide +kernel)
theorem mw_38 : Cond.selects RX3 yX3_append yX3_append ∈ lw_use := x_use 38 (by decide +kernel) (by decide +kernel)
theorem mw_39 : Cond.selects RX3 yX3_fault yX3_fault ∈ lw_use := x_use 39 (by decide +kernel) (by decide +kernel)
theorem mw_40 : Cond.selects RX3 yX3_performOn yX3_performOn ∈ lw_use := x_use 40 (by decide +kernel) (by decide +kernel)
theorem mw_41 : Cond.selects RX2 yX2_newLinesOf yX2_newLinesOf ∈ lw_use := x_use 41 (by decide +kernel) (by decide +kernel)
theorem mw_42 : Cond.selects RX0 yX0_wishAt yX0_wishAt ∈ lw_use := x_use 42 (by decide +kernel) (by decide +kernel)
theorem mw_43 : Cond.selects RX2 yX2_newLines yX2_newLines ∈ lw_use := x_use 43 (by decide +kernel) (by decide +kernel)
theorem mw_44 : Cond.selects RX2 yX2_allHours yX2_allHours ∈ lw_use := x_use 44 (by decide +kernel) (by decide +kernel)
theorem mw_45 : Cond.selects RX2 yX2_programsInLog yX2_programsInLog ∈ lw_use := x_use 45 (by decide +kernel) (by decide +kernel)
theorem mw_46 : Cond.selects RX5 yX5_copy yX5_copy ∈ lw_use := x_use 46 (by decide +kernel) (by decide +kernel)
theorem mw_47 : Cond.selects RX5 yX5_record yX5_record ∈ lw_use := x_use 47 (by decide +kernel) (by decide +kernel)
theorem mw_48 : Cond.selects RX5 yX5_empty yX5_empty ∈ lw_use := x_use 48 (by decide +kernel) (by decide +kernel)
theorem mw_49 : Cond.selects RX5 yX5_linesIn yX5_linesIn ∈ lw_use := x_use 49 (by decide +kernel) (by decide +kernel)
theorem mw_50 : Cond.selects RX5 yX5_throwOut yX5_throwOut ∈ lw_use := x_use 50 (by decide +kernel) (by decide +kernel)
theorem mw_51 : Cond.selects RX5 yX5_giveHours yX5_giveHours ∈ lw_use := x_use 51 (by decide +kernel) (by decide +kernel)
theorem mw_52 : Cond.selects RX5 yX5_closeUp yX5_closeUp ∈ lw_use := x_use 52 (by decide +kernel) (by decide +kernel)
theorem mw_53 : Cond.selects RX5 yX5_forgetLine yX5_forgetLine ∈ lw_use := x_use 53 (by decide +kernel) (by decide +kernel)
theorem mw_54 : Cond.selects RX5 yX5_outPlaceOf yX5_outPlaceOf ∈ lw_use := x_use 54 (by decide +kernel) (by decide +kernel)
theorem mw_55 : Cond.selects RX5 yX5_forgetOut yX5_forgetOut ∈ lw_use := x_use 55 (by decide +kernel) (by decide +kernel)
theorem mw_56 : Cond.selects RX5 yX5_isHelper yX5_isHelper ∈ lw_use := x_use 56 (by decide +kernel) (by decide +kernel)
theorem mw_57 : Cond.selects RX5 yX5_go yX5_go ∈ lw_use := x_use 57 (by decide +kernel) (by decide +kernel)
theorem mw_58 : Cond.selects RX5 yX5_work yX5_work ∈ lw_use := x_use 58 (by decide +kernel) (by decide +kernel)
theorem mw_59 : Cond.selects RX5 yX5_find yX5_find ∈ lw_use := x_use 59 (by decide +kernel) (by decide +kernel)
theorem mw_60 : Cond.selects RX5 yX5_placeOf yX5_placeOf ∈ lw_use := x_use 60 (by decide +kernel) (by decide +kernel)
theorem mw_61 : Cond.selects RX5 yX5_fetch yX5_fetch ∈ lw_use := x_use 61 (by decide +kernel) (by decide +kernel)
theorem mw_62 : Cond.selects RX5 yX5_append yX5_append ∈ lw_use := x_use 62 (by decide +kernel) (by decide +kernel)
theorem mw_63 : Cond.selects RX5 yX5_use yX5_use ∈ lw_use := x_use 63 (by decide +kernel) (by decide +kernel)
theorem mw_64 : Cond.selects RX5 yX5_learn yX5_learn ∈ lw_use := x_use 64 (by decide +kernel) (by decide +kernel)
theorem mw_65 : Cond.selects RX5 yX5_learnStride yX5_learnStride ∈ lw_use := x_use 65 (by decide +kernel) (by decide +kernel)
theorem mw_66 : Cond.selects RX5 yX5_dropRow yX5_dropRow ∈ lw_use := x_use 66 (by decide +kernel) (by decide +kernel)
theorem mw_67 : Cond.selects RX5 yX5_addRow yX5_addRow ∈ lw_use := x_use 67 (by decide +kernel) (by decide +kernel)
theorem mw_68 : Cond.selects RX5 yX5_learnStream yX5_learnStream ∈ lw_use := x_use 68 (by decide +kernel) (by decide +kernel)
theorem mw_69 : Cond.selects RX5 yX5_fetchAhead yX5_fetchAhead ∈ lw_use := x_use 69 (by decide +kernel) (by decide +kernel)
theorem mw_70 : Cond.selects RX5 yX5_reachOf yX5_reachOf ∈ lw_use := x_use 70 (by decide +kernel) (by decide +kernel)
theorem mw_71 : Cond.selects RX5 yX5_goOn yX5_goOn ∈ lw_use := x_use 71 (by decide +kernel) (by decide +kernel)
theorem mw_72 : Cond.selects RX5 yX5_faultOf yX5_faultOf ∈ lw_use := x_use 72 (by decide +kernel) (by decide +kernel)
theorem mw_73 : Cond.selects RX5 yX5_newOf yX5_newOf ∈ lw_use := x_use 73 (by decide +kernel) (by decide +kernel)
theorem mw_74 : Cond.selects RX5 yX5_loggedMany yX5_loggedMany ∈ lw_use := x_use 74 (by decide +kernel) (by decide +kernel)
theorem mw_75 : Cond.selects RX5 yX5_hoursOfAll yX5_hoursOfAll ∈ lw_use := x_use 75 (by decide +kernel) (by decide +kernel)
theorem mw_76 : Cond.selects RX5 yX5_programsLogged yX5_programsLogged ∈ lw_use := x_use 76 (by decide +kernel) (by decide +kernel)
theorem mw_78 : Cond.initialized RX4 ∈ lw_use := x_use 78 (by decide +kernel) (by decide +kernel)
theorem mw_79 : Cond.initialized RX2 ∈ lw_use := x_use 79 (by decide +kernel) (by decide +kernel)
theorem mw_80 : Cond.initialized RX1 ∈ lw_use := x_use 80 (by decide +kernel) (by decide +kernel)
theorem mw_81 : Cond.initialized "java/lang/Math" ∈ lw_use := x_use 81 (by decide +kernel) (by decide +kernel)
theorem mw_82 : Cond.initialized RX0 ∈ lw_use := x_use 82 (by decide +kernel) (by decide +kernel)
theorem mw_83 : Cond.initialized RX3 ∈ lw_use := x_use 83 (by decide +kernel) (by decide +kernel)
theorem mw_84 : Cond.initialized RX5 ∈ lw_use := x_use 84 (by decide +kernel) (by decide +kernel)
theorem mw_85 : Cond.initialized RJ6 ∈ lw_use := x_use 85 (by decide +kernel) (by decide +kernel)
theorem mw_87 : Cond.instantiable RX4 7 ∈ lw_use := x_use 87 (by decide +kernel) (by decide +kernel)
theorem mw_89 : Cond.instanceMethod yX4_init ∈ lw_use := x_use 89 (by decide +kernel) (by decide +kernel)
theorem mw_90 : Cond.code yX4_init prog_1_method_1_code 2 none ∈ lw_use := x_use 90 (by decide +kernel) (by decide +kernel)
theorem mw_91 : Cond.methodLink RX4 1 objectInit ∈ lw_use := x_use 91 (by decide +kernel) (by decide +kernel)
theorem mw_92 : Cond.instanceMethod objectInit ∈ lw_use := x_use 92 (by decide +kernel) (by decide +kernel)
theorem mw_93 : Cond.code objectInit object_method_1_code 1 none ∈ lw_use := x_use 93 (by decide +kernel) (by decide +kernel)
theorem mw_94 : Cond.classLink RX4 7 RX2 ∈ lw_use := x_use 94 (by decide +kernel) (by decide +kernel)
theorem mw_95 : Cond.instantiable RX2 13 ∈ lw_use := x_use 95 (by decide +kernel) (by decide +kernel)
theorem mw_96 : Cond.methodLinkNest RX4 9 yX2_init RX4 ∈ lw_use := x_use 96 (by decide +kernel) (by decide +kernel)
theorem mw_97 : Cond.instanceMethod yX2_init ∈ lw_use := x_use 97 (by decide +kernel) (by decide +kernel)
theorem mw_98 : Cond.code yX2_init prog_4_method_1_code 2 none ∈ lw_use := x_use 98 (by decide +kernel) (by decide +kernel)
theorem mw_99 : Cond.methodLink RX2 3 objectInit ∈ lw_use := x_use 99 (by decide +kernel) (by decide +kernel)
theorem mw_100 : Cond.classLink RX2 9 RX1 ∈ lw_use := x_use 100 (by decide +kernel) (by decide +kernel)
theorem mw_102 : Cond.instantiable RX1 4 ∈ lw_use := x_use 102 (by decide +kernel) (by decide +kernel)
theorem mw_103 : Cond.methodLinkNest RX2 17 yX1_init RX4 ∈ lw_use := x_use 103 (by decide +kernel) (by decide +kernel)
theorem mw_104 : Cond.instanceMethod yX1_init ∈ lw_use := x_use 104 (by decide +kernel) (by decide +kernel)
theorem mw_105 : Cond.code yX1_init prog_3_method_1_code 3 none ∈ lw_use := x_use 105 (by decide +kernel) (by decide +kernel)
theorem mw_106 : Cond.methodLink RX1 3 objectInit ∈ lw_use := x_use 106 (by decide +kernel) (by decide +kernel)
theorem mw_107 : Cond.methodLink RX1 9 Lib.Math.max.name ∈ lw_use := x_use 107 (by decide +kernel) (by decide +kernel)
theorem mw_108 : Cond.static Lib.Math.max.name ∈ lw_use := x_use 108 (by decide +kernel) (by decide +kernel)
theorem mw_109 : Cond.code Lib.Math.max.name Lib.Math.max.code 2 (some FieldType.int) ∈ lw_use := x_use 109 (by decide +kernel) (by decide +kernel)
theorem mw_110 : Cond.fieldLink RX1 15 RX1 "capacity" "I" ∈ lw_use := x_use 110 (by decide +kernel) (by decide +kernel)
theorem mw_111 : Cond.fieldLink RX1 21 RX1 "columns" "I" ∈ lw_use := x_use 111 (by decide +kernel) (by decide +kernel)
theorem mw_112 : Cond.fieldLink RX1 24 RX1 "cells" "[I" ∈ lw_use := x_use 112 (by decide +kernel) (by decide +kernel)
theorem mw_113 : Cond.fieldLink RX1 28 RX1 "size" "I" ∈ lw_use := x_use 113 (by decide +kernel) (by decide +kernel)
theorem mw_114 : Cond.fieldLinkNest RX4 64 RX1 "size" "I" RX4 ∈ lw_use := x_use 114 (by decide +kernel) (by decide +kernel)
theorem mw_115 : Cond.fieldLinkNest RX0 71 RX1 "size" "I" RX4 ∈ lw_use := x_use 115 (by decide +kernel) (by decide +kernel)
theorem mw_116 : Cond.fieldLinkNest RX2 157 RX1 "size" "I" RX4 ∈ lw_use := x_use 116 (by decide +kernel) (by decide +kernel)
theorem mw_126 : Cond.arrayClass FieldType.int ∈ lw_use := x_use 126 (by decide +kernel) (by decide +kernel)
theorem mw_127 : Cond.classLink RX2 24 RX0 ∈ lw_use := x_use 127 (by decide +kernel) (by decide +kernel)
theorem mw_129 : Cond.instantiable RX0 16 ∈ lw_use := x_use 129 (by decide +kernel) (by decide +kernel)
theorem mw_130 : Cond.methodLinkNest RX2 30 yX0_init RX4 ∈ lw_use := x_use 130 (by decide +kernel) (by decide +kernel)
theorem mw_131 : Cond.instanceMethod yX0_init ∈ lw_use := x_use 131 (by decide +kernel) (by decide +kernel)
theorem mw_132 : Cond.code yX0_init prog_2_method_1_code 1 none ∈ lw_use := x_use 132 (by decide +kernel) (by decide +kernel)
theorem mw_133 : Cond.methodLink RX0 3 objectInit ∈ lw_use := x_use 133 (by decide +kernel) (by decide +kernel)
theorem mw_134 : Cond.classLink RX0 9 RX1 ∈ lw_use := x_use 134 (by decide +kernel) (by decide +kernel)
theorem mw_135 : Cond.methodLinkNest RX0 11 yX1_init RX4 ∈ lw_use := x_use 135 (by decide +kernel) (by decide +kernel)
theorem mw_136 : Cond.methodLink RX0 24 yX0_begin ∈ lw_use := x_use 136 (by decide +kernel) (by decide +kernel)
theorem mw_138 : Cond.instanceMethod yX0_begin ∈ lw_use := x_use 138 (by decide +kernel) (by decide +kernel)
theorem mw_139 : Cond.code yX0_begin prog_2_method_2_code 4 none ∈ lw_use := x_use 139 (by decide +kernel) (by decide +kernel)
theorem mw_140 : Cond.fieldLink RX0 14 RX0 "table" "LParoleCache$Rows;" ∈ lw_use := x_use 140 (by decide +kernel) (by decide +kernel)
theorem mw_141 : Cond.fieldLinkNest RX4 103 RX0 "table" "LParoleCache$Rows;" RX4 ∈ lw_use := x_use 141 (by decide +kernel) (by decide +kernel)
theorem mw_142 : Cond.fieldLink RX0 20 RX0 "wishes" "[I" ∈ lw_use := x_use 142 (by decide +kernel) (by decide +kernel)
theorem mw_143 : Cond.fieldLinkNest RX2 147 RX0 "wishes" "[I" RX4 ∈ lw_use := x_use 143 (by decide +kernel) (by decide +kernel)
theorem mw_144 : Cond.fieldLink RX0 68 RX0 "wishCount" "I" ∈ lw_use := x_use 144 (by decide +kernel) (by decide +kernel)
theorem mw_145 : Cond.fieldLinkNest RX2 144 RX0 "wishCount" "I" RX4 ∈ lw_use := x_use 145 (by decide +kernel) (by decide +kernel)
theorem mw_146 : Cond.fieldLink RX0 28 RX0 "kind" "I" ∈ lw_use := x_use 146 (by decide +kernel) (by decide +kernel)
theorem mw_147 : Cond.fieldLinkNest RX4 99 RX0 "kind" "I" RX4 ∈ lw_use := x_use 147 (by decide +kernel) (by decide +kernel)
theorem mw_148 : Cond.fieldLink RX0 32 RX0 "degree" "I" ∈ lw_use := x_use 148 (by decide +kernel) (by decide +kernel)
theorem mw_149 : Cond.fieldLinkNest RX4 85 RX0 "degree" "I" RX4 ∈ lw_use := x_use 149 (by decide +kernel) (by decide +kernel)
theorem mw_150 : Cond.fieldLink RX0 35 RX0 "price" "I" ∈ lw_use := x_use 150 (by decide +kernel) (by decide +kernel)
theorem mw_151 : Cond.fieldLinkNest RX2 170 RX0 "price" "I" RX4 ∈ lw_use := x_use 151 (by decide +kernel) (by decide +kernel)
theorem mw_152 : Cond.fieldLinkNest RX4 153 RX0 "price" "I" RX4 ∈ lw_use := x_use 152 (by decide +kernel) (by decide +kernel)
theorem mw_153 : Cond.fieldLink RX0 38 RX0 "state" "I" ∈ lw_use := x_use 153 (by decide +kernel) (by decide +kernel)
theorem mw_154 : Cond.fieldLinkNest RX4 93 RX0 "state" "I" RX4 ∈ lw_use := x_use 154 (by decide +kernel) (by decide +kernel)
theorem mw_155 : Cond.fieldLink RX0 41 RX0 "hours" "I" ∈ lw_use := x_use 155 (by decide +kernel) (by decide +kernel)
theorem mw_156 : Cond.fieldLinkNest RX2 176 RX0 "hours" "I" RX4 ∈ lw_use := x_use 156 (by decide +kernel) (by decide +kernel)
theorem mw_157 : Cond.fieldLinkNest RX4 156 RX0 "hours" "I" RX4 ∈ lw_use := x_use 157 (by decide +kernel) (by decide +kernel)
theorem mw_158 : Cond.fieldLink RX0 44 RX0 "linesLeft" "I" ∈ lw_use := x_use 158 (by decide +kernel) (by decide +kernel)
theorem mw_159 : Cond.fieldLinkNest RX4 159 RX0 "linesLeft" "I" RX4 ∈ lw_use := x_use 159 (by decide +kernel) (by decide +kernel)
theorem mw_160 : Cond.fieldLink RX0 47 RX0 "fetched" "I" ∈ lw_use := x_use 160 (by decide +kernel) (by decide +kernel)
theorem mw_161 : Cond.fieldLinkNest RX2 151 RX0 "fetched" "I" RX4 ∈ lw_use := x_use 161 (by decide +kernel) (by decide +kernel)
theorem mw_162 : Cond.fieldLinkNest RX4 165 RX0 "fetched" "I" RX4 ∈ lw_use := x_use 162 (by decide +kernel) (by decide +kernel)
theorem mw_163 : Cond.fieldLink RX0 50 RX0 "used" "I" ∈ lw_use := x_use 163 (by decide +kernel) (by decide +kernel)
theorem mw_164 : Cond.fieldLinkNest RX4 168 RX0 "used" "I" RX4 ∈ lw_use := x_use 164 (by decide +kernel) (by decide +kernel)
theorem mw_165 : Cond.fieldLink RX0 53 RX0 "vain" "I" ∈ lw_use := x_use 165 (by decide +kernel) (by decide +kernel)
theorem mw_166 : Cond.fieldLinkNest RX2 167 RX0 "vain" "I" RX4 ∈ lw_use := x_use 166 (by decide +kernel) (by decide +kernel)
theorem mw_167 : Cond.fieldLinkNest RX4 171 RX0 "vain" "I" RX4 ∈ lw_use := x_use 167 (by decide +kernel) (by decide +kernel)
theorem mw_168 : Cond.fieldLink RX0 56 RX0 "harms" "I" ∈ lw_use := x_use 168 (by decide +kernel) (by decide +kernel)
theorem mw_169 : Cond.fieldLinkNest RX2 138 RX0 "harms" "I" RX4 ∈ lw_use := x_use 169 (by decide +kernel) (by decide +kernel)
theorem mw_170 : Cond.fieldLinkNest RX4 177 RX0 "harms" "I" RX4 ∈ lw_use := x_use 170 (by decide +kernel) (by decide +kernel)
theorem mw_171 : Cond.fieldLink RX0 59 RX0 "worked" "I" ∈ lw_use := x_use 171 (by decide +kernel) (by decide +kernel)
theorem mw_172 : Cond.fieldLinkNest RX4 180 RX0 "worked" "I" RX4 ∈ lw_use := x_use 172 (by decide +kernel) (by decide +kernel)
theorem mw_173 : Cond.fieldLink RX0 62 RX0 "pardoned" "I" ∈ lw_use := x_use 173 (by decide +kernel) (by decide +kernel)
theorem mw_174 : Cond.fieldLinkNest RX4 183 RX0 "pardoned" "I" RX4 ∈ lw_use := x_use 174 (by decide +kernel) (by decide +kernel)
theorem mw_175 : Cond.fieldLink RX0 65 RX0 "probations" "I" ∈ lw_use := x_use 175 (by decide +kernel) (by decide +kernel)
theorem mw_176 : Cond.fieldLinkNest RX4 186 RX0 "probations" "I" RX4 ∈ lw_use := x_use 176 (by decide +kernel) (by decide +kernel)
theorem mw_210 : Cond.fieldLink RX2 11 RX2 "sets" "[LParoleCache$Rows;" ∈ lw_use := x_use 210 (by decide +kernel) (by decide +kernel)
theorem mw_211 : Cond.fieldLink RX2 20 RX2 "thrown" "LParoleCache$Rows;" ∈ lw_use := x_use 211 (by decide +kernel) (by decide +kernel)
theorem mw_212 : Cond.fieldLinkNest RX4 60 RX2 "thrown" "LParoleCache$Rows;" RX4 ∈ lw_use := x_use 212 (by decide +kernel) (by decide +kernel)
theorem mw_213 : Cond.fieldLink RX2 26 RX2 "helpers" "[LParoleCache$Helper;" ∈ lw_use := x_use 213 (by decide +kernel) (by decide +kernel)
theorem mw_214 : Cond.fieldLinkNest RX4 192 RX2 "helpers" "[LParoleCache$Helper;" RX4 ∈ lw_use := x_use 214 (by decide +kernel) (by decide +kernel)
theorem mw_215 : Cond.fieldLink RX2 31 RX2 "log" "LParoleCache$Rows;" ∈ lw_use := x_use 215 (by decide +kernel) (by decide +kernel)
theorem mw_216 : Cond.fieldLinkNest RX4 196 RX2 "log" "LParoleCache$Rows;" RX4 ∈ lw_use := x_use 216 (by decide +kernel) (by decide +kernel)
theorem mw_217 : Cond.fieldLink RX2 34 RX2 "setCount" "I" ∈ lw_use := x_use 217 (by decide +kernel) (by decide +kernel)
theorem mw_218 : Cond.fieldLinkNest RX4 46 RX2 "setCount" "I" RX4 ∈ lw_use := x_use 218 (by decide +kernel) (by decide +kernel)
theorem mw_219 : Cond.fieldLink RX2 38 RX2 "wayCount" "I" ∈ lw_use := x_use 219 (by decide +kernel) (by decide +kernel)
theorem mw_220 : Cond.fieldLinkNest RX4 49 RX2 "wayCount" "I" RX4 ∈ lw_use := x_use 220 (by decide +kernel) (by decide +kernel)
theorem mw_221 : Cond.fieldLink RX2 41 RX2 "helperCount" "I" ∈ lw_use := x_use 221 (by decide +kernel) (by decide +kernel)
theorem mw_222 : Cond.fieldLinkNest RX4 72 RX2 "helperCount" "I" RX4 ∈ lw_use := x_use 222 (by decide +kernel) (by decide +kernel)
theorem mw_223 : Cond.fieldLink RX2 44 RX2 "trial" "I" ∈ lw_use := x_use 223 (by decide +kernel) (by decide +kernel)
theorem mw_224 : Cond.fieldLinkNest RX4 90 RX2 "trial" "I" RX4 ∈ lw_use := x_use 224 (by decide +kernel) (by decide +kernel)
theorem mw_225 : Cond.fieldLink RX2 47 RX2 "accesses" "I" ∈ lw_use := x_use 225 (by decide +kernel) (by decide +kernel)
theorem mw_226 : Cond.fieldLinkNest RX4 136 RX2 "accesses" "I" RX4 ∈ lw_use := x_use 226 (by decide +kernel) (by decide +kernel)
theorem mw_227 : Cond.fieldLink RX2 50 RX2 "hits" "I" ∈ lw_use := x_use 227 (by decide +kernel) (by decide +kernel)
theorem mw_228 : Cond.fieldLinkNest RX4 199 RX2 "hits" "I" RX4 ∈ lw_use := x_use 228 (by decide +kernel) (by decide +kernel)
theorem mw_229 : Cond.fieldLink RX2 53 RX2 "newHits" "I" ∈ lw_use := x_use 229 (by decide +kernel) (by decide +kernel)
theorem mw_230 : Cond.fieldLinkNest RX4 202 RX2 "newHits" "I" RX4 ∈ lw_use := x_use 230 (by decide +kernel) (by decide +kernel)
theorem mw_231 : Cond.fieldLink RX2 56 RX2 "fetchedAhead" "I" ∈ lw_use := x_use 231 (by decide +kernel) (by decide +kernel)
theorem mw_232 : Cond.fieldLinkNest RX4 205 RX2 "fetchedAhead" "I" RX4 ∈ lw_use := x_use 232 (by decide +kernel) (by decide +kernel)
theorem mw_233 : Cond.fieldLink RX2 59 RX2 "thrownTotal" "I" ∈ lw_use := x_use 233 (by decide +kernel) (by decide +kernel)
theorem mw_234 : Cond.fieldLinkNest RX4 208 RX2 "thrownTotal" "I" RX4 ∈ lw_use := x_use 234 (by decide +kernel) (by decide +kernel)
theorem mw_263 : Cond.classLink RX4 26 RX3 ∈ lw_use := x_use 263 (by decide +kernel) (by decide +kernel)
theorem mw_264 : Cond.instantiable RX3 2 ∈ lw_use := x_use 264 (by decide +kernel) (by decide +kernel)
theorem mw_265 : Cond.methodLinkNest RX4 28 yX3_init RX4 ∈ lw_use := x_use 265 (by decide +kernel) (by decide +kernel)
theorem mw_266 : Cond.instanceMethod yX3_init ∈ lw_use := x_use 266 (by decide +kernel) (by decide +kernel)
theorem mw_267 : Cond.code yX3_init prog_5_method_1_code 1 none ∈ lw_use := x_use 267 (by decide +kernel) (by decide +kernel)
theorem mw_268 : Cond.methodLink RX3 3 objectInit ∈ lw_use := x_use 268 (by decide +kernel) (by decide +kernel)
theorem mw_269 : Cond.fieldLink RX3 9 RX3 "signs" "[C" ∈ lw_use := x_use 269 (by decide +kernel) (by decide +kernel)
theorem mw_270 : Cond.fieldLink RX3 15 RX3 "length" "I" ∈ lw_use := x_use 270 (by decide +kernel) (by decide +kernel)
theorem mw_271 : Cond.fieldLinkNest RX4 122 RX3 "length" "I" RX4 ∈ lw_use := x_use 271 (by decide +kernel) (by decide +kernel)
theorem mw_277 : Cond.arrayClass FieldType.char ∈ lw_use := x_use 277 (by decide +kernel) (by decide +kernel)
theorem mw_278 : Cond.fieldLink RX4 10 RX4 "current" "LParoleCache$State;" ∈ lw_use := x_use 278 (by decide +kernel) (by decide +kernel)
theorem mw_279 : Cond.fieldLink RX4 16 RX4 "scratch" "LParoleCache$State;" ∈ lw_use := x_use 279 (by decide +kernel) (by decide +kernel)
theorem mw_280 : Cond.fieldLink RX4 19 RX4 "snapshot" "LParoleCache$State;" ∈ lw_use := x_use 280 (by decide +kernel) (by decide +kernel)
theorem mw_281 : Cond.fieldLink RX4 22 RX4 "history" "[LParoleCache$State;" ∈ lw_use := x_use 281 (by decide +kernel) (by decide +kernel)
theorem mw_282 : Cond.fieldLink RX4 29 RX4 "trace" "LParoleCache$Trace;" ∈ lw_use := x_use 282 (by decide +kernel) (by decide +kernel)
theorem mw_283 : Cond.fieldLink RX4 33 RX4 "hasSnapshot" "Z" ∈ lw_use := x_use 283 (by decide +kernel) (by decide +kernel)
theorem mw_284 : Cond.fieldLink RX4 37 RX4 "historySize" "I" ∈ lw_use := x_use 284 (by decide +kernel) (by decide +kernel)
theorem mw_301 : Cond.instanceMethod yX4_shape ∈ lw_use := x_use 301 (by decide +kernel) (by decide +kernel)
theorem mw_302 : Cond.selects RX4 yX4_shape yX4_shape ∈ lw_use := x_use 302 (by decide +kernel) (by decide +kernel)
theorem mw_303 : Cond.code yX4_shape prog_1_method_2_code 4 (some FieldType.int) ∈ lw_use := x_use 303 (by decide +kernel) (by decide +kernel)
theorem mw_304 : Cond.methodLink RX4 41 yX4_isOutside ∈ lw_use := x_use 304 (by decide +kernel) (by decide +kernel)
theorem mw_305 : Cond.static yX4_isOutside ∈ lw_use := x_use 305 (by decide +kernel) (by decide +kernel)
theorem mw_306 : Cond.code yX4_isOutside prog_1_method_27_code 3 (some FieldType.boolean) ∈ lw_use := x_use 306 (by decide +kernel) (by decide +kernel)
theorem mw_307 : Cond.constant RX4 45 (-100002) ∈ lw_use := x_use 307 (by decide +kernel) (by decide +kernel)
theorem mw_308 : Cond.constant RX4 52 (-100005) ∈ lw_use := x_use 308 (by decide +kernel) (by decide +kernel)
theorem mw_309 : Cond.methodLink RX4 53 yX4_remember ∈ lw_use := x_use 309 (by decide +kernel) (by decide +kernel)
theorem mw_311 : Cond.instanceMethod yX4_remember ∈ lw_use := x_use 311 (by decide +kernel) (by decide +kernel)
theorem mw_312 : Cond.code yX4_remember prog_1_method_29_code 3 none ∈ lw_use := x_use 312 (by decide +kernel) (by decide +kernel)
theorem mw_313 : Cond.methodLinkNest RX4 132 yX2_copyFrom RX4 ∈ lw_use := x_use 313 (by decide +kernel) (by decide +kernel)
theorem mw_315 : Cond.instanceMethod yX2_copyFrom ∈ lw_use := x_use 315 (by decide +kernel) (by decide +kernel)
theorem mw_316 : Cond.code yX2_copyFrom prog_4_method_2_code 3 none ∈ lw_use := x_use 316 (by decide +kernel) (by decide +kernel)
theorem mw_317 : Cond.methodLinkNest RX2 62 yX1_copyFrom RX4 ∈ lw_use := x_use 317 (by decide +kernel) (by decide +kernel)
theorem mw_319 : Cond.instanceMethod yX1_copyFrom ∈ lw_use := x_use 319 (by decide +kernel) (by decide +kernel)
theorem mw_320 : Cond.code yX1_copyFrom prog_3_method_2_code 3 none ∈ lw_use := x_use 320 (by decide +kernel) (by decide +kernel)
theorem mw_321 : Cond.methodLink RX1 31 Lib.Math.min.name ∈ lw_use := x_use 321 (by decide +kernel) (by decide +kernel)
theorem mw_322 : Cond.static Lib.Math.min.name ∈ lw_use := x_use 322 (by decide +kernel) (by decide +kernel)
theorem mw_323 : Cond.code Lib.Math.min.name Lib.Math.min.code 2 (some FieldType.int) ∈ lw_use := x_use 323 (by decide +kernel) (by decide +kernel)
theorem mw_324 : Cond.methodLinkNest RX2 66 yX0_copyFrom RX4 ∈ lw_use := x_use 324 (by decide +kernel) (by decide +kernel)
theorem mw_326 : Cond.instanceMethod yX0_copyFrom ∈ lw_use := x_use 326 (by decide +kernel) (by decide +kernel)
theorem mw_327 : Cond.code yX0_copyFrom prog_2_method_3_code 2 none ∈ lw_use := x_use 327 (by decide +kernel) (by decide +kernel)
theorem mw_328 : Cond.methodLinkNest RX0 74 yX1_copyFrom RX4 ∈ lw_use := x_use 328 (by decide +kernel) (by decide +kernel)
theorem mw_329 : Cond.methodLinkNest RX4 56 yX2_throwAllOut RX4 ∈ lw_use := x_use 329 (by decide +kernel) (by decide +kernel)
theorem mw_331 : Cond.instanceMethod yX2_throwAllOut ∈ lw_use := x_use 331 (by decide +kernel) (by decide +kernel)
theorem mw_332 : Cond.code yX2_throwAllOut prog_4_method_14_code 5 (some FieldType.int) ∈ lw_use := x_use 332 (by decide +kernel) (by decide +kernel)
theorem mw_333 : Cond.constant RX2 118 (-100005) ∈ lw_use := x_use 333 (by decide +kernel) (by decide +kernel)
theorem mw_334 : Cond.methodLink RX2 160 yX2_throwOldest ∈ lw_use := x_use 334 (by decide +kernel) (by decide +kernel)
theorem mw_336 : Cond.instanceMethod yX2_throwOldest ∈ lw_use := x_use 336 (by decide +kernel) (by decide +kernel)
theorem mw_337 : Cond.code yX2_throwOldest prog_4_method_13_code 7 none ∈ lw_use := x_use 337 (by decide +kernel) (by decide +kernel)
theorem mw_338 : Cond.methodLinkNest RX2 122 yX1_get RX4 ∈ lw_use := x_use 338 (by decide +kernel) (by decide +kernel)
theorem mw_340 : Cond.instanceMethod yX1_get ∈ lw_use := x_use 340 (by decide +kernel) (by decide +kernel)
theorem mw_341 : Cond.code yX1_get prog_3_method_4_code 3 (some FieldType.int) ∈ lw_use := x_use 341 (by decide +kernel) (by decide +kernel)
theorem mw_342 : Cond.methodLink RX1 34 yX1_holds ∈ lw_use := x_use 342 (by decide +kernel) (by decide +kernel)
theorem mw_344 : Cond.instanceMethod yX1_holds ∈ lw_use := x_use 344 (by decide +kernel) (by decide +kernel)
theorem mw_345 : Cond.code yX1_holds prog_3_method_3_code 3 (some FieldType.boolean) ∈ lw_use := x_use 345 (by decide +kernel) (by decide +kernel)
theorem mw_346 : Cond.constant RX1 38 (-100005) ∈ lw_use := x_use 346 (by decide +kernel) (by decide +kernel)
theorem mw_347 : Cond.methodLink RX2 125 yX2_helperAt ∈ lw_use := x_use 347 (by decide +kernel) (by decide +kernel)
theorem mw_349 : Cond.instanceMethod yX2_helperAt ∈ lw_use := x_use 349 (by decide +kernel) (by decide +kernel)
theorem mw_350 : Cond.code yX2_helperAt prog_4_method_5_code 2 (some (FieldType.object RX0)) ∈ lw_use := x_use 350 (by decide +kernel) (by decide +kernel)
theorem mw_351 : Cond.methodLink RX2 77 Lib.Math.min.name ∈ lw_use := x_use 351 (by decide +kernel) (by decide +kernel)
theorem mw_352 : Cond.methodLinkNest RX2 69 yX4_isOutside RX4 ∈ lw_use := x_use 352 (by decide +kernel) (by decide +kernel)
theorem mw_353 : Cond.methodLinkNest RX2 154 yX1_remove RX4 ∈ lw_use := x_use 353 (by decide +kernel) (by decide +kernel)
theorem mw_355 : Cond.instanceMethod yX1_remove ∈ lw_use := x_use 355 (by decide +kernel) (by decide +kernel)
theorem mw_356 : Cond.code yX1_remove prog_3_method_8_code 2 none ∈ lw_use := x_use 356 (by decide +kernel) (by decide +kernel)
theorem mw_357 : Cond.methodLink RX1 39 yX1_touch ∈ lw_use := x_use 357 (by decide +kernel) (by decide +kernel)
theorem mw_359 : Cond.instanceMethod yX1_touch ∈ lw_use := x_use 359 (by decide +kernel) (by decide +kernel)
theorem mw_360 : Cond.code yX1_touch prog_3_method_7_code 5 none ∈ lw_use := x_use 360 (by decide +kernel) (by decide +kernel)
theorem mw_361 : Cond.methodLinkNest RX2 164 yX1_open RX4 ∈ lw_use := x_use 361 (by decide +kernel) (by decide +kernel)
theorem mw_363 : Cond.instanceMethod yX1_open ∈ lw_use := x_use 363 (by decide +kernel) (by decide +kernel)
theorem mw_364 : Cond.code yX1_open prog_3_method_9_code 2 (some FieldType.int) ∈ lw_use := x_use 364 (by decide +kernel) (by decide +kernel)
theorem mw_365 : Cond.methodLinkNest RX2 129 yX1_put RX4 ∈ lw_use := x_use 365 (by decide +kernel) (by decide +kernel)
theorem mw_367 : Cond.instanceMethod yX1_put ∈ lw_use := x_use 367 (by decide +kernel) (by decide +kernel)
theorem mw_368 : Cond.code yX1_put prog_3_method_5_code 4 none ∈ lw_use := x_use 368 (by decide +kernel) (by decide +kernel)
theorem mw_369 : Cond.methodLinkNest RX2 141 yX0_sentence RX4 ∈ lw_use := x_use 369 (by decide +kernel) (by decide +kernel)
theorem mw_371 : Cond.instanceMethod yX0_sentence ∈ lw_use := x_use 371 (by decide +kernel) (by decide +kernel)
theorem mw_372 : Cond.code yX0_sentence prog_2_method_5_code 2 none ∈ lw_use := x_use 372 (by decide +kernel) (by decide +kernel)
theorem mw_374 : Cond.instanceMethod yX4_flush ∈ lw_use := x_use 374 (by decide +kernel) (by decide +kernel)
theorem mw_375 : Cond.selects RX4 yX4_flush yX4_flush ∈ lw_use := x_use 375 (by decide +kernel) (by decide +kernel)
theorem mw_376 : Cond.code yX4_flush prog_1_method_3_code 1 (some FieldType.int) ∈ lw_use := x_use 376 (by decide +kernel) (by decide +kernel)
theorem mw_377 : Cond.methodLinkNest RX4 69 yX2_linesInCache RX4 ∈ lw_use := x_use 377 (by decide +kernel) (by decide +kernel)
theorem mw_379 : Cond.instanceMethod yX2_linesInCache ∈ lw_use := x_use 379 (by decide +kernel) (by decide +kernel)
theorem mw_380 : Cond.code yX2_linesInCache prog_4_method_16_code 3 (some FieldType.int) ∈ lw_use := x_use 380 (by decide +kernel) (by decide +kernel)
theorem mw_382 : Cond.instanceMethod yX4_addHelper ∈ lw_use := x_use 382 (by decide +kernel) (by decide +kernel)
theorem mw_383 : Cond.selects RX4 yX4_addHelper yX4_addHelper ∈ lw_use := x_use 383 (by decide +kernel) (by decide +kernel)
theorem mw_384 : Cond.code yX4_addHelper prog_1_method_4_code 4 (some FieldType.int) ∈ lw_use := x_use 384 (by decide +kernel) (by decide +kernel)
theorem mw_385 : Cond.constant RX4 75 (-100003) ∈ lw_use := x_use 385 (by decide +kernel) (by decide +kernel)
theorem mw_386 : Cond.methodLinkNest RX4 76 yX2_hire RX4 ∈ lw_use := x_use 386 (by decide +kernel) (by decide +kernel)
theorem mw_388 : Cond.instanceMethod yX2_hire ∈ lw_use := x_use 388 (by decide +kernel) (by decide +kernel)
theorem mw_389 : Cond.code yX2_hire prog_4_method_6_code 4 (some FieldType.int) ∈ lw_use := x_use 389 (by decide +kernel) (by decide +kernel)
theorem mw_390 : Cond.constant RX2 83 (-100003) ∈ lw_use := x_use 390 (by decide +kernel) (by decide +kernel)
theorem mw_391 : Cond.methodLinkNest RX2 84 yX0_begin RX4 ∈ lw_use := x_use 391 (by decide +kernel) (by decide +kernel)
theorem mw_393 : Cond.instanceMethod yX4_setDegree ∈ lw_use := x_use 393 (by decide +kernel) (by decide +kernel)
theorem mw_394 : Cond.selects RX4 yX4_setDegree yX4_setDegree ∈ lw_use := x_use 394 (by decide +kernel) (by decide +kernel)
theorem mw_395 : Cond.code yX4_setDegree prog_1_method_5_code 5 (some FieldType.int) ∈ lw_use := x_use 395 (by decide +kernel) (by decide +kernel)
theorem mw_396 : Cond.methodLinkNest RX4 80 yX2_helperAt RX4 ∈ lw_use := x_use 396 (by decide +kernel) (by decide +kernel)
theorem mw_397 : Cond.constant RX4 84 (-100001) ∈ lw_use := x_use 397 (by decide +kernel) (by decide +kernel)
theorem mw_399 : Cond.instanceMethod yX4_setTrial ∈ lw_use := x_use 399 (by decide +kernel) (by decide +kernel)
theorem mw_400 : Cond.selects RX4 yX4_setTrial yX4_setTrial ∈ lw_use := x_use 400 (by decide +kernel) (by decide +kernel)
theorem mw_401 : Cond.code yX4_setTrial prog_1_method_6_code 3 (some FieldType.int) ∈ lw_use := x_use 401 (by decide +kernel) (by decide +kernel)
theorem mw_403 : Cond.instanceMethod yX4_pardon ∈ lw_use := x_use 403 (by decide +kernel) (by decide +kernel)
theorem mw_404 : Cond.selects RX4 yX4_pardon yX4_pardon ∈ lw_use := x_use 404 (by decide +kernel) (by decide +kernel)
theorem mw_405 : Cond.code yX4_pardon prog_1_method_7_code 3 (some FieldType.int) ∈ lw_use := x_use 405 (by decide +kernel) (by decide +kernel)
theorem mw_406 : Cond.methodLinkNest RX4 96 yX0_release RX4 ∈ lw_use := x_use 406 (by decide +kernel) (by decide +kernel)
theorem mw_408 : Cond.instanceMethod yX0_release ∈ lw_use := x_use 408 (by decide +kernel) (by decide +kernel)
theorem mw_409 : Cond.code yX0_release prog_2_method_8_code 2 (some FieldType.int) ∈ lw_use := x_use 409 (by decide +kernel) (by decide +kernel)
theorem mw_411 : Cond.instanceMethod yX4_forget ∈ lw_use := x_use 411 (by decide +kernel) (by decide +kernel)
theorem mw_412 : Cond.selects RX4 yX4_forget yX4_forget ∈ lw_use := x_use 412 (by decide +kernel) (by decide +kernel)
theorem mw_413 : Cond.code yX4_forget prog_1_method_8_code 4 (some FieldType.int) ∈ lw_use := x_use 413 (by decide +kernel) (by decide +kernel)
theorem mw_414 : Cond.constant RX4 102 (-100004) ∈ lw_use := x_use 414 (by decide +kernel) (by decide +kernel)
theorem mw_416 : Cond.instanceMethod yX4_access ∈ lw_use := x_use 416 (by decide +kernel) (by decide +kernel)
theorem mw_417 : Cond.selects RX4 yX4_access yX4_access ∈ lw_use := x_use 417 (by decide +kernel) (by decide +kernel)
theorem mw_418 : Cond.code yX4_access prog_1_method_9_code 3 (some FieldType.int) ∈ lw_use := x_use 418 (by decide +kernel) (by decide +kernel)
theorem mw_419 : Cond.methodLinkNest RX4 106 yX2_perform RX4 ∈ lw_use := x_use 419 (by decide +kernel) (by decide +kernel)
theorem mw_421 : Cond.instanceMethod yX2_perform ∈ lw_use := x_use 421 (by decide +kernel) (by decide +kernel)
theorem mw_422 : Cond.code yX2_perform prog_4_method_7_code 6 (some FieldType.int) ∈ lw_use := x_use 422 (by decide +kernel) (by decide +kernel)
theorem mw_423 : Cond.methodLinkNest RX2 88 yX0_workOneHour RX4 ∈ lw_use := x_use 423 (by decide +kernel) (by decide +kernel)
theorem mw_425 : Cond.instanceMethod yX0_workOneHour ∈ lw_use := x_use 425 (by decide +kernel) (by decide +kernel)
theorem mw_426 : Cond.code yX0_workOneHour prog_2_method_6_code 2 none ∈ lw_use := x_use 426 (by decide +kernel) (by decide +kernel)
theorem mw_427 : Cond.methodLink RX2 92 yX2_serve ∈ lw_use := x_use 427 (by decide +kernel) (by decide +kernel)
theorem mw_429 : Cond.instanceMethod yX2_serve ∈ lw_use := x_use 429 (by decide +kernel) (by decide +kernel)
theorem mw_430 : Cond.code yX2_serve prog_4_method_9_code 6 (some FieldType.int) ∈ lw_use := x_use 430 (by decide +kernel) (by decide +kernel)
theorem mw_431 : Cond.methodLink RX2 109 yX2_setOf ∈ lw_use := x_use 431 (by decide +kernel) (by decide +kernel)
theorem mw_433 : Cond.instanceMethod yX2_setOf ∈ lw_use := x_use 433 (by decide +kernel) (by decide +kernel)
theorem mw_434 : Cond.code yX2_setOf prog_4_method_4_code 2 (some (FieldType.object RX1)) ∈ lw_use := x_use 434 (by decide +kernel) (by decide +kernel)
theorem mw_435 : Cond.methodLink RX2 73 yX2_setAt ∈ lw_use := x_use 435 (by decide +kernel) (by decide +kernel)
theorem mw_437 : Cond.instanceMethod yX2_setAt ∈ lw_use := x_use 437 (by decide +kernel) (by decide +kernel)
theorem mw_438 : Cond.code yX2_setAt prog_4_method_3_code 2 (some (FieldType.object RX1)) ∈ lw_use := x_use 438 (by decide +kernel) (by decide +kernel)
theorem mw_439 : Cond.methodLinkNest RX2 112 yX1_find RX4 ∈ lw_use := x_use 439 (by decide +kernel) (by decide +kernel)
theorem mw_441 : Cond.instanceMethod yX1_find ∈ lw_use := x_use 441 (by decide +kernel) (by decide +kernel)
theorem mw_442 : Cond.code yX1_find prog_3_method_6_code 3 (some FieldType.int) ∈ lw_use := x_use 442 (by decide +kernel) (by decide +kernel)
theorem mw_443 : Cond.methodLink RX2 115 yX2_punishThrower ∈ lw_use := x_use 443 (by decide +kernel) (by decide +kernel)
theorem mw_445 : Cond.instanceMethod yX2_punishThrower ∈ lw_use := x_use 445 (by decide +kernel) (by decide +kernel)
theorem mw_446 : Cond.code yX2_punishThrower prog_4_method_10_code 3 none ∈ lw_use := x_use 446 (by decide +kernel) (by decide +kernel)
theorem mw_447 : Cond.methodLink RX2 119 yX2_fetch ∈ lw_use := x_use 447 (by decide +kernel) (by decide +kernel)
theorem mw_449 : Cond.instanceMethod yX2_fetch ∈ lw_use := x_use 449 (by decide +kernel) (by decide +kernel)
theorem mw_450 : Cond.code yX2_fetch prog_4_method_12_code 5 none ∈ lw_use := x_use 450 (by decide +kernel) (by decide +kernel)
theorem mw_451 : Cond.methodLinkNest RX2 132 yX1_touch RX4 ∈ lw_use := x_use 451 (by decide +kernel) (by decide +kernel)
theorem mw_452 : Cond.methodLinkNest RX2 135 yX0_lineWasUsed RX4 ∈ lw_use := x_use 452 (by decide +kernel) (by decide +kernel)
theorem mw_454 : Cond.instanceMethod yX0_lineWasUsed ∈ lw_use := x_use 454 (by decide +kernel) (by decide +kernel)
theorem mw_455 : Cond.code yX0_lineWasUsed prog_2_method_7_code 1 none ∈ lw_use := x_use 455 (by decide +kernel) (by decide +kernel)
theorem mw_456 : Cond.methodLinkNest RX2 96 yX0_learn RX4 ∈ lw_use := x_use 456 (by decide +kernel) (by decide +kernel)
theorem mw_458 : Cond.instanceMethod yX0_learn ∈ lw_use := x_use 458 (by decide +kernel) (by decide +kernel)
theorem mw_459 : Cond.code yX0_learn prog_2_method_9_code 4 none ∈ lw_use := x_use 459 (by decide +kernel) (by decide +kernel)
theorem mw_460 : Cond.methodLink RX0 78 yX0_learnStride ∈ lw_use := x_use 460 (by decide +kernel) (by decide +kernel)
theorem mw_462 : Cond.instanceMethod yX0_learnStride ∈ lw_use := x_use 462 (by decide +kernel) (by decide +kernel)
theorem mw_463 : Cond.code yX0_learnStride prog_2_method_10_code 7 none ∈ lw_use := x_use 463 (by decide +kernel) (by decide +kernel)
theorem mw_464 : Cond.methodLinkNest RX0 88 yX1_find RX4 ∈ lw_use := x_use 464 (by decide +kernel) (by decide +kernel)
theorem mw_465 : Cond.methodLink RX0 92 yX0_addRow ∈ lw_use := x_use 465 (by decide +kernel) (by decide +kernel)
theorem mw_467 : Cond.instanceMethod yX0_addRow ∈ lw_use := x_use 467 (by decide +kernel) (by decide +kernel)
theorem mw_468 : Cond.code yX0_addRow prog_2_method_13_code 5 none ∈ lw_use := x_use 468 (by decide +kernel) (by decide +kernel)
theorem mw_469 : Cond.methodLinkNest RX0 118 yX1_open RX4 ∈ lw_use := x_use 469 (by decide +kernel) (by decide +kernel)
theorem mw_470 : Cond.methodLinkNest RX0 121 yX1_put RX4 ∈ lw_use := x_use 470 (by decide +kernel) (by decide +kernel)
theorem mw_471 : Cond.methodLinkNest RX0 95 yX1_get RX4 ∈ lw_use := x_use 471 (by decide +kernel) (by decide +kernel)
theorem mw_472 : Cond.methodLink RX0 99 Lib.Math.min.name ∈ lw_use := x_use 472 (by decide +kernel) (by decide +kernel)
theorem mw_473 : Cond.methodLink RX0 104 Lib.Math.max.name ∈ lw_use := x_use 473 (by decide +kernel) (by decide +kernel)
theorem mw_474 : Cond.methodLink RX0 107 yX0_updateRow ∈ lw_use := x_use 474 (by decide +kernel) (by decide +kernel)
theorem mw_476 : Cond.instanceMethod yX0_updateRow ∈ lw_use := x_use 476 (by decide +kernel) (by decide +kernel)
theorem mw_477 : Cond.code yX0_updateRow prog_2_method_14_code 5 none ∈ lw_use := x_use 477 (by decide +kernel) (by decide +kernel)
theorem mw_478 : Cond.methodLinkNest RX0 124 yX1_touch RX4 ∈ lw_use := x_use 478 (by decide +kernel) (by decide +kernel)
theorem mw_479 : Cond.methodLink RX0 85 yX0_wish ∈ lw_use := x_use 479 (by decide +kernel) (by decide +kernel)
theorem mw_481 : Cond.instanceMethod yX0_wish ∈ lw_use := x_use 481 (by decide +kernel) (by decide +kernel)
theorem mw_482 : Cond.code yX0_wish prog_2_method_15_code 6 none ∈ lw_use := x_use 482 (by decide +kernel) (by decide +kernel)
theorem mw_483 : Cond.methodLink RX0 127 yX0_reach ∈ lw_use := x_use 483 (by decide +kernel) (by decide +kernel)
theorem mw_485 : Cond.instanceMethod yX0_reach ∈ lw_use := x_use 485 (by decide +kernel) (by decide +kernel)
theorem mw_486 : Cond.code yX0_reach prog_2_method_4_code 1 (some FieldType.int) ∈ lw_use := x_use 486 (by decide +kernel) (by decide +kernel)
theorem mw_487 : Cond.methodLinkNest RX0 131 yX4_isOutside RX4 ∈ lw_use := x_use 487 (by decide +kernel) (by decide +kernel)
theorem mw_488 : Cond.methodLink RX0 81 yX0_learnStream ∈ lw_use := x_use 488 (by decide +kernel) (by decide +kernel)
theorem mw_490 : Cond.instanceMethod yX0_learnStream ∈ lw_use := x_use 490 (by decide +kernel) (by decide +kernel)
theorem mw_491 : Cond.code yX0_learnStream prog_2_method_11_code 5 none ∈ lw_use := x_use 491 (by decide +kernel) (by decide +kernel)
theorem mw_492 : Cond.methodLink RX0 111 yX0_streamNear ∈ lw_use := x_use 492 (by decide +kernel) (by decide +kernel)
theorem mw_494 : Cond.instanceMethod yX0_streamNear ∈ lw_use := x_use 494 (by decide +kernel) (by decide +kernel)
theorem mw_495 : Cond.code yX0_streamNear prog_2_method_12_code 4 (some FieldType.int) ∈ lw_use := x_use 495 (by decide +kernel) (by decide +kernel)
theorem mw_496 : Cond.methodLink RX0 115 Lib.Math.abs.name ∈ lw_use := x_use 496 (by decide +kernel) (by decide +kernel)
theorem mw_497 : Cond.static Lib.Math.abs.name ∈ lw_use := x_use 497 (by decide +kernel) (by decide +kernel)
theorem mw_498 : Cond.code Lib.Math.abs.name Lib.Math.abs.code 1 (some FieldType.int) ∈ lw_use := x_use 498 (by decide +kernel) (by decide +kernel)
theorem mw_499 : Cond.constant RX0 114 (-100005) ∈ lw_use := x_use 499 (by decide +kernel) (by decide +kernel)
theorem mw_500 : Cond.methodLink RX2 99 yX2_fetchWishes ∈ lw_use := x_use 500 (by decide +kernel) (by decide +kernel)
theorem mw_502 : Cond.instanceMethod yX2_fetchWishes ∈ lw_use := x_use 502 (by decide +kernel) (by decide +kernel)
theorem mw_503 : Cond.code yX2_fetchWishes prog_4_method_11_code 6 (some FieldType.int) ∈ lw_use := x_use 503 (by decide +kernel) (by decide +kernel)
theorem mw_504 : Cond.methodLink RX2 102 yX2_writeLog ∈ lw_use := x_use 504 (by decide +kernel) (by decide +kernel)
theorem mw_506 : Cond.instanceMethod yX2_writeLog ∈ lw_use := x_use 506 (by decide +kernel) (by decide +kernel)
theorem mw_507 : Cond.code yX2_writeLog prog_4_method_15_code 6 none ∈ lw_use := x_use 507 (by decide +kernel) (by decide +kernel)
theorem mw_509 : Cond.instanceMethod yX4_walk ∈ lw_use := x_use 509 (by decide +kernel) (by decide +kernel)
theorem mw_510 : Cond.selects RX4 yX4_walk yX4_walk ∈ lw_use := x_use 510 (by decide +kernel) (by decide +kernel)
theorem mw_511 : Cond.code yX4_walk prog_1_method_10_code 5 (some FieldType.int) ∈ lw_use := x_use 511 (by decide +kernel) (by decide +kernel)
theorem mw_512 : Cond.methodLink RX4 110 yX4_isWalk ∈ lw_use := x_use 512 (by decide +kernel) (by decide +kernel)
theorem mw_513 : Cond.static yX4_isWalk ∈ lw_use := x_use 513 (by decide +kernel) (by decide +kernel)
theorem mw_514 : Cond.code yX4_isWalk prog_1_method_28_code 4 (some FieldType.boolean) ∈ lw_use := x_use 514 (by decide +kernel) (by decide +kernel)
theorem mw_515 : Cond.methodLinkNest RX4 114 yX2_performWalk RX4 ∈ lw_use := x_use 515 (by decide +kernel) (by decide +kernel)
theorem mw_517 : Cond.instanceMethod yX2_performWalk ∈ lw_use := x_use 517 (by decide +kernel) (by decide +kernel)
theorem mw_518 : Cond.code yX2_performWalk prog_4_method_8_code 7 (some FieldType.int) ∈ lw_use := x_use 518 (by decide +kernel) (by decide +kernel)
theorem mw_519 : Cond.methodLink RX2 106 yX2_perform ∈ lw_use := x_use 519 (by decide +kernel) (by decide +kernel)
theorem mw_521 : Cond.instanceMethod yX4_type ∈ lw_use := x_use 521 (by decide +kernel) (by decide +kernel)
theorem mw_522 : Cond.selects RX4 yX4_type yX4_type ∈ lw_use := x_use 522 (by decide +kernel) (by decide +kernel)
theorem mw_523 : Cond.code yX4_type prog_1_method_11_code 2 (some FieldType.int) ∈ lw_use := x_use 523 (by decide +kernel) (by decide +kernel)
theorem mw_524 : Cond.methodLinkNest RX4 118 yX3_append RX4 ∈ lw_use := x_use 524 (by decide +kernel) (by decide +kernel)
theorem mw_526 : Cond.instanceMethod yX3_append ∈ lw_use := x_use 526 (by decide +kernel) (by decide +kernel)
theorem mw_527 : Cond.code yX3_append prog_5_method_2_code 2 (some FieldType.boolean) ∈ lw_use := x_use 527 (by decide +kernel) (by decide +kernel)
theorem mw_528 : Cond.methodLinkNest RX3 19 yX4_isOutside RX4 ∈ lw_use := x_use 528 (by decide +kernel) (by decide +kernel)
theorem mw_530 : Cond.instanceMethod yX4_clearText ∈ lw_use := x_use 530 (by decide +kernel) (by decide +kernel)
theorem mw_531 : Cond.selects RX4 yX4_clearText yX4_clearText ∈ lw_use := x_use 531 (by decide +kernel) (by decide +kernel)
theorem mw_532 : Cond.code yX4_clearText prog_1_method_12_code 2 (some FieldType.int) ∈ lw_use := x_use 532 (by decide +kernel) (by decide +kernel)
theorem mw_534 : Cond.instanceMethod yX4_run ∈ lw_use := x_use 534 (by decide +kernel) (by decide +kernel)
theorem mw_535 : Cond.selects RX4 yX4_run yX4_run ∈ lw_use := x_use 535 (by decide +kernel) (by decide +kernel)
theorem mw_536 : Cond.code yX4_run prog_1_method_13_code 2 (some FieldType.int) ∈ lw_use := x_use 536 (by decide +kernel) (by decide +kernel)
theorem mw_537 : Cond.methodLinkNest RX4 125 yX3_fault RX4 ∈ lw_use := x_use 537 (by decide +kernel) (by decide +kernel)
theorem mw_539 : Cond.instanceMethod yX3_fault ∈ lw_use := x_use 539 (by decide +kernel) (by decide +kernel)
theorem mw_540 : Cond.code yX3_fault prog_5_method_3_code 4 (some FieldType.int) ∈ lw_use := x_use 540 (by decide +kernel) (by decide +kernel)
theorem mw_541 : Cond.methodLink RX3 23 yX3_isDigit ∈ lw_use := x_use 541 (by decide +kernel) (by decide +kernel)
theorem mw_542 : Cond.static yX3_isDigit ∈ lw_use := x_use 542 (by decide +kernel) (by decide +kernel)
theorem mw_543 : Cond.code yX3_isDigit prog_5_method_5_code 1 (some FieldType.boolean) ∈ lw_use := x_use 543 (by decide +kernel) (by decide +kernel)
theorem mw_544 : Cond.methodLink RX3 27 yX3_dueBehind ∈ lw_use := x_use 544 (by decide +kernel) (by decide +kernel)
theorem mw_545 : Cond.static yX3_dueBehind ∈ lw_use := x_use 545 (by decide +kernel) (by decide +kernel)
theorem mw_546 : Cond.code yX3_dueBehind prog_5_method_4_code 3 (some FieldType.int) ∈ lw_use := x_use 546 (by decide +kernel) (by decide +kernel)
theorem mw_547 : Cond.constant RX3 31 (-100005) ∈ lw_use := x_use 547 (by decide +kernel) (by decide +kernel)
theorem mw_548 : Cond.methodLinkNest RX4 128 yX3_performOn RX4 ∈ lw_use := x_use 548 (by decide +kernel) (by decide +kernel)
theorem mw_550 : Cond.instanceMethod yX3_performOn ∈ lw_use := x_use 550 (by decide +kernel) (by decide +kernel)
theorem mw_551 : Cond.code yX3_performOn prog_5_method_6_code 7 (some FieldType.int) ∈ lw_use := x_use 551 (by decide +kernel) (by decide +kernel)
theorem mw_552 : Cond.methodLinkNest RX3 32 yX2_perform RX4 ∈ lw_use := x_use 552 (by decide +kernel) (by decide +kernel)
theorem mw_554 : Cond.instanceMethod yX4_undo ∈ lw_use := x_use 554 (by decide +kernel) (by decide +kernel)
theorem mw_555 : Cond.selects RX4 yX4_undo yX4_undo ∈ lw_use := x_use 555 (by decide +kernel) (by decide +kernel)
theorem mw_556 : Cond.code yX4_undo prog_1_method_14_code 1 (some FieldType.int) ∈ lw_use := x_use 556 (by decide +kernel) (by decide +kernel)
theorem mw_558 : Cond.instanceMethod yX4_keep ∈ lw_use := x_use 558 (by decide +kernel) (by decide +kernel)
theorem mw_559 : Cond.selects RX4 yX4_keep yX4_keep ∈ lw_use := x_use 559 (by decide +kernel) (by decide +kernel)
theorem mw_560 : Cond.code yX4_keep prog_1_method_15_code 1 (some FieldType.int) ∈ lw_use := x_use 560 (by decide +kernel) (by decide +kernel)
theorem mw_562 : Cond.instanceMethod yX4_restore ∈ lw_use := x_use 562 (by decide +kernel) (by decide +kernel)
theorem mw_563 : Cond.selects RX4 yX4_restore yX4_restore ∈ lw_use := x_use 563 (by decide +kernel) (by decide +kernel)
theorem mw_564 : Cond.code yX4_restore prog_1_method_16_code 1 (some FieldType.int) ∈ lw_use := x_use 564 (by decide +kernel) (by decide +kernel)
theorem mw_566 : Cond.instanceMethod yX4_line ∈ lw_use := x_use 566 (by decide +kernel) (by decide +kernel)
theorem mw_567 : Cond.selects RX4 yX4_line yX4_line ∈ lw_use := x_use 567 (by decide +kernel) (by decide +kernel)
theorem mw_568 : Cond.code yX4_line prog_1_method_17_code 6 (some FieldType.int) ∈ lw_use := x_use 568 (by decide +kernel) (by decide +kernel)
theorem mw_569 : Cond.methodLinkNest RX4 139 yX2_setOf RX4 ∈ lw_use := x_use 569 (by decide +kernel) (by decide +kernel)
theorem mw_570 : Cond.methodLinkNest RX4 143 yX1_find RX4 ∈ lw_use := x_use 570 (by decide +kernel) (by decide +kernel)
theorem mw_571 : Cond.methodLinkNest RX4 147 yX1_get RX4 ∈ lw_use := x_use 571 (by decide +kernel) (by decide +kernel)
theorem mw_573 : Cond.instanceMethod yX4_inSet ∈ lw_use := x_use 573 (by decide +kernel) (by decide +kernel)
theorem mw_574 : Cond.selects RX4 yX4_inSet yX4_inSet ∈ lw_use := x_use 574 (by decide +kernel) (by decide +kernel)
theorem mw_575 : Cond.code yX4_inSet prog_1_method_18_code 3 (some FieldType.int) ∈ lw_use := x_use 575 (by decide +kernel) (by decide +kernel)
theorem mw_576 : Cond.methodLinkNest RX4 150 yX2_setAt RX4 ∈ lw_use := x_use 576 (by decide +kernel) (by decide +kernel)
theorem mw_578 : Cond.instanceMethod yX4_thrownOut ∈ lw_use := x_use 578 (by decide +kernel) (by decide +kernel)
theorem mw_579 : Cond.selects RX4 yX4_thrownOut yX4_thrownOut ∈ lw_use := x_use 579 (by decide +kernel) (by decide +kernel)
theorem mw_580 : Cond.code yX4_thrownOut prog_1_method_19_code 2 (some FieldType.int) ∈ lw_use := x_use 580 (by decide +kernel) (by decide +kernel)
theorem mw_582 : Cond.instanceMethod yX4_helper ∈ lw_use := x_use 582 (by decide +kernel) (by decide +kernel)
theorem mw_583 : Cond.selects RX4 yX4_helper yX4_helper ∈ lw_use := x_use 583 (by decide +kernel) (by decide +kernel)
theorem mw_584 : Cond.code yX4_helper prog_1_method_20_code 4 (some FieldType.int) ∈ lw_use := x_use 584 (by decide +kernel) (by decide +kernel)
theorem mw_585 : Cond.methodLinkNest RX4 162 yX0_reach RX4 ∈ lw_use := x_use 585 (by decide +kernel) (by decide +kernel)
theorem mw_586 : Cond.methodLinkNest RX4 174 yX2_newLinesOf RX4 ∈ lw_use := x_use 586 (by decide +kernel) (by decide +kernel)
theorem mw_588 : Cond.instanceMethod yX2_newLinesOf ∈ lw_use := x_use 588 (by decide +kernel) (by decide +kernel)
theorem mw_589 : Cond.code yX2_newLinesOf prog_4_method_17_code 5 (some FieldType.int) ∈ lw_use := x_use 589 (by decide +kernel) (by decide +kernel)
theorem mw_591 : Cond.instanceMethod yX4_table ∈ lw_use := x_use 591 (by decide +kernel) (by decide +kernel)
theorem mw_592 : Cond.selects RX4 yX4_table yX4_table ∈ lw_use := x_use 592 (by decide +kernel) (by decide +kernel)
theorem mw_593 : Cond.code yX4_table prog_1_method_21_code 5 (some FieldType.int) ∈ lw_use := x_use 593 (by decide +kernel) (by decide +kernel)
theorem mw_595 : Cond.instanceMethod yX4_wouldAsk ∈ lw_use := x_use 595 (by decide +kernel) (by decide +kernel)
theorem mw_596 : Cond.selects RX4 yX4_wouldAsk yX4_wouldAsk ∈ lw_use := x_use 596 (by decide +kernel) (by decide +kernel)
theorem mw_597 : Cond.code yX4_wouldAsk prog_1_method_22_code 6 (some FieldType.int) ∈ lw_use := x_use 597 (by decide +kernel) (by decide +kernel)
theorem mw_598 : Cond.methodLinkNest RX4 189 yX0_wishAt RX4 ∈ lw_use := x_use 598 (by decide +kernel) (by decide +kernel)
theorem mw_600 : Cond.instanceMethod yX0_wishAt ∈ lw_use := x_use 600 (by decide +kernel) (by decide +kernel)
theorem mw_601 : Cond.code yX0_wishAt prog_2_method_16_code 2 (some FieldType.int) ∈ lw_use := x_use 601 (by decide +kernel) (by decide +kernel)
theorem mw_603 : Cond.instanceMethod yX4_wouldHit ∈ lw_use := x_use 603 (by decide +kernel) (by decide +kernel)
theorem mw_604 : Cond.selects RX4 yX4_wouldHit yX4_wouldHit ∈ lw_use := x_use 604 (by decide +kernel) (by decide +kernel)
theorem mw_605 : Cond.code yX4_wouldHit prog_1_method_23_code 5 (some FieldType.int) ∈ lw_use := x_use 605 (by decide +kernel) (by decide +kernel)
theorem mw_607 : Cond.instanceMethod yX4_bestHelper ∈ lw_use := x_use 607 (by decide +kernel) (by decide +kernel)
theorem mw_608 : Cond.selects RX4 yX4_bestHelper yX4_bestHelper ∈ lw_use := x_use 608 (by decide +kernel) (by decide +kernel)
theorem mw_609 : Cond.code yX4_bestHelper prog_1_method_24_code 5 (some FieldType.int) ∈ lw_use := x_use 609 (by decide +kernel) (by decide +kernel)
theorem mw_611 : Cond.instanceMethod yX4_logged ∈ lw_use := x_use 611 (by decide +kernel) (by decide +kernel)
theorem mw_612 : Cond.selects RX4 yX4_logged yX4_logged ∈ lw_use := x_use 612 (by decide +kernel) (by decide +kernel)
theorem mw_613 : Cond.code yX4_logged prog_1_method_25_code 3 (some FieldType.int) ∈ lw_use := x_use 613 (by decide +kernel) (by decide +kernel)
theorem mw_615 : Cond.instanceMethod yX4_count ∈ lw_use := x_use 615 (by decide +kernel) (by decide +kernel)
theorem mw_616 : Cond.selects RX4 yX4_count yX4_count ∈ lw_use := x_use 616 (by decide +kernel) (by decide +kernel)
theorem mw_617 : Cond.code yX4_count prog_1_method_26_code 2 (some FieldType.int) ∈ lw_use := x_use 617 (by decide +kernel) (by decide +kernel)
theorem mw_618 : Cond.methodLinkNest RX4 211 yX2_newLines RX4 ∈ lw_use := x_use 618 (by decide +kernel) (by decide +kernel)
theorem mw_620 : Cond.instanceMethod yX2_newLines ∈ lw_use := x_use 620 (by decide +kernel) (by decide +kernel)
theorem mw_621 : Cond.code yX2_newLines prog_4_method_18_code 3 (some FieldType.int) ∈ lw_use := x_use 621 (by decide +kernel) (by decide +kernel)
theorem mw_622 : Cond.methodLink RX2 173 yX2_newLinesOf ∈ lw_use := x_use 622 (by decide +kernel) (by decide +kernel)
theorem mw_623 : Cond.methodLinkNest RX4 214 yX2_allHours RX4 ∈ lw_use := x_use 623 (by decide +kernel) (by decide +kernel)
theorem mw_625 : Cond.instanceMethod yX2_allHours ∈ lw_use := x_use 625 (by decide +kernel) (by decide +kernel)
theorem mw_626 : Cond.code yX2_allHours prog_4_method_19_code 3 (some FieldType.int) ∈ lw_use := x_use 626 (by decide +kernel) (by decide +kernel)
theorem mw_627 : Cond.methodLinkNest RX4 217 yX2_programsInLog RX4 ∈ lw_use := x_use 627 (by decide +kernel) (by decide +kernel)
theorem mw_629 : Cond.instanceMethod yX2_programsInLog ∈ lw_use := x_use 629 (by decide +kernel) (by decide +kernel)
theorem mw_630 : Cond.code yX2_programsInLog prog_4_method_20_code 3 (some FieldType.int) ∈ lw_use := x_use 630 (by decide +kernel) (by decide +kernel)
theorem mw_631 : Cond.methodLink RX2 179 yJ6_bitCount_0f7a4 ∈ lw_use := x_use 631 (by decide +kernel) (by decide +kernel)
theorem mw_632 : Cond.static yJ6_bitCount_0f7a4 ∈ lw_use := x_use 632 (by decide +kernel) (by decide +kernel)
theorem mw_633 : Cond.code yJ6_bitCount_0f7a4 prog_8_method_49_code 1 (some FieldType.int) ∈ lw_use := x_use 633 (by decide +kernel) (by decide +kernel)
theorem mw_634 : Cond.constant RJ6 265 1431655765 ∈ lw_use := x_use 634 (by decide +kernel) (by decide +kernel)
theorem mw_635 : Cond.constant RJ6 266 858993459 ∈ lw_use := x_use 635 (by decide +kernel) (by decide +kernel)
theorem mw_636 : Cond.constant RJ6 267 252645135 ∈ lw_use := x_use 636 (by decide +kernel) (by decide +kernel)
theorem mw_638 : Cond.instantiable RX5 9 ∈ lw_use := x_use 638 (by decide +kernel) (by decide +kernel)
theorem mw_640 : Cond.instanceMethod yX5_init ∈ lw_use := x_use 640 (by decide +kernel) (by decide +kernel)
theorem mw_641 : Cond.code yX5_init prog_7_method_1_code 1 none ∈ lw_use := x_use 641 (by decide +kernel) (by decide +kernel)
theorem mw_642 : Cond.methodLink RX5 1 objectInit ∈ lw_use := x_use 642 (by decide +kernel) (by decide +kernel)
theorem mw_643 : Cond.fieldLink RX5 7 RX5 "row" "[I" ∈ lw_use := x_use 643 (by decide +kernel) (by decide +kernel)
theorem mw_644 : Cond.fieldLink RX5 27 RX5 "states" "I" ∈ lw_use := x_use 644 (by decide +kernel) (by decide +kernel)
theorem mw_645 : Cond.fieldLink RX5 35 RX5 "isKept" "Z" ∈ lw_use := x_use 645 (by decide +kernel) (by decide +kernel)
theorem mw_646 : Cond.fieldLink RX5 13 RX5 "text" "[I" ∈ lw_use := x_use 646 (by decide +kernel) (by decide +kernel)
theorem mw_647 : Cond.fieldLink RX5 153 RX5 "length" "I" ∈ lw_use := x_use 647 (by decide +kernel) (by decide +kernel)
theorem mw_648 : Cond.fieldLink RX5 98 RX5 "askedStep" "I" ∈ lw_use := x_use 648 (by decide +kernel) (by decide +kernel)
theorem mw_649 : Cond.fieldLink RX5 16 RX5 "watched" "I" ∈ lw_use := x_use 649 (by decide +kernel) (by decide +kernel)
theorem mw_650 : Cond.fieldLink RX5 20 RX5 "asked" "[I" ∈ lw_use := x_use 650 (by decide +kernel) (by decide +kernel)
theorem mw_651 : Cond.fieldLink RX5 114 RX5 "askedMany" "I" ∈ lw_use := x_use 651 (by decide +kernel) (by decide +kernel)
theorem mw_672 : Cond.instanceMethod yX5_undo ∈ lw_use := x_use 672 (by decide +kernel) (by decide +kernel)
theorem mw_673 : Cond.selects RX5 yX5_undo yX5_undo ∈ lw_use := x_use 673 (by decide +kernel) (by decide +kernel)
theorem mw_674 : Cond.code yX5_undo prog_7_method_8_code 1 (some FieldType.int) ∈ lw_use := x_use 674 (by decide +kernel) (by decide +kernel)
theorem mw_675 : Cond.constant RX5 34 (-100005) ∈ lw_use := x_use 675 (by decide +kernel) (by decide +kernel)
theorem mw_676 : Cond.methodLink RX5 30 yX5_copy ∈ lw_use := x_use 676 (by decide +kernel) (by decide +kernel)
theorem mw_678 : Cond.instanceMethod yX5_copy ∈ lw_use := x_use 678 (by decide +kernel) (by decide +kernel)
theorem mw_679 : Cond.code yX5_copy prog_7_method_6_code 4 none ∈ lw_use := x_use 679 (by decide +kernel) (by decide +kernel)
theorem mw_681 : Cond.instanceMethod yX5_keep ∈ lw_use := x_use 681 (by decide +kernel) (by decide +kernel)
theorem mw_682 : Cond.selects RX5 yX5_keep yX5_keep ∈ lw_use := x_use 682 (by decide +kernel) (by decide +kernel)
theorem mw_683 : Cond.code yX5_keep prog_7_method_9_code 1 (some FieldType.int) ∈ lw_use := x_use 683 (by decide +kernel) (by decide +kernel)
theorem mw_685 : Cond.instanceMethod yX5_restore ∈ lw_use := x_use 685 (by decide +kernel) (by decide +kernel)
theorem mw_686 : Cond.selects RX5 yX5_restore yX5_restore ∈ lw_use := x_use 686 (by decide +kernel) (by decide +kernel)
theorem mw_687 : Cond.code yX5_restore prog_7_method_10_code 1 (some FieldType.int) ∈ lw_use := x_use 687 (by decide +kernel) (by decide +kernel)
theorem mw_688 : Cond.methodLink RX5 39 yX5_record ∈ lw_use := x_use 688 (by decide +kernel) (by decide +kernel)
theorem mw_690 : Cond.instanceMethod yX5_record ∈ lw_use := x_use 690 (by decide +kernel) (by decide +kernel)
theorem mw_691 : Cond.code yX5_record prog_7_method_7_code 2 none ∈ lw_use := x_use 691 (by decide +kernel) (by decide +kernel)
theorem mw_693 : Cond.instanceMethod yX5_shape ∈ lw_use := x_use 693 (by decide +kernel) (by decide +kernel)
theorem mw_694 : Cond.selects RX5 yX5_shape yX5_shape ∈ lw_use := x_use 694 (by decide +kernel) (by decide +kernel)
theorem mw_695 : Cond.code yX5_shape prog_7_method_23_code 4 (some FieldType.int) ∈ lw_use := x_use 695 (by decide +kernel) (by decide +kernel)
theorem mw_696 : Cond.methodLink RX5 23 yX5_in ∈ lw_use := x_use 696 (by decide +kernel) (by decide +kernel)
theorem mw_697 : Cond.static yX5_in ∈ lw_use := x_use 697 (by decide +kernel) (by decide +kernel)
theorem mw_698 : Cond.code yX5_in prog_7_method_2_code 3 (some FieldType.boolean) ∈ lw_use := x_use 698 (by decide +kernel) (by decide +kernel)
theorem mw_699 : Cond.constant RX5 77 (-100002) ∈ lw_use := x_use 699 (by decide +kernel) (by decide +kernel)
theorem mw_700 : Cond.methodLink RX5 78 yX5_empty ∈ lw_use := x_use 700 (by decide +kernel) (by decide +kernel)
theorem mw_702 : Cond.instanceMethod yX5_empty ∈ lw_use := x_use 702 (by decide +kernel) (by decide +kernel)
theorem mw_703 : Cond.code yX5_empty prog_7_method_22_code 3 (some FieldType.int) ∈ lw_use := x_use 703 (by decide +kernel) (by decide +kernel)
theorem mw_704 : Cond.methodLink RX5 73 yX5_linesIn ∈ lw_use := x_use 704 (by decide +kernel) (by decide +kernel)
theorem mw_706 : Cond.instanceMethod yX5_linesIn ∈ lw_use := x_use 706 (by decide +kernel) (by decide +kernel)
theorem mw_707 : Cond.code yX5_linesIn prog_7_method_21_code 3 (some FieldType.int) ∈ lw_use := x_use 707 (by decide +kernel) (by decide +kernel)
theorem mw_708 : Cond.methodLink RX5 66 yX5_throwOut ∈ lw_use := x_use 708 (by decide +kernel) (by decide +kernel)
theorem mw_710 : Cond.instanceMethod yX5_throwOut ∈ lw_use := x_use 710 (by decide +kernel) (by decide +kernel)
theorem mw_711 : Cond.code yX5_throwOut prog_7_method_19_code 6 none ∈ lw_use := x_use 711 (by decide +kernel) (by decide +kernel)
theorem mw_712 : Cond.methodLink RX5 42 yX5_cellOf ∈ lw_use := x_use 712 (by decide +kernel) (by decide +kernel)
theorem mw_713 : Cond.static yX5_cellOf ∈ lw_use := x_use 713 (by decide +kernel) (by decide +kernel)
theorem mw_714 : Cond.code yX5_cellOf prog_7_method_11_code 2 (some FieldType.int) ∈ lw_use := x_use 714 (by decide +kernel) (by decide +kernel)
theorem mw_715 : Cond.methodLink RX5 54 yX5_of ∈ lw_use := x_use 715 (by decide +kernel) (by decide +kernel)
theorem mw_716 : Cond.static yX5_of ∈ lw_use := x_use 716 (by decide +kernel) (by decide +kernel)
theorem mw_717 : Cond.code yX5_of prog_7_method_5_code 2 (some FieldType.int) ∈ lw_use := x_use 717 (by decide +kernel) (by decide +kernel)
theorem mw_718 : Cond.methodLink RX5 57 yX5_giveHours ∈ lw_use := x_use 718 (by decide +kernel) (by decide +kernel)
theorem mw_720 : Cond.instanceMethod yX5_giveHours ∈ lw_use := x_use 720 (by decide +kernel) (by decide +kernel)
theorem mw_721 : Cond.code yX5_giveHours prog_7_method_16_code 3 none ∈ lw_use := x_use 721 (by decide +kernel) (by decide +kernel)
theorem mw_722 : Cond.methodLink RX5 60 yX5_closeUp ∈ lw_use := x_use 722 (by decide +kernel) (by decide +kernel)
theorem mw_724 : Cond.instanceMethod yX5_closeUp ∈ lw_use := x_use 724 (by decide +kernel) (by decide +kernel)
theorem mw_725 : Cond.code yX5_closeUp prog_7_method_17_code 4 none ∈ lw_use := x_use 725 (by decide +kernel) (by decide +kernel)
theorem mw_726 : Cond.methodLink RX5 63 yX5_forgetLine ∈ lw_use := x_use 726 (by decide +kernel) (by decide +kernel)
theorem mw_728 : Cond.instanceMethod yX5_forgetLine ∈ lw_use := x_use 728 (by decide +kernel) (by decide +kernel)
theorem mw_729 : Cond.code yX5_forgetLine prog_7_method_15_code 2 none ∈ lw_use := x_use 729 (by decide +kernel) (by decide +kernel)
theorem mw_730 : Cond.methodLink RX5 46 yX5_outPlaceOf ∈ lw_use := x_use 730 (by decide +kernel) (by decide +kernel)
theorem mw_732 : Cond.instanceMethod yX5_outPlaceOf ∈ lw_use := x_use 732 (by decide +kernel) (by decide +kernel)
theorem mw_733 : Cond.code yX5_outPlaceOf prog_7_method_13_code 4 (some FieldType.int) ∈ lw_use := x_use 733 (by decide +kernel) (by decide +kernel)
theorem mw_734 : Cond.methodLink RX5 50 yX5_forgetOut ∈ lw_use := x_use 734 (by decide +kernel) (by decide +kernel)
theorem mw_736 : Cond.instanceMethod yX5_forgetOut ∈ lw_use := x_use 736 (by decide +kernel) (by decide +kernel)
theorem mw_737 : Cond.code yX5_forgetOut prog_7_method_14_code 3 none ∈ lw_use := x_use 737 (by decide +kernel) (by decide +kernel)
theorem mw_739 : Cond.instanceMethod yX5_flush ∈ lw_use := x_use 739 (by decide +kernel) (by decide +kernel)
theorem mw_740 : Cond.selects RX5 yX5_flush yX5_flush ∈ lw_use := x_use 740 (by decide +kernel) (by decide +kernel)
theorem mw_741 : Cond.code yX5_flush prog_7_method_24_code 1 (some FieldType.int) ∈ lw_use := x_use 741 (by decide +kernel) (by decide +kernel)
theorem mw_743 : Cond.instanceMethod yX5_addHelper ∈ lw_use := x_use 743 (by decide +kernel) (by decide +kernel)
theorem mw_744 : Cond.selects RX5 yX5_addHelper yX5_addHelper ∈ lw_use := x_use 744 (by decide +kernel) (by decide +kernel)
theorem mw_745 : Cond.code yX5_addHelper prog_7_method_25_code 6 (some FieldType.int) ∈ lw_use := x_use 745 (by decide +kernel) (by decide +kernel)
theorem mw_746 : Cond.constant RX5 81 (-100003) ∈ lw_use := x_use 746 (by decide +kernel) (by decide +kernel)
theorem mw_748 : Cond.instanceMethod yX5_setDegree ∈ lw_use := x_use 748 (by decide +kernel) (by decide +kernel)
theorem mw_749 : Cond.selects RX5 yX5_setDegree yX5_setDegree ∈ lw_use := x_use 749 (by decide +kernel) (by decide +kernel)
theorem mw_750 : Cond.code yX5_setDegree prog_7_method_26_code 4 (some FieldType.int) ∈ lw_use := x_use 750 (by decide +kernel) (by decide +kernel)
theorem mw_751 : Cond.methodLink RX5 82 yX5_isHelper ∈ lw_use := x_use 751 (by decide +kernel) (by decide +kernel)
theorem mw_753 : Cond.instanceMethod yX5_isHelper ∈ lw_use := x_use 753 (by decide +kernel) (by decide +kernel)
theorem mw_754 : Cond.code yX5_isHelper prog_7_method_4_code 2 (some FieldType.boolean) ∈ lw_use := x_use 754 (by decide +kernel) (by decide +kernel)
theorem mw_755 : Cond.constant RX5 86 (-100001) ∈ lw_use := x_use 755 (by decide +kernel) (by decide +kernel)
theorem mw_757 : Cond.instanceMethod yX5_setTrial ∈ lw_use := x_use 757 (by decide +kernel) (by decide +kernel)
theorem mw_758 : Cond.selects RX5 yX5_setTrial yX5_setTrial ∈ lw_use := x_use 758 (by decide +kernel) (by decide +kernel)
theorem mw_759 : Cond.code yX5_setTrial prog_7_method_27_code 3 (some FieldType.int) ∈ lw_use := x_use 759 (by decide +kernel) (by decide +kernel)
theorem mw_761 : Cond.instanceMethod yX5_pardon ∈ lw_use := x_use 761 (by decide +kernel) (by decide +kernel)
theorem mw_762 : Cond.selects RX5 yX5_pardon yX5_pardon ∈ lw_use := x_use 762 (by decide +kernel) (by decide +kernel)
theorem mw_763 : Cond.code yX5_pardon prog_7_method_28_code 3 (some FieldType.int) ∈ lw_use := x_use 763 (by decide +kernel) (by decide +kernel)
theorem mw_765 : Cond.instanceMethod yX5_forget ∈ lw_use := x_use 765 (by decide +kernel) (by decide +kernel)
theorem mw_766 : Cond.selects RX5 yX5_forget yX5_forget ∈ lw_use := x_use 766 (by decide +kernel) (by decide +kernel)
theorem mw_767 : Cond.code yX5_forget prog_7_method_29_code 3 (some FieldType.int) ∈ lw_use := x_use 767 (by decide +kernel) (by decide +kernel)
theorem mw_768 : Cond.constant RX5 87 (-100004) ∈ lw_use := x_use 768 (by decide +kernel) (by decide +kernel)
theorem mw_770 : Cond.instanceMethod yX5_access ∈ lw_use := x_use 770 (by decide +kernel) (by decide +kernel)
theorem mw_771 : Cond.selects RX5 yX5_access yX5_access ∈ lw_use := x_use 771 (by decide +kernel) (by decide +kernel)
theorem mw_772 : Cond.code yX5_access prog_7_method_43_code 3 (some FieldType.int) ∈ lw_use := x_use 772 (by decide +kernel) (by decide +kernel)
theorem mw_773 : Cond.methodLink RX5 138 yX5_isAccess ∈ lw_use := x_use 773 (by decide +kernel) (by decide +kernel)
theorem mw_774 : Cond.static yX5_isAccess ∈ lw_use := x_use 774 (by decide +kernel) (by decide +kernel)
theorem mw_775 : Cond.code yX5_isAccess prog_7_method_42_code 2 (some FieldType.boolean) ∈ lw_use := x_use 775 (by decide +kernel) (by decide +kernel)
theorem mw_776 : Cond.methodLink RX5 111 yX5_isLine ∈ lw_use := x_use 776 (by decide +kernel) (by decide +kernel)
theorem mw_777 : Cond.static yX5_isLine ∈ lw_use := x_use 777 (by decide +kernel) (by decide +kernel)
theorem mw_778 : Cond.code yX5_isLine prog_7_method_3_code 1 (some FieldType.boolean) ∈ lw_use := x_use 778 (by decide +kernel) (by decide +kernel)
theorem mw_779 : Cond.methodLink RX5 142 yX5_go ∈ lw_use := x_use 779 (by decide +kernel) (by decide +kernel)
theorem mw_781 : Cond.instanceMethod yX5_go ∈ lw_use := x_use 781 (by decide +kernel) (by decide +kernel)
theorem mw_782 : Cond.code yX5_go prog_7_method_41_code 6 (some FieldType.int) ∈ lw_use := x_use 782 (by decide +kernel) (by decide +kernel)
theorem mw_783 : Cond.methodLink RX5 126 yX5_work ∈ lw_use := x_use 783 (by decide +kernel) (by decide +kernel)
theorem mw_785 : Cond.instanceMethod yX5_work ∈ lw_use := x_use 785 (by decide +kernel) (by decide +kernel)
theorem mw_786 : Cond.code yX5_work prog_7_method_38_code 2 none ∈ lw_use := x_use 786 (by decide +kernel) (by decide +kernel)
theorem mw_787 : Cond.methodLink RX5 129 yX5_find ∈ lw_use := x_use 787 (by decide +kernel) (by decide +kernel)
theorem mw_789 : Cond.instanceMethod yX5_find ∈ lw_use := x_use 789 (by decide +kernel) (by decide +kernel)
theorem mw_790 : Cond.code yX5_find prog_7_method_40_code 6 (some FieldType.int) ∈ lw_use := x_use 790 (by decide +kernel) (by decide +kernel)
theorem mw_791 : Cond.methodLink RX5 117 yX5_placeOf ∈ lw_use := x_use 791 (by decide +kernel) (by decide +kernel)
theorem mw_793 : Cond.instanceMethod yX5_placeOf ∈ lw_use := x_use 793 (by decide +kernel) (by decide +kernel)
theorem mw_794 : Cond.code yX5_placeOf prog_7_method_12_code 5 (some FieldType.int) ∈ lw_use := x_use 794 (by decide +kernel) (by decide +kernel)
theorem mw_795 : Cond.methodLink RX5 120 yX5_fetch ∈ lw_use := x_use 795 (by decide +kernel) (by decide +kernel)
theorem mw_797 : Cond.instanceMethod yX5_fetch ∈ lw_use := x_use 797 (by decide +kernel) (by decide +kernel)
theorem mw_798 : Cond.code yX5_fetch prog_7_method_20_code 4 none ∈ lw_use := x_use 798 (by decide +kernel) (by decide +kernel)
theorem mw_799 : Cond.methodLink RX5 69 yX5_append ∈ lw_use := x_use 799 (by decide +kernel) (by decide +kernel)
theorem mw_801 : Cond.instanceMethod yX5_append ∈ lw_use := x_use 801 (by decide +kernel) (by decide +kernel)
theorem mw_802 : Cond.code yX5_append prog_7_method_18_code 6 none ∈ lw_use := x_use 802 (by decide +kernel) (by decide +kernel)
theorem mw_803 : Cond.methodLink RX5 123 yX5_use ∈ lw_use := x_use 803 (by decide +kernel) (by decide +kernel)
theorem mw_805 : Cond.instanceMethod yX5_use ∈ lw_use := x_use 805 (by decide +kernel) (by decide +kernel)
theorem mw_806 : Cond.code yX5_use prog_7_method_39_code 2 none ∈ lw_use := x_use 806 (by decide +kernel) (by decide +kernel)
theorem mw_807 : Cond.methodLink RX5 132 yX5_learn ∈ lw_use := x_use 807 (by decide +kernel) (by decide +kernel)
theorem mw_809 : Cond.instanceMethod yX5_learn ∈ lw_use := x_use 809 (by decide +kernel) (by decide +kernel)
theorem mw_810 : Cond.code yX5_learn prog_7_method_36_code 5 none ∈ lw_use := x_use 810 (by decide +kernel) (by decide +kernel)
theorem mw_811 : Cond.methodLink RX5 101 yX5_learnStride ∈ lw_use := x_use 811 (by decide +kernel) (by decide +kernel)
theorem mw_813 : Cond.instanceMethod yX5_learnStride ∈ lw_use := x_use 813 (by decide +kernel) (by decide +kernel)
theorem mw_814 : Cond.code yX5_learnStride prog_7_method_34_code 8 none ∈ lw_use := x_use 814 (by decide +kernel) (by decide +kernel)
theorem mw_815 : Cond.methodLink RX5 88 yX5_rowOf ∈ lw_use := x_use 815 (by decide +kernel) (by decide +kernel)
theorem mw_816 : Cond.static yX5_rowOf ∈ lw_use := x_use 816 (by decide +kernel) (by decide +kernel)
theorem mw_817 : Cond.code yX5_rowOf prog_7_method_31_code 2 (some FieldType.int) ∈ lw_use := x_use 817 (by decide +kernel) (by decide +kernel)
theorem mw_818 : Cond.methodLink RX5 91 yX5_dropRow ∈ lw_use := x_use 818 (by decide +kernel) (by decide +kernel)
theorem mw_820 : Cond.instanceMethod yX5_dropRow ∈ lw_use := x_use 820 (by decide +kernel) (by decide +kernel)
theorem mw_821 : Cond.code yX5_dropRow prog_7_method_32_code 4 none ∈ lw_use := x_use 821 (by decide +kernel) (by decide +kernel)
theorem mw_822 : Cond.methodLink RX5 94 yX5_addRow ∈ lw_use := x_use 822 (by decide +kernel) (by decide +kernel)
theorem mw_824 : Cond.instanceMethod yX5_addRow ∈ lw_use := x_use 824 (by decide +kernel) (by decide +kernel)
theorem mw_825 : Cond.code yX5_addRow prog_7_method_33_code 7 none ∈ lw_use := x_use 825 (by decide +kernel) (by decide +kernel)
theorem mw_826 : Cond.methodLink RX5 105 yX5_learnStream ∈ lw_use := x_use 826 (by decide +kernel) (by decide +kernel)
theorem mw_828 : Cond.instanceMethod yX5_learnStream ∈ lw_use := x_use 828 (by decide +kernel) (by decide +kernel)
theorem mw_829 : Cond.code yX5_learnStream prog_7_method_35_code 6 none ∈ lw_use := x_use 829 (by decide +kernel) (by decide +kernel)
theorem mw_830 : Cond.methodLink RX5 135 yX5_fetchAhead ∈ lw_use := x_use 830 (by decide +kernel) (by decide +kernel)
theorem mw_832 : Cond.instanceMethod yX5_fetchAhead ∈ lw_use := x_use 832 (by decide +kernel) (by decide +kernel)
theorem mw_833 : Cond.code yX5_fetchAhead prog_7_method_37_code 7 (some FieldType.int) ∈ lw_use := x_use 833 (by decide +kernel) (by decide +kernel)
theorem mw_834 : Cond.methodLink RX5 108 yX5_reachOf ∈ lw_use := x_use 834 (by decide +kernel) (by decide +kernel)
theorem mw_836 : Cond.instanceMethod yX5_reachOf ∈ lw_use := x_use 836 (by decide +kernel) (by decide +kernel)
theorem mw_837 : Cond.code yX5_reachOf prog_7_method_30_code 3 (some FieldType.int) ∈ lw_use := x_use 837 (by decide +kernel) (by decide +kernel)
theorem mw_839 : Cond.instanceMethod yX5_walk ∈ lw_use := x_use 839 (by decide +kernel) (by decide +kernel)
theorem mw_840 : Cond.selects RX5 yX5_walk yX5_walk ∈ lw_use := x_use 840 (by decide +kernel) (by decide +kernel)
theorem mw_841 : Cond.code yX5_walk prog_7_method_46_code 5 (some FieldType.int) ∈ lw_use := x_use 841 (by decide +kernel) (by decide +kernel)
theorem mw_842 : Cond.methodLink RX5 145 yX5_isWalk ∈ lw_use := x_use 842 (by decide +kernel) (by decide +kernel)
theorem mw_843 : Cond.static yX5_isWalk ∈ lw_use := x_use 843 (by decide +kernel) (by decide +kernel)
theorem mw_844 : Cond.code yX5_isWalk prog_7_method_44_code 4 (some FieldType.boolean) ∈ lw_use := x_use 844 (by decide +kernel) (by decide +kernel)
theorem mw_845 : Cond.methodLink RX5 149 yX5_goOn ∈ lw_use := x_use 845 (by decide +kernel) (by decide +kernel)
theorem mw_847 : Cond.instanceMethod yX5_goOn ∈ lw_use := x_use 847 (by decide +kernel) (by decide +kernel)
theorem mw_848 : Cond.code yX5_goOn prog_7_method_45_code 7 (some FieldType.int) ∈ lw_use := x_use 848 (by decide +kernel) (by decide +kernel)
theorem mw_850 : Cond.instanceMethod yX5_wouldHit ∈ lw_use := x_use 850 (by decide +kernel) (by decide +kernel)
theorem mw_851 : Cond.selects RX5 yX5_wouldHit yX5_wouldHit ∈ lw_use := x_use 851 (by decide +kernel) (by decide +kernel)
theorem mw_852 : Cond.code yX5_wouldHit prog_7_method_47_code 6 (some FieldType.int) ∈ lw_use := x_use 852 (by decide +kernel) (by decide +kernel)
theorem mw_854 : Cond.instanceMethod yX5_wouldAsk ∈ lw_use := x_use 854 (by decide +kernel) (by decide +kernel)
theorem mw_855 : Cond.selects RX5 yX5_wouldAsk yX5_wouldAsk ∈ lw_use := x_use 855 (by decide +kernel) (by decide +kernel)
theorem mw_856 : Cond.code yX5_wouldAsk prog_7_method_48_code 5 (some FieldType.int) ∈ lw_use := x_use 856 (by decide +kernel) (by decide +kernel)
theorem mw_858 : Cond.instanceMethod yX5_type ∈ lw_use := x_use 858 (by decide +kernel) (by decide +kernel)
theorem mw_859 : Cond.selects RX5 yX5_type yX5_type ∈ lw_use := x_use 859 (by decide +kernel) (by decide +kernel)
theorem mw_860 : Cond.code yX5_type prog_7_method_49_code 2 (some FieldType.int) ∈ lw_use := x_use 860 (by decide +kernel) (by decide +kernel)
theorem mw_862 : Cond.instanceMethod yX5_clearText ∈ lw_use := x_use 862 (by decide +kernel) (by decide +kernel)
theorem mw_863 : Cond.selects RX5 yX5_clearText yX5_clearText ∈ lw_use := x_use 863 (by decide +kernel) (by decide +kernel)
theorem mw_864 : Cond.code yX5_clearText prog_7_method_50_code 2 (some FieldType.int) ∈ lw_use := x_use 864 (by decide +kernel) (by decide +kernel)
theorem mw_866 : Cond.instanceMethod yX5_run ∈ lw_use := x_use 866 (by decide +kernel) (by decide +kernel)
theorem mw_867 : Cond.selects RX5 yX5_run yX5_run ∈ lw_use := x_use 867 (by decide +kernel) (by decide +kernel)
theorem mw_868 : Cond.code yX5_run prog_7_method_52_code 7 (some FieldType.int) ∈ lw_use := x_use 868 (by decide +kernel) (by decide +kernel)
theorem mw_869 : Cond.methodLink RX5 156 yX5_faultOf ∈ lw_use := x_use 869 (by decide +kernel) (by decide +kernel)
theorem mw_871 : Cond.instanceMethod yX5_faultOf ∈ lw_use := x_use 871 (by decide +kernel) (by decide +kernel)
theorem mw_872 : Cond.code yX5_faultOf prog_7_method_51_code 6 (some FieldType.int) ∈ lw_use := x_use 872 (by decide +kernel) (by decide +kernel)
theorem mw_874 : Cond.instanceMethod yX5_line ∈ lw_use := x_use 874 (by decide +kernel) (by decide +kernel)
theorem mw_875 : Cond.selects RX5 yX5_line yX5_line ∈ lw_use := x_use 875 (by decide +kernel) (by decide +kernel)
theorem mw_876 : Cond.code yX5_line prog_7_method_53_code 7 (some FieldType.int) ∈ lw_use := x_use 876 (by decide +kernel) (by decide +kernel)
theorem mw_878 : Cond.instanceMethod yX5_inSet ∈ lw_use := x_use 878 (by decide +kernel) (by decide +kernel)
theorem mw_879 : Cond.selects RX5 yX5_inSet yX5_inSet ∈ lw_use := x_use 879 (by decide +kernel) (by decide +kernel)
theorem mw_880 : Cond.code yX5_inSet prog_7_method_54_code 3 (some FieldType.int) ∈ lw_use := x_use 880 (by decide +kernel) (by decide +kernel)
theorem mw_882 : Cond.instanceMethod yX5_thrownOut ∈ lw_use := x_use 882 (by decide +kernel) (by decide +kernel)
theorem mw_883 : Cond.selects RX5 yX5_thrownOut yX5_thrownOut ∈ lw_use := x_use 883 (by decide +kernel) (by decide +kernel)
theorem mw_884 : Cond.code yX5_thrownOut prog_7_method_55_code 2 (some FieldType.int) ∈ lw_use := x_use 884 (by decide +kernel) (by decide +kernel)
theorem mw_886 : Cond.instanceMethod yX5_helper ∈ lw_use := x_use 886 (by decide +kernel) (by decide +kernel)
theorem mw_887 : Cond.selects RX5 yX5_helper yX5_helper ∈ lw_use := x_use 887 (by decide +kernel) (by decide +kernel)
theorem mw_888 : Cond.code yX5_helper prog_7_method_57_code 3 (some FieldType.int) ∈ lw_use := x_use 888 (by decide +kernel) (by decide +kernel)
theorem mw_889 : Cond.methodLink RX5 159 yX5_newOf ∈ lw_use := x_use 889 (by decide +kernel) (by decide +kernel)
theorem mw_891 : Cond.instanceMethod yX5_newOf ∈ lw_use := x_use 891 (by decide +kernel) (by decide +kernel)
theorem mw_892 : Cond.code yX5_newOf prog_7_method_56_code 6 (some FieldType.int) ∈ lw_use := x_use 892 (by decide +kernel) (by decide +kernel)
theorem mw_894 : Cond.instanceMethod yX5_table ∈ lw_use := x_use 894 (by decide +kernel) (by decide +kernel)
theorem mw_895 : Cond.selects RX5 yX5_table yX5_table ∈ lw_use := x_use 895 (by decide +kernel) (by decide +kernel)
theorem mw_896 : Cond.code yX5_table prog_7_method_58_code 4 (some FieldType.int) ∈ lw_use := x_use 896 (by decide +kernel) (by decide +kernel)
theorem mw_898 : Cond.instanceMethod yX5_bestHelper ∈ lw_use := x_use 898 (by decide +kernel) (by decide +kernel)
theorem mw_899 : Cond.selects RX5 yX5_bestHelper yX5_bestHelper ∈ lw_use := x_use 899 (by decide +kernel) (by decide +kernel)
theorem mw_900 : Cond.code yX5_bestHelper prog_7_method_59_code 5 (some FieldType.int) ∈ lw_use := x_use 900 (by decide +kernel) (by decide +kernel)
theorem mw_902 : Cond.instanceMethod yX5_logged ∈ lw_use := x_use 902 (by decide +kernel) (by decide +kernel)
theorem mw_903 : Cond.selects RX5 yX5_logged yX5_logged ∈ lw_use := x_use 903 (by decide +kernel) (by decide +kernel)
theorem mw_904 : Cond.code yX5_logged prog_7_method_61_code 4 (some FieldType.int) ∈ lw_use := x_use 904 (by decide +kernel) (by decide +kernel)
theorem mw_905 : Cond.methodLink RX5 162 yX5_loggedMany ∈ lw_use := x_use 905 (by decide +kernel) (by decide +kernel)
theorem mw_907 : Cond.instanceMethod yX5_loggedMany ∈ lw_use := x_use 907 (by decide +kernel) (by decide +kernel)
theorem mw_908 : Cond.code yX5_loggedMany prog_7_method_60_code 1 (some FieldType.int) ∈ lw_use := x_use 908 (by decide +kernel) (by decide +kernel)
theorem mw_910 : Cond.instanceMethod yX5_count ∈ lw_use := x_use 910 (by decide +kernel) (by decide +kernel)
theorem mw_911 : Cond.selects RX5 yX5_count yX5_count ∈ lw_use := x_use 911 (by decide +kernel) (by decide +kernel)
theorem mw_912 : Cond.code yX5_count prog_7_method_64_code 2 (some FieldType.int) ∈ lw_use := x_use 912 (by decide +kernel) (by decide +kernel)
theorem mw_913 : Cond.methodLink RX5 165 yX5_hoursOfAll ∈ lw_use := x_use 913 (by decide +kernel) (by decide +kernel)
theorem mw_915 : Cond.instanceMethod yX5_hoursOfAll ∈ lw_use := x_use 915 (by decide +kernel) (by decide +kernel)
theorem mw_916 : Cond.code yX5_hoursOfAll prog_7_method_63_code 3 (some FieldType.int) ∈ lw_use := x_use 916 (by decide +kernel) (by decide +kernel)
theorem mw_917 : Cond.methodLink RX5 168 yX5_programsLogged ∈ lw_use := x_use 917 (by decide +kernel) (by decide +kernel)
theorem mw_919 : Cond.instanceMethod yX5_programsLogged ∈ lw_use := x_use 919 (by decide +kernel) (by decide +kernel)
theorem mw_920 : Cond.code yX5_programsLogged prog_7_method_62_code 5 (some FieldType.int) ∈ lw_use := x_use 920 (by decide +kernel) (by decide +kernel)
end
section
theorem dX0_init_0 : decode cX0_init 0 = .ok (.aload_n 0, 1) := by decide +kernel
theorem dX0_init_1 : decode cX0_init 1 = .ok (.invokespecial 3, 3) := by decide +kernel
theorem dX0_init_4 : decode cX0_init 4 = .ok (.aload_n 0, 1) := by decide +kernel
theorem dX0_init_5 : decode cX0_init 5 = .ok (.new 9, 3) := by decide +kernel
theorem dX0_init_8 : decode cX0_init 8 = .ok (.dup, 1) := by decide +kernel
theorem dX0_init_9 : decode cX0_init 9 = .ok (.iconst 4, 1) := by decide +kernel
theorem dX0_init_10 : decode cX0_init 10 = .ok (.iconst 4, 1) := by decide +kernel
theorem dX0_init_11 : decode cX0_init 11 = .ok (.invokespecial 11, 3) := by decide +kernel
theorem dX0_init_14 : decode cX0_init 14 = .ok (.putfield 14, 3) := by decide +kernel
theorem dX0_init_17 : decode cX0_init 17 = .ok (.aload_n 0, 1) := by decide +kernel
theorem dX0_init_18 : decode cX0_init 18 = .ok (.iconst 4, 1) := by decide +kernel
theorem dX0_init_19 : decode cX0_init 19 = .ok (.newarray .int, 2) := by decide +kernel
theorem dX0_init_21 : decode cX0_init 21 = .ok (.putfield 20, 3) := by decide +kernel
theorem dX0_init_24 : decode cX0_init 24 = .ok (.aload_n 0, 1) := by decide +kernel
theorem dX0_init_25 : decode cX0_init 25 = .ok (.iconst 0, 1) := by decide +kernel
theorem dX0_init_26 : decode cX0_init 26 = .ok (.iconst 1, 1) := by decide +kernel
theorem dX0_init_27 : decode cX0_init 27 = .ok (.iconst 1, 1) := by decide +kernel
theorem dX0_init_28 : decode cX0_init 28 = .ok (.invokevirtual 24, 3) := by decide +kernel
theorem dX0_init_31 : decode cX0_init 31 = .ok (.return_, 1) := by decide +kernel
theorem dX0_begin_0 : decode cX0_begin 0 = .ok (.aload_n 0, 1) := by decide +kernel
theorem dX0_begin_1 : decode cX0_begin 1 = .ok (.iload_n 1, 1) := by decide +kernel
theorem dX0_begin_2 : decode cX0_begin 2 = .ok (.putfield 28, 3) := by decide +kernel
theorem dX0_begin_5 : decode cX0_begin 5 = .ok (.aload_n 0, 1) := by decide +kernel
theorem dX0_begin_6 : decode cX0_begin 6 = .ok (.iload_n 2, 1) := by decide +kernel
theorem dX0_begin_7 : decode cX0_begin 7 = .ok (.putfield 32, 3) := by decide +kernel
theorem dX0_begin_10 : decode cX0_begin 10 = .ok (.aload_n 0, 1) := by decide +kernel
theorem dX0_begin_11 : decode cX0_begin 11 = .ok (.iload_n 3, 1) := by decide +kernel
theorem dX0_begin_12 : decode cX0_begin 12 = .ok (.putfield 35, 3) := by decide +kernel
theorem dX0_begin_15 : decode cX0_begin 15 = .ok (.aload_n 0, 1) := by decide +kernel
theorem dX0_begin_16 : decode cX0_begin 16 = .ok (.iconst 0, 1) := by decide +kernel
theorem dX0_begin_17 : decode cX0_begin 17 = .ok (.putfield 38, 3) := by decide +kernel
theorem dX0_begin_20 : decode cX0_begin 20 = .ok (.aload_n 0, 1) := by decide +kernel
theorem dX0_begin_21 : decode cX0_begin 21 = .ok (.iconst 0, 1) := by decide +kernel
theorem dX0_begin_22 : decode cX0_begin 22 = .ok (.putfield 41, 3) := by decide +kernel
theorem dX0_begin_25 : decode cX0_begin 25 = .ok (.aload_n 0, 1) := by decide +kernel
theorem dX0_begin_26 : decode cX0_begin 26 = .ok (.iconst 0, 1) := by decide +kernel
theorem dX0_begin_27 : decode cX0_begin 27 = .ok (.putfield 44, 3) := by decide +kernel
theorem dX0_begin_30 : decode cX0_begin 30 = .ok (.aload_n 0, 1) := by decide +kernel
theorem dX0_begin_31 : decode cX0_begin 31 = .ok (.iconst 0, 1) := by decide +kernel
theorem dX0_begin_32 : decode cX0_begin 32 = .ok (.putfield 47, 3) := by decide +kernel
theorem dX0_begin_35 : decode cX0_begin 35 = .ok (.aload_n 0, 1) := by decide +kernel
theorem dX0_begin_36 : decode cX0_begin 36 = .ok (.iconst 0, 1) := by decide +kernel
theorem dX0_begin_37 : decode cX0_begin 37 = .ok (.putfield 50, 3) := by decide +kernel
theorem dX0_begin_40 : decode cX0_begin 40 = .ok (.aload_n 0, 1) := by decide +kernel
theorem dX0_begin_41 : decode cX0_begin 41 = .ok (.iconst 0, 1) := by decide +kernel
theorem dX0_begin_42 : decode cX0_begin 42 = .ok (.putfield 53, 3) := by decide +kernel
theorem dX0_begin_45 : decode cX0_begin 45 = .ok (.aload_n 0, 1) := by decide +kernel
theorem dX0_begin_46 : decode cX0_begin 46 = .ok (.iconst 0, 1) := by decide +kernel
theorem dX0_begin_47 : decode cX0_begin 47 = .ok (.putfield 56, 3) := by decide +kernel
theorem dX0_begin_50 : decode cX0_begin 50 = .ok (.aload_n 0, 1) := by decide +kernel
theorem dX0_begin_51 : decode cX0_begin 51 = .ok (.iconst 0, 1) := by decide +kernel
theorem dX0_begin_52 : decode cX0_begin 52 = .ok (.putfield 59, 3) := by decide +kernel
theorem dX0_begin_55 : decode cX0_begin 55 = .ok (.aload_n 0, 1) := by decide +kernel
theorem dX0_begin_56 : decode cX0_begin 56 = .ok (.iconst 0, 1) := by decide +kernel
theorem dX0_begin_57 : decode cX0_begin 57 = .ok (.putfield 62, 3) := by decide +kernel
theorem dX0_begin_60 : decode cX0_begin 60 = .ok (.aload_n 0, 1) := by decide +kernel
theorem dX0_begin_61 : decode cX0_begin 61 = .ok (.iconst 0, 1) := by decide +kernel
theorem dX0_begin_62 : decode cX0_begin 62 = .ok (.putfield 65, 3) := by decide +kernel
theorem dX0_begin_65 : decode cX0_begin 65 = .ok (.aload_n 0, 1) := by decide +kernel
theorem dX0_begin_66 : decode cX0_begin 66 = .ok (.iconst 0, 1) := by decide +kernel
theorem dX0_begin_67 : decode cX0_begin 67 = .ok (.putfield 68, 3) := by decide +kernel
theorem dX0_begin_70 : decode cX0_begin 70 = .ok (.aload_n 0, 1) := by decide +kernel
theorem dX0_begin_71 : decode cX0_begin 71 = .ok (.getfield 14, 3) := by decide +kernel
theorem dX0_begin_74 : decode cX0_begin 74 = .ok (.iconst 0, 1) := by decide +kernel
theorem dX0_begin_75 : decode cX0_begin 75 = .ok (.putfield 71, 3) := by decide +kernel
theorem dX0_begin_78 : decode cX0_begin 78 = .ok (.return_, 1) := by decide +kernel
theorem dX0_copyFrom_0 : decode cX0_copyFrom 0 = .ok (.aload_n 0, 1) := by decide +kernel
theorem dX0_copyFrom_1 : decode cX0_copyFrom 1 = .ok (.aload_n 1, 1) := by decide +kernel
theorem dX0_copyFrom_2 : decode cX0_copyFrom 2 = .ok (.getfield 28, 3) := by decide +kernel
theorem dX0_copyFrom_5 : decode cX0_copyFrom 5 = .ok (.putfield 28, 3) := by decide +kernel
theorem dX0_copyFrom_8 : decode cX0_copyFrom 8 = .ok (.aload_n 0, 1) := by decide +kernel
theorem dX0_copyFrom_9 : decode cX0_copyFrom 9 = .ok (.aload_n 1, 1) := by decide +kernel
theorem dX0_copyFrom_10 : decode cX0_copyFrom 10 = .ok (.getfield 32, 3) := by decide +kernel
theorem dX0_copyFrom_13 : decode cX0_copyFrom 13 = .ok (.putfield 32, 3) := by decide +kernel
theorem dX0_copyFrom_16 : decode cX0_copyFrom 16 = .ok (.aload_n 0, 1) := by decide +kernel
theorem dX0_copyFrom_17 : decode cX0_copyFrom 17 = .ok (.aload_n 1, 1) := by decide +kernel
theorem dX0_copyFrom_18 : decode cX0_copyFrom 18 = .ok (.getfield 35, 3) := by decide +kernel
theorem dX0_copyFrom_21 : decode cX0_copyFrom 21 = .ok (.putfield 35, 3) := by decide +kernel
theorem dX0_copyFrom_24 : decode cX0_copyFrom 24 = .ok (.aload_n 0, 1) := by decide +kernel
theorem dX0_copyFrom_25 : decode cX0_copyFrom 25 = .ok (.aload_n 1, 1) := by decide +kernel
theorem dX0_copyFrom_26 : decode cX0_copyFrom 26 = .ok (.getfield 38, 3) := by decide +kernel
theorem dX0_copyFrom_29 : decode cX0_copyFrom 29 = .ok (.putfield 38, 3) := by decide +kernel
theorem dX0_copyFrom_32 : decode cX0_copyFrom 32 = .ok (.aload_n 0, 1) := by decide +kernel
theorem dX0_copyFrom_33 : decode cX0_copyFrom 33 = .ok (.aload_n 1, 1) := by decide +kernel
theorem dX0_copyFrom_34 : decode cX0_copyFrom 34 = .ok (.getfield 41, 3) := by decide +kernel
theorem dX0_copyFrom_37 : decode cX0_copyFrom 37 = .ok (.putfield 41, 3) := by decide +kernel
theorem dX0_copyFrom_40 : decode cX0_copyFrom 40 = .ok (.aload_n 0, 1) := by decide +kernel
theorem dX0_copyFrom_41 : decode cX0_copyFrom 41 = .ok (.aload_n 1, 1) := by decide +kernel
theorem dX0_copyFrom_42 : decode cX0_copyFrom 42 = .ok (.getfield 44, 3) := by decide +kernel
theorem dX0_copyFrom_45 : decode cX0_copyFrom 45 = .ok (.putfield 44, 3) := by decide +kernel
theorem dX0_copyFrom_48 : decode cX0_copyFrom 48 = .ok (.aload_n 0, 1) := by decide +kernel
theorem dX0_copyFrom_49 : decode cX0_copyFrom 49 = .ok (.aload_n 1, 1) := by decide +kernel
theorem dX0_copyFrom_50 : decode cX0_copyFrom 50 = .ok (.getfield 47, 3) := by decide +kernel
theorem dX0_copyFrom_53 : decode cX0_copyFrom 53 = .ok (.putfield 47, 3) := by decide +kernel
theorem dX0_copyFrom_56 : decode cX0_copyFrom 56 = .ok (.aload_n 0, 1) := by decide +kernel
theorem dX0_copyFrom_57 : decode cX0_copyFrom 57 = .ok (.aload_n 1, 1) := by decide +kernel
theorem dX0_copyFrom_58 : decode cX0_copyFrom 58 = .ok (.getfield 50, 3) := by decide +kernel
theorem dX0_copyFrom_61 : decode cX0_copyFrom 61 = .ok (.putfield 50, 3) := by decide +kernel
theorem dX0_copyFrom_64 : decode cX0_copyFrom 64 = .ok (.aload_n 0, 1) := by decide +kernel
theorem dX0_copyFrom_65 : decode cX0_copyFrom 65 = .ok (.aload_n 1, 1) := by decide +kernel
theorem dX0_copyFrom_66 : decode cX0_copyFrom 66 = .ok (.getfield 53, 3) := by decide +kernel
theorem dX0_copyFrom_69 : decode cX0_copyFrom 69 = .ok (.putfield 53, 3) := by decide +kernel
theorem dX0_copyFrom_72 : decode cX0_copyFrom 72 = .ok (.aload_n 0, 1) := by decide +kernel
theorem dX0_copyFrom_73 : decode cX0_copyFrom 73 = .ok (.aload_n 1, 1) := by decide +kernel
theorem dX0_copyFrom_74 : decode cX0_copyFrom 74 = .ok (.getfield 56, 3) := by decide +kernel
theorem dX0_copyFrom_77 : decode cX0_copyFrom 77 = .ok (.putfield 56, 3) := by decide +kernel
theorem dX0_copyFrom_80 : decode cX0_copyFrom 80 = .ok (.aload_n 0, 1) := by decide +kernel
theorem dX0_copyFrom_81 : decode cX0_copyFrom 81 = .ok (.aload_n 1, 1) := by decide +kernel
theorem dX0_copyFrom_82 : decode cX0_copyFrom 82 = .ok (.getfield 59, 3) := by decide +kernel
theorem dX0_copyFrom_85 : decode cX0_copyFrom 85 = .ok (.putfield 59, 3) := by decide +kernel
theorem dX0_copyFrom_88 : decode cX0_copyFrom 88 = .ok (.aload_n 0, 1) := by decide +kernel
theorem dX0_copyFrom_89 : decode cX0_copyFrom 89 = .ok (.aload_n 1, 1) := by decide +kernel
theorem dX0_copyFrom_90 : decode cX0_copyFrom 90 = .ok (.getfield 62, 3) := by decide +kernel
theorem dX0_copyFrom_93 : decode cX0_copyFrom 93 = .ok (.putfield 62, 3) := by decide +kernel
theorem dX0_copyFrom_96 : decode cX0_copyFrom 96 = .ok (.aload_n 0, 1) := by decide +kernel
theorem dX0_copyFrom_97 : decode cX0_copyFrom 97 = .ok (.aload_n 1, 1) := by decide +kernel
theorem dX0_copyFrom_98 : decode cX0_copyFrom 98 = .ok (.getfield 65, 3) := by decide +kernel
theorem dX0_copyFrom_101 : decode cX0_copyFrom 101 = .ok (.putfield 65, 3) := by decide +kernel
theorem dX0_copyFrom_104 : decode cX0_copyFrom 104 = .ok (.aload_n 0, 1) := by decide +kernel
theorem dX0_copyFrom_105 : decode cX0_copyFrom 105 = .ok (.getfield 14, 3) := by decide +kernel
theorem dX0_copyFrom_108 : decode cX0_copyFrom 108 = .ok (.aload_n 1, 1) := by decide +kernel
theorem dX0_copyFrom_109 : decode cX0_copyFrom 109 = .ok (.getfield 14, 3) := by decide +kernel
theorem dX0_copyFrom_112 : decode cX0_copyFrom 112 = .ok (.invokevirtual 74, 3) := by decide +kernel
theorem dX0_copyFrom_115 : decode cX0_copyFrom 115 = .ok (.return_, 1) := by decide +kernel
theorem dX0_reach_0 : decode cX0_reach 0 = .ok (.aload_n 0, 1) := by decide +kernel
theorem dX0_reach_1 : decode cX0_reach 1 = .ok (.getfield 38, 3) := by decide +kernel
theorem dX0_reach_4 : decode cX0_reach 4 = .ok (.lookupswitch 35 #[(0, 28), (1, 33)], 28) := by decide +kernel
theorem dX0_reach_32 : decode cX0_reach 32 = .ok (.aload_n 0, 1) := by decide +kernel
theorem dX0_reach_33 : decode cX0_reach 33 = .ok (.getfield 32, 3) := by decide +kernel
theorem dX0_reach_36 : decode cX0_reach 36 = .ok (.ireturn, 1) := by decide +kernel
theorem dX0_reach_37 : decode cX0_reach 37 = .ok (.iconst 1, 1) := by decide +kernel
theorem dX0_reach_38 : decode cX0_reach 38 = .ok (.ireturn, 1) := by decide +kernel
theorem dX0_reach_39 : decode cX0_reach 39 = .ok (.iconst 0, 1) := by decide +kernel
theorem dX0_reach_40 : decode cX0_reach 40 = .ok (.ireturn, 1) := by decide +kernel
theorem dX0_sentence_0 : decode cX0_sentence 0 = .ok (.aload_n 0, 1) := by decide +kernel
theorem dX0_sentence_1 : decode cX0_sentence 1 = .ok (.dup, 1) := by decide +kernel
theorem dX0_sentence_2 : decode cX0_sentence 2 = .ok (.getfield 41, 3) := by decide +kernel
theorem dX0_sentence_5 : decode cX0_sentence 5 = .ok (.iload_n 1, 1) := by decide +kernel
theorem dX0_sentence_6 : decode cX0_sentence 6 = .ok (.iadd, 1) := by decide +kernel
theorem dX0_sentence_7 : decode cX0_sentence 7 = .ok (.putfield 41, 3) := by decide +kernel
theorem dX0_sentence_10 : decode cX0_sentence 10 = .ok (.aload_n 0, 1) := by decide +kernel
theorem dX0_sentence_11 : decode cX0_sentence 11 = .ok (.iconst 2, 1) := by decide +kernel
theorem dX0_sentence_12 : decode cX0_sentence 12 = .ok (.putfield 38, 3) := by decide +kernel
theorem dX0_sentence_15 : decode cX0_sentence 15 = .ok (.aload_n 0, 1) := by decide +kernel
theorem dX0_sentence_16 : decode cX0_sentence 16 = .ok (.iconst 0, 1) := by decide +kernel
theorem dX0_sentence_17 : decode cX0_sentence 17 = .ok (.putfield 44, 3) := by decide +kernel
theorem dX0_sentence_20 : decode cX0_sentence 20 = .ok (.return_, 1) := by decide +kernel
theorem dX0_workOneHour_0 : decode cX0_workOneHour 0 = .ok (.aload_n 0, 1) := by decide +kernel
theorem dX0_workOneHour_1 : decode cX0_workOneHour 1 = .ok (.getfield 38, 3) := by decide +kernel
theorem dX0_workOneHour_4 : decode cX0_workOneHour 4 = .ok (.iconst 2, 1) := by decide +kernel
theorem dX0_workOneHour_5 : decode cX0_workOneHour 5 = .ok (.if_icmp .eq 4, 3) := by decide +kernel
theorem dX0_workOneHour_8 : decode cX0_workOneHour 8 = .ok (.return_, 1) := by decide +kernel
theorem dX0_workOneHour_9 : decode cX0_workOneHour 9 = .ok (.aload_n 0, 1) := by decide +kernel
theorem dX0_workOneHour_10 : decode cX0_workOneHour 10 = .ok (.dup, 1) := by decide +kernel
theorem dX0_workOneHour_11 : decode cX0_workOneHour 11 = .ok (.getfield 41, 3) := by decide +kernel
theorem dX0_workOneHour_14 : decode cX0_workOneHour 14 = .ok (.iconst 1, 1) := by decide +kernel
theorem dX0_workOneHour_15 : decode cX0_workOneHour 15 = .ok (.isub, 1) := by decide +kernel
theorem dX0_workOneHour_16 : decode cX0_workOneHour 16 = .ok (.putfield 41, 3) := by decide +kernel
theorem dX0_workOneHour_19 : decode cX0_workOneHour 19 = .ok (.aload_n 0, 1) := by decide +kernel
theorem dX0_workOneHour_20 : decode cX0_workOneHour 20 = .ok (.dup, 1) := by decide +kernel
theorem dX0_workOneHour_21 : decode cX0_workOneHour 21 = .ok (.getfield 59, 3) := by decide +kernel
theorem dX0_workOneHour_24 : decode cX0_workOneHour 24 = .ok (.iconst 1, 1) := by decide +kernel
theorem dX0_workOneHour_25 : decode cX0_workOneHour 25 = .ok (.iadd, 1) := by decide +kernel
theorem dX0_workOneHour_26 : decode cX0_workOneHour 26 = .ok (.putfield 59, 3) := by decide +kernel
theorem dX0_workOneHour_29 : decode cX0_workOneHour 29 = .ok (.aload_n 0, 1) := by decide +kernel
theorem dX0_workOneHour_30 : decode cX0_workOneHour 30 = .ok (.getfield 41, 3) := by decide +kernel
theorem dX0_workOneHour_33 : decode cX0_workOneHour 33 = .ok (.iconst 1, 1) := by decide +kernel
theorem dX0_workOneHour_34 : decode cX0_workOneHour 34 = .ok (.if_icmp .ge 23, 3) := by decide +kernel
theorem dX0_workOneHour_37 : decode cX0_workOneHour 37 = .ok (.aload_n 0, 1) := by decide +kernel
theorem dX0_workOneHour_38 : decode cX0_workOneHour 38 = .ok (.iconst 1, 1) := by decide +kernel
theorem dX0_workOneHour_39 : decode cX0_workOneHour 39 = .ok (.putfield 38, 3) := by decide +kernel
theorem dX0_workOneHour_42 : decode cX0_workOneHour 42 = .ok (.aload_n 0, 1) := by decide +kernel
theorem dX0_workOneHour_43 : decode cX0_workOneHour 43 = .ok (.iload_n 1, 1) := by decide +kernel
theorem dX0_workOneHour_44 : decode cX0_workOneHour 44 = .ok (.putfield 44, 3) := by decide +kernel
theorem dX0_workOneHour_47 : decode cX0_workOneHour 47 = .ok (.aload_n 0, 1) := by decide +kernel
theorem dX0_workOneHour_48 : decode cX0_workOneHour 48 = .ok (.dup, 1) := by decide +kernel
theorem dX0_workOneHour_49 : decode cX0_workOneHour 49 = .ok (.getfield 65, 3) := by decide +kernel
theorem dX0_workOneHour_52 : decode cX0_workOneHour 52 = .ok (.iconst 1, 1) := by decide +kernel
theorem dX0_workOneHour_53 : decode cX0_workOneHour 53 = .ok (.iadd, 1) := by decide +kernel
theorem dX0_workOneHour_54 : decode cX0_workOneHour 54 = .ok (.putfield 65, 3) := by decide +kernel
theorem dX0_workOneHour_57 : decode cX0_workOneHour 57 = .ok (.return_, 1) := by decide +kernel
theorem dX0_lineWasUsed_0 : decode cX0_lineWasUsed 0 = .ok (.aload_n 0, 1) := by decide +kernel
theorem dX0_lineWasUsed_1 : decode cX0_lineWasUsed 1 = .ok (.dup, 1) := by decide +kernel
theorem dX0_lineWasUsed_2 : decode cX0_lineWasUsed 2 = .ok (.getfield 50, 3) := by decide +kernel
theorem dX0_lineWasUsed_5 : decode cX0_lineWasUsed 5 = .ok (.iconst 1, 1) := by decide +kernel
theorem dX0_lineWasUsed_6 : decode cX0_lineWasUsed 6 = .ok (.iadd, 1) := by decide +kernel
theorem dX0_lineWasUsed_7 : decode cX0_lineWasUsed 7 = .ok (.putfield 50, 3) := by decide +kernel
theorem dX0_lineWasUsed_10 : decode cX0_lineWasUsed 10 = .ok (.aload_n 0, 1) := by decide +kernel
theorem dX0_lineWasUsed_11 : decode cX0_lineWasUsed 11 = .ok (.getfield 38, 3) := by decide +kernel
theorem dX0_lineWasUsed_14 : decode cX0_lineWasUsed 14 = .ok (.iconst 1, 1) := by decide +kernel
theorem dX0_lineWasUsed_15 : decode cX0_lineWasUsed 15 = .ok (.if_icmp .ne 31, 3) := by decide +kernel
theorem dX0_lineWasUsed_18 : decode cX0_lineWasUsed 18 = .ok (.aload_n 0, 1) := by decide +kernel
theorem dX0_lineWasUsed_19 : decode cX0_lineWasUsed 19 = .ok (.dup, 1) := by decide +kernel
theorem dX0_lineWasUsed_20 : decode cX0_lineWasUsed 20 = .ok (.getfield 44, 3) := by decide +kernel
theorem dX0_lineWasUsed_23 : decode cX0_lineWasUsed 23 = .ok (.iconst 1, 1) := by decide +kernel
theorem dX0_lineWasUsed_24 : decode cX0_lineWasUsed 24 = .ok (.isub, 1) := by decide +kernel
theorem dX0_lineWasUsed_25 : decode cX0_lineWasUsed 25 = .ok (.putfield 44, 3) := by decide +kernel
theorem dX0_lineWasUsed_28 : decode cX0_lineWasUsed 28 = .ok (.aload_n 0, 1) := by decide +kernel
theorem dX0_lineWasUsed_29 : decode cX0_lineWasUsed 29 = .ok (.getfield 44, 3) := by decide +kernel
theorem dX0_lineWasUsed_32 : decode cX0_lineWasUsed 32 = .ok (.iconst 1, 1) := by decide +kernel
theorem dX0_lineWasUsed_33 : decode cX0_lineWasUsed 33 = .ok (.if_icmp .ge 13, 3) := by decide +kernel
theorem dX0_lineWasUsed_36 : decode cX0_lineWasUsed 36 = .ok (.aload_n 0, 1) := by decide +kernel
theorem dX0_lineWasUsed_37 : decode cX0_lineWasUsed 37 = .ok (.iconst 0, 1) := by decide +kernel
theorem dX0_lineWasUsed_38 : decode cX0_lineWasUsed 38 = .ok (.putfield 44, 3) := by decide +kernel
theorem dX0_lineWasUsed_41 : decode cX0_lineWasUsed 41 = .ok (.aload_n 0, 1) := by decide +kernel
theorem dX0_lineWasUsed_42 : decode cX0_lineWasUsed 42 = .ok (.iconst 0, 1) := by decide +kernel
theorem dX0_lineWasUsed_43 : decode cX0_lineWasUsed 43 = .ok (.putfield 38, 3) := by decide +kernel
theorem dX0_lineWasUsed_46 : decode cX0_lineWasUsed 46 = .ok (.return_, 1) := by decide +kernel
theorem dX0_release_0 : decode cX0_release 0 = .ok (.aload_n 0, 1) := by decide +kernel
theorem dX0_release_1 : decode cX0_release 1 = .ok (.getfield 41, 3) := by decide +kernel
theorem dX0_release_4 : decode cX0_release 4 = .ok (.istore_n 1, 1) := by decide +kernel
theorem dX0_release_5 : decode cX0_release 5 = .ok (.aload_n 0, 1) := by decide +kernel
theorem dX0_release_6 : decode cX0_release 6 = .ok (.dup, 1) := by decide +kernel
theorem dX0_release_7 : decode cX0_release 7 = .ok (.getfield 62, 3) := by decide +kernel
theorem dX0_release_10 : decode cX0_release 10 = .ok (.iload_n 1, 1) := by decide +kernel
theorem dX0_release_11 : decode cX0_release 11 = .ok (.iadd, 1) := by decide +kernel
theorem dX0_release_12 : decode cX0_release 12 = .ok (.putfield 62, 3) := by decide +kernel
theorem dX0_release_15 : decode cX0_release 15 = .ok (.aload_n 0, 1) := by decide +kernel
theorem dX0_release_16 : decode cX0_release 16 = .ok (.iconst 0, 1) := by decide +kernel
theorem dX0_release_17 : decode cX0_release 17 = .ok (.putfield 41, 3) := by decide +kernel
theorem dX0_release_20 : decode cX0_release 20 = .ok (.aload_n 0, 1) := by decide +kernel
theorem dX0_release_21 : decode cX0_release 21 = .ok (.iconst 0, 1) := by decide +kernel
theorem dX0_release_22 : decode cX0_release 22 = .ok (.putfield 44, 3) := by decide +kernel
theorem dX0_release_25 : decode cX0_release 25 = .ok (.aload_n 0, 1) := by decide +kernel
theorem dX0_release_26 : decode cX0_release 26 = .ok (.iconst 0, 1) := by decide +kernel
theorem dX0_release_27 : decode cX0_release 27 = .ok (.putfield 38, 3) := by decide +kernel
theorem dX0_release_30 : decode cX0_release 30 = .ok (.iload_n 1, 1) := by decide +kernel
theorem dX0_release_31 : decode cX0_release 31 = .ok (.ireturn, 1) := by decide +kernel
theorem dX0_learn_0 : decode cX0_learn 0 = .ok (.aload_n 0, 1) := by decide +kernel
theorem dX0_learn_1 : decode cX0_learn 1 = .ok (.iconst 0, 1) := by decide +kernel
theorem dX0_learn_2 : decode cX0_learn 2 = .ok (.putfield 68, 3) := by decide +kernel
theorem dX0_learn_5 : decode cX0_learn 5 = .ok (.aload_n 0, 1) := by decide +kernel
theorem dX0_learn_6 : decode cX0_learn 6 = .ok (.getfield 28, 3) := by decide +kernel
theorem dX0_learn_9 : decode cX0_learn 9 = .ok (.lookupswitch 49 #[(0, 27), (1, 36)], 27) := by decide +kernel
theorem dX0_learn_36 : decode cX0_learn 36 = .ok (.aload_n 0, 1) := by decide +kernel
theorem dX0_learn_37 : decode cX0_learn 37 = .ok (.iload_n 1, 1) := by decide +kernel
theorem dX0_learn_38 : decode cX0_learn 38 = .ok (.iload_n 2, 1) := by decide +kernel
theorem dX0_learn_39 : decode cX0_learn 39 = .ok (.invokevirtual 78, 3) := by decide +kernel
theorem dX0_learn_42 : decode cX0_learn 42 = .ok (.goto 26, 3) := by decide +kernel
theorem dX0_learn_45 : decode cX0_learn 45 = .ok (.iload_n 3, 1) := by decide +kernel
theorem dX0_learn_46 : decode cX0_learn 46 = .ok (.iconst 1, 1) := by decide +kernel
theorem dX0_learn_47 : decode cX0_learn 47 = .ok (.if_icmp .eq 21, 3) := by decide +kernel
theorem dX0_learn_50 : decode cX0_learn 50 = .ok (.aload_n 0, 1) := by decide +kernel
theorem dX0_learn_51 : decode cX0_learn 51 = .ok (.iload_n 2, 1) := by decide +kernel
theorem dX0_learn_52 : decode cX0_learn 52 = .ok (.invokevirtual 81, 3) := by decide +kernel
theorem dX0_learn_55 : decode cX0_learn 55 = .ok (.goto 13, 3) := by decide +kernel
theorem dX0_learn_58 : decode cX0_learn 58 = .ok (.iload_n 3, 1) := by decide +kernel
theorem dX0_learn_59 : decode cX0_learn 59 = .ok (.ifCond .ne 9, 3) := by decide +kernel
theorem dX0_learn_62 : decode cX0_learn 62 = .ok (.aload_n 0, 1) := by decide +kernel
theorem dX0_learn_63 : decode cX0_learn 63 = .ok (.iload_n 2, 1) := by decide +kernel
theorem dX0_learn_64 : decode cX0_learn 64 = .ok (.iconst 1, 1) := by decide +kernel
theorem dX0_learn_65 : decode cX0_learn 65 = .ok (.invokevirtual 85, 3) := by decide +kernel
theorem dX0_learn_68 : decode cX0_learn 68 = .ok (.return_, 1) := by decide +kernel
theorem dX0_learnStride_0 : decode cX0_learnStride 0 = .ok (.aload_n 0, 1) := by decide +kernel
theorem dX0_learnStride_1 : decode cX0_learnStride 1 = .ok (.getfield 14, 3) := by decide +kernel
theorem dX0_learnStride_4 : decode cX0_learnStride 4 = .ok (.iload_n 1, 1) := by decide +kernel
theorem dX0_learnStride_5 : decode cX0_learnStride 5 = .ok (.invokevirtual 88, 3) := by decide +kernel
theorem dX0_learnStride_8 : decode cX0_learnStride 8 = .ok (.istore_n 3, 1) := by decide +kernel
theorem dX0_learnStride_9 : decode cX0_learnStride 9 = .ok (.iload_n 3, 1) := by decide +kernel
theorem dX0_learnStride_10 : decode cX0_learnStride 10 = .ok (.ifCond .ge 11, 3) := by decide +kernel
theorem dX0_learnStride_13 : decode cX0_learnStride 13 = .ok (.aload_n 0, 1) := by decide +kernel
theorem dX0_learnStride_14 : decode cX0_learnStride 14 = .ok (.iconst 4, 1) := by decide +kernel
theorem dX0_learnStride_15 : decode cX0_learnStride 15 = .ok (.iload_n 1, 1) := by decide +kernel
theorem dX0_learnStride_16 : decode cX0_learnStride 16 = .ok (.iload_n 2, 1) := by decide +kernel
theorem dX0_learnStride_17 : decode cX0_learnStride 17 = .ok (.invokevirtual 92, 3) := by decide +kernel
theorem dX0_learnStride_20 : decode cX0_learnStride 20 = .ok (.return_, 1) := by decide +kernel
theorem dX0_learnStride_21 : decode cX0_learnStride 21 = .ok (.iload_n 2, 1) := by decide +kernel
theorem dX0_learnStride_22 : decode cX0_learnStride 22 = .ok (.aload_n 0, 1) := by decide +kernel
theorem dX0_learnStride_23 : decode cX0_learnStride 23 = .ok (.getfield 14, 3) := by decide +kernel
theorem dX0_learnStride_26 : decode cX0_learnStride 26 = .ok (.iload_n 3, 1) := by decide +kernel
theorem dX0_learnStride_27 : decode cX0_learnStride 27 = .ok (.iconst 1, 1) := by decide +kernel
theorem dX0_learnStride_28 : decode cX0_learnStride 28 = .ok (.invokevirtual 95, 3) := by decide +kernel
theorem dX0_learnStride_31 : decode cX0_learnStride 31 = .ok (.isub, 1) := by decide +kernel
theorem dX0_learnStride_32 : decode cX0_learnStride 32 = .ok (.istore 4, 2) := by decide +kernel
theorem dX0_learnStride_34 : decode cX0_learnStride 34 = .ok (.aload_n 0, 1) := by decide +kernel
theorem dX0_learnStride_35 : decode cX0_learnStride 35 = .ok (.getfield 14, 3) := by decide +kernel
theorem dX0_learnStride_38 : decode cX0_learnStride 38 = .ok (.iload_n 3, 1) := by decide +kernel
theorem dX0_learnStride_39 : decode cX0_learnStride 39 = .ok (.iconst 2, 1) := by decide +kernel
theorem dX0_learnStride_40 : decode cX0_learnStride 40 = .ok (.invokevirtual 95, 3) := by decide +kernel
theorem dX0_learnStride_43 : decode cX0_learnStride 43 = .ok (.istore 5, 2) := by decide +kernel
theorem dX0_learnStride_45 : decode cX0_learnStride 45 = .ok (.aload_n 0, 1) := by decide +kernel
theorem dX0_learnStride_46 : decode cX0_learnStride 46 = .ok (.getfield 14, 3) := by decide +kernel
theorem dX0_learnStride_49 : decode cX0_learnStride 49 = .ok (.iload_n 3, 1) := by decide +kernel
theorem dX0_learnStride_50 : decode cX0_learnStride 50 = .ok (.iconst 3, 1) := by decide +kernel
theorem dX0_learnStride_51 : decode cX0_learnStride 51 = .ok (.invokevirtual 95, 3) := by decide +kernel
theorem dX0_learnStride_54 : decode cX0_learnStride 54 = .ok (.istore 6, 2) := by decide +kernel
theorem dX0_learnStride_56 : decode cX0_learnStride 56 = .ok (.iload 4, 2) := by decide +kernel
theorem dX0_learnStride_58 : decode cX0_learnStride 58 = .ok (.iload 5, 2) := by decide +kernel
theorem dX0_learnStride_60 : decode cX0_learnStride 60 = .ok (.if_icmp .ne 21, 3) := by decide +kernel
theorem dX0_learnStride_63 : decode cX0_learnStride 63 = .ok (.iload 4, 2) := by decide +kernel
theorem dX0_learnStride_65 : decode cX0_learnStride 65 = .ok (.ifCond .eq 16, 3) := by decide +kernel
theorem dX0_learnStride_68 : decode cX0_learnStride 68 = .ok (.iconst 3, 1) := by decide +kernel
theorem dX0_learnStride_69 : decode cX0_learnStride 69 = .ok (.iload 6, 2) := by decide +kernel
theorem dX0_learnStride_71 : decode cX0_learnStride 71 = .ok (.iconst 1, 1) := by decide +kernel
theorem dX0_learnStride_72 : decode cX0_learnStride 72 = .ok (.iadd, 1) := by decide +kernel
theorem dX0_learnStride_73 : decode cX0_learnStride 73 = .ok (.invokestatic 99, 3) := by decide +kernel
theorem dX0_learnStride_76 : decode cX0_learnStride 76 = .ok (.istore 6, 2) := by decide +kernel
theorem dX0_learnStride_78 : decode cX0_learnStride 78 = .ok (.goto 27, 3) := by decide +kernel
theorem dX0_learnStride_81 : decode cX0_learnStride 81 = .ok (.iconst 0, 1) := by decide +kernel
theorem dX0_learnStride_82 : decode cX0_learnStride 82 = .ok (.iload 6, 2) := by decide +kernel
theorem dX0_learnStride_84 : decode cX0_learnStride 84 = .ok (.iconst 1, 1) := by decide +kernel
theorem dX0_learnStride_85 : decode cX0_learnStride 85 = .ok (.isub, 1) := by decide +kernel
theorem dX0_learnStride_86 : decode cX0_learnStride 86 = .ok (.invokestatic 104, 3) := by decide +kernel
theorem dX0_learnStride_89 : decode cX0_learnStride 89 = .ok (.istore 6, 2) := by decide +kernel
theorem dX0_learnStride_91 : decode cX0_learnStride 91 = .ok (.iload 6, 2) := by decide +kernel
theorem dX0_learnStride_93 : decode cX0_learnStride 93 = .ok (.ifCond .ne 8, 3) := by decide +kernel
theorem dX0_learnStride_96 : decode cX0_learnStride 96 = .ok (.iload 4, 2) := by decide +kernel
theorem dX0_learnStride_98 : decode cX0_learnStride 98 = .ok (.goto 5, 3) := by decide +kernel
theorem dX0_learnStride_101 : decode cX0_learnStride 101 = .ok (.iload 5, 2) := by decide +kernel
theorem dX0_learnStride_103 : decode cX0_learnStride 103 = .ok (.istore 5, 2) := by decide +kernel
theorem dX0_learnStride_105 : decode cX0_learnStride 105 = .ok (.aload_n 0, 1) := by decide +kernel
theorem dX0_learnStride_106 : decode cX0_learnStride 106 = .ok (.iload_n 3, 1) := by decide +kernel
theorem dX0_learnStride_107 : decode cX0_learnStride 107 = .ok (.iload_n 2, 1) := by decide +kernel
theorem dX0_learnStride_108 : decode cX0_learnStride 108 = .ok (.iload 5, 2) := by decide +kernel
theorem dX0_learnStride_110 : decode cX0_learnStride 110 = .ok (.iload 6, 2) := by decide +kernel
theorem dX0_learnStride_112 : decode cX0_learnStride 112 = .ok (.invokevirtual 107, 3) := by decide +kernel
theorem dX0_learnStride_115 : decode cX0_learnStride 115 = .ok (.return_, 1) := by decide +kernel
theorem dX0_learnStream_0 : decode cX0_learnStream 0 = .ok (.aload_n 0, 1) := by decide +kernel
theorem dX0_learnStream_1 : decode cX0_learnStream 1 = .ok (.iload_n 1, 1) := by decide +kernel
theorem dX0_learnStream_2 : decode cX0_learnStream 2 = .ok (.invokevirtual 111, 3) := by decide +kernel
theorem dX0_learnStream_5 : decode cX0_learnStream 5 = .ok (.istore_n 2, 1) := by decide +kernel
theorem dX0_learnStream_6 : decode cX0_learnStream 6 = .ok (.iload_n 2, 1) := by decide +kernel
theorem dX0_learnStream_7 : decode cX0_learnStream 7 = .ok (.ifCond .ge 12, 3) := by decide +kernel
theorem dX0_learnStream_10 : decode cX0_learnStream 10 = .ok (.aload_n 0, 1) := by decide +kernel
theorem dX0_learnStream_11 : decode cX0_learnStream 11 = .ok (.iconst 3, 1) := by decide +kernel
theorem dX0_learnStream_12 : decode cX0_learnStream 12 = .ok (.ldc 114, 2) := by decide +kernel
theorem dX0_learnStream_14 : decode cX0_learnStream 14 = .ok (.iload_n 1, 1) := by decide +kernel
theorem dX0_learnStream_15 : decode cX0_learnStream 15 = .ok (.invokevirtual 92, 3) := by decide +kernel
theorem dX0_learnStream_18 : decode cX0_learnStream 18 = .ok (.return_, 1) := by decide +kernel
theorem dX0_learnStream_19 : decode cX0_learnStream 19 = .ok (.iload_n 1, 1) := by decide +kernel
theorem dX0_learnStream_20 : decode cX0_learnStream 20 = .ok (.aload_n 0, 1) := by decide +kernel
theorem dX0_learnStream_21 : decode cX0_learnStream 21 = .ok (.getfield 14, 3) := by decide +kernel
theorem dX0_learnStream_24 : decode cX0_learnStream 24 = .ok (.iload_n 2, 1) := by decide +kernel
theorem dX0_learnStream_25 : decode cX0_learnStream 25 = .ok (.iconst 1, 1) := by decide +kernel
theorem dX0_learnStream_26 : decode cX0_learnStream 26 = .ok (.invokevirtual 95, 3) := by decide +kernel
theorem dX0_learnStream_29 : decode cX0_learnStream 29 = .ok (.if_icmp .le 7, 3) := by decide +kernel
theorem dX0_learnStream_32 : decode cX0_learnStream 32 = .ok (.iconst 1, 1) := by decide +kernel
theorem dX0_learnStream_33 : decode cX0_learnStream 33 = .ok (.goto 4, 3) := by decide +kernel
theorem dX0_learnStream_36 : decode cX0_learnStream 36 = .ok (.iconst (-1), 1) := by decide +kernel
theorem dX0_learnStream_37 : decode cX0_learnStream 37 = .ok (.istore_n 3, 1) := by decide +kernel
theorem dX0_learnStream_38 : decode cX0_learnStream 38 = .ok (.iconst 1, 1) := by decide +kernel
theorem dX0_learnStream_39 : decode cX0_learnStream 39 = .ok (.istore 4, 2) := by decide +kernel
theorem dX0_learnStream_41 : decode cX0_learnStream 41 = .ok (.iload_n 3, 1) := by decide +kernel
theorem dX0_learnStream_42 : decode cX0_learnStream 42 = .ok (.aload_n 0, 1) := by decide +kernel
theorem dX0_learnStream_43 : decode cX0_learnStream 43 = .ok (.getfield 14, 3) := by decide +kernel
theorem dX0_learnStream_46 : decode cX0_learnStream 46 = .ok (.iload_n 2, 1) := by decide +kernel
theorem dX0_learnStream_47 : decode cX0_learnStream 47 = .ok (.iconst 2, 1) := by decide +kernel
theorem dX0_learnStream_48 : decode cX0_learnStream 48 = .ok (.invokevirtual 95, 3) := by decide +kernel
theorem dX0_learnStream_51 : decode cX0_learnStream 51 = .ok (.if_icmp .ne 21, 3) := by decide +kernel
theorem dX0_learnStream_54 : decode cX0_learnStream 54 = .ok (.bipush 9, 2) := by decide +kernel
theorem dX0_learnStream_56 : decode cX0_learnStream 56 = .ok (.aload_n 0, 1) := by decide +kernel
theorem dX0_learnStream_57 : decode cX0_learnStream 57 = .ok (.getfield 14, 3) := by decide +kernel
theorem dX0_learnStream_60 : decode cX0_learnStream 60 = .ok (.iload_n 2, 1) := by decide +kernel
theorem dX0_learnStream_61 : decode cX0_learnStream 61 = .ok (.iconst 3, 1) := by decide +kernel
theorem dX0_learnStream_62 : decode cX0_learnStream 62 = .ok (.invokevirtual 95, 3) := by decide +kernel
theorem dX0_learnStream_65 : decode cX0_learnStream 65 = .ok (.iconst 1, 1) := by decide +kernel
theorem dX0_learnStream_66 : decode cX0_learnStream 66 = .ok (.iadd, 1) := by decide +kernel
theorem dX0_learnStream_67 : decode cX0_learnStream 67 = .ok (.invokestatic 99, 3) := by decide +kernel
theorem dX0_learnStream_70 : decode cX0_learnStream 70 = .ok (.istore 4, 2) := by decide +kernel
theorem dX0_learnStream_72 : decode cX0_learnStream 72 = .ok (.aload_n 0, 1) := by decide +kernel
theorem dX0_learnStream_73 : decode cX0_learnStream 73 = .ok (.iload_n 2, 1) := by decide +kernel
theorem dX0_learnStream_74 : decode cX0_learnStream 74 = .ok (.iload_n 1, 1) := by decide +kernel
theorem dX0_learnStream_75 : decode cX0_learnStream 75 = .ok (.iload_n 3, 1) := by decide +kernel
theorem dX0_learnStream_76 : decode cX0_learnStream 76 = .ok (.iload 4, 2) := by decide +kernel
theorem dX0_learnStream_78 : decode cX0_learnStream 78 = .ok (.invokevirtual 107, 3) := by decide +kernel
theorem dX0_learnStream_81 : decode cX0_learnStream 81 = .ok (.return_, 1) := by decide +kernel
theorem dX0_streamNear_0 : decode cX0_streamNear 0 = .ok (.aload_n 0, 1) := by decide +kernel
theorem dX0_streamNear_1 : decode cX0_streamNear 1 = .ok (.getfield 14, 3) := by decide +kernel
theorem dX0_streamNear_4 : decode cX0_streamNear 4 = .ok (.getfield 71, 3) := by decide +kernel
theorem dX0_streamNear_7 : decode cX0_streamNear 7 = .ok (.iconst 1, 1) := by decide +kernel
theorem dX0_streamNear_8 : decode cX0_streamNear 8 = .ok (.isub, 1) := by decide +kernel
theorem dX0_streamNear_9 : decode cX0_streamNear 9 = .ok (.istore_n 2, 1) := by decide +kernel
theorem dX0_streamNear_10 : decode cX0_streamNear 10 = .ok (.iload_n 2, 1) := by decide +kernel
theorem dX0_streamNear_11 : decode cX0_streamNear 11 = .ok (.ifCond .lt 36, 3) := by decide +kernel
theorem dX0_streamNear_14 : decode cX0_streamNear 14 = .ok (.iload_n 1, 1) := by decide +kernel
theorem dX0_streamNear_15 : decode cX0_streamNear 15 = .ok (.aload_n 0, 1) := by decide +kernel
theorem dX0_streamNear_16 : decode cX0_streamNear 16 = .ok (.getfield 14, 3) := by decide +kernel
theorem dX0_streamNear_19 : decode cX0_streamNear 19 = .ok (.iload_n 2, 1) := by decide +kernel
theorem dX0_streamNear_20 : decode cX0_streamNear 20 = .ok (.iconst 1, 1) := by decide +kernel
theorem dX0_streamNear_21 : decode cX0_streamNear 21 = .ok (.invokevirtual 95, 3) := by decide +kernel
theorem dX0_streamNear_24 : decode cX0_streamNear 24 = .ok (.isub, 1) := by decide +kernel
theorem dX0_streamNear_25 : decode cX0_streamNear 25 = .ok (.invokestatic 115, 3) := by decide +kernel
theorem dX0_streamNear_28 : decode cX0_streamNear 28 = .ok (.istore_n 3, 1) := by decide +kernel
theorem dX0_streamNear_29 : decode cX0_streamNear 29 = .ok (.iload_n 3, 1) := by decide +kernel
theorem dX0_streamNear_30 : decode cX0_streamNear 30 = .ok (.iconst 1, 1) := by decide +kernel
theorem dX0_streamNear_31 : decode cX0_streamNear 31 = .ok (.if_icmp .lt 10, 3) := by decide +kernel
theorem dX0_streamNear_34 : decode cX0_streamNear 34 = .ok (.iload_n 3, 1) := by decide +kernel
theorem dX0_streamNear_35 : decode cX0_streamNear 35 = .ok (.iconst 4, 1) := by decide +kernel
theorem dX0_streamNear_36 : decode cX0_streamNear 36 = .ok (.if_icmp .gt 5, 3) := by decide +kernel
theorem dX0_streamNear_39 : decode cX0_streamNear 39 = .ok (.iload_n 2, 1) := by decide +kernel
theorem dX0_streamNear_40 : decode cX0_streamNear 40 = .ok (.ireturn, 1) := by decide +kernel
theorem dX0_streamNear_41 : decode cX0_streamNear 41 = .ok (.iinc 2 (-1), 3) := by decide +kernel
theorem dX0_streamNear_44 : decode cX0_streamNear 44 = .ok (.goto (-34), 3) := by decide +kernel
theorem dX0_streamNear_47 : decode cX0_streamNear 47 = .ok (.ldc 114, 2) := by decide +kernel
theorem dX0_streamNear_49 : decode cX0_streamNear 49 = .ok (.ireturn, 1) := by decide +kernel
theorem dX0_addRow_0 : decode cX0_addRow 0 = .ok (.aload_n 0, 1) := by decide +kernel
theorem dX0_addRow_1 : decode cX0_addRow 1 = .ok (.getfield 14, 3) := by decide +kernel
theorem dX0_addRow_4 : decode cX0_addRow 4 = .ok (.iload_n 1, 1) := by decide +kernel
theorem dX0_addRow_5 : decode cX0_addRow 5 = .ok (.invokevirtual 118, 3) := by decide +kernel
theorem dX0_addRow_8 : decode cX0_addRow 8 = .ok (.istore 4, 2) := by decide +kernel
theorem dX0_addRow_10 : decode cX0_addRow 10 = .ok (.aload_n 0, 1) := by decide +kernel
theorem dX0_addRow_11 : decode cX0_addRow 11 = .ok (.getfield 14, 3) := by decide +kernel
theorem dX0_addRow_14 : decode cX0_addRow 14 = .ok (.iload 4, 2) := by decide +kernel
theorem dX0_addRow_16 : decode cX0_addRow 16 = .ok (.iconst 0, 1) := by decide +kernel
theorem dX0_addRow_17 : decode cX0_addRow 17 = .ok (.iload_n 2, 1) := by decide +kernel
theorem dX0_addRow_18 : decode cX0_addRow 18 = .ok (.invokevirtual 121, 3) := by decide +kernel
theorem dX0_addRow_21 : decode cX0_addRow 21 = .ok (.aload_n 0, 1) := by decide +kernel
theorem dX0_addRow_22 : decode cX0_addRow 22 = .ok (.getfield 14, 3) := by decide +kernel
theorem dX0_addRow_25 : decode cX0_addRow 25 = .ok (.iload 4, 2) := by decide +kernel
theorem dX0_addRow_27 : decode cX0_addRow 27 = .ok (.iconst 1, 1) := by decide +kernel
theorem dX0_addRow_28 : decode cX0_addRow 28 = .ok (.iload_n 3, 1) := by decide +kernel
theorem dX0_addRow_29 : decode cX0_addRow 29 = .ok (.invokevirtual 121, 3) := by decide +kernel
theorem dX0_addRow_32 : decode cX0_addRow 32 = .ok (.aload_n 0, 1) := by decide +kernel
theorem dX0_addRow_33 : decode cX0_addRow 33 = .ok (.getfield 14, 3) := by decide +kernel
theorem dX0_addRow_36 : decode cX0_addRow 36 = .ok (.iload 4, 2) := by decide +kernel
theorem dX0_addRow_38 : decode cX0_addRow 38 = .ok (.iconst 2, 1) := by decide +kernel
theorem dX0_addRow_39 : decode cX0_addRow 39 = .ok (.iconst 0, 1) := by decide +kernel
theorem dX0_addRow_40 : decode cX0_addRow 40 = .ok (.invokevirtual 121, 3) := by decide +kernel
theorem dX0_addRow_43 : decode cX0_addRow 43 = .ok (.aload_n 0, 1) := by decide +kernel
theorem dX0_addRow_44 : decode cX0_addRow 44 = .ok (.getfield 14, 3) := by decide +kernel
theorem dX0_addRow_47 : decode cX0_addRow 47 = .ok (.iload 4, 2) := by decide +kernel
theorem dX0_addRow_49 : decode cX0_addRow 49 = .ok (.iconst 3, 1) := by decide +kernel
theorem dX0_addRow_50 : decode cX0_addRow 50 = .ok (.iconst 0, 1) := by decide +kernel
theorem dX0_addRow_51 : decode cX0_addRow 51 = .ok (.invokevirtual 121, 3) := by decide +kernel
theorem dX0_addRow_54 : decode cX0_addRow 54 = .ok (.return_, 1) := by decide +kernel
theorem dX0_updateRow_0 : decode cX0_updateRow 0 = .ok (.aload_n 0, 1) := by decide +kernel
theorem dX0_updateRow_1 : decode cX0_updateRow 1 = .ok (.getfield 14, 3) := by decide +kernel
theorem dX0_updateRow_4 : decode cX0_updateRow 4 = .ok (.iload_n 1, 1) := by decide +kernel
theorem dX0_updateRow_5 : decode cX0_updateRow 5 = .ok (.iconst 1, 1) := by decide +kernel
theorem dX0_updateRow_6 : decode cX0_updateRow 6 = .ok (.iload_n 2, 1) := by decide +kernel
theorem dX0_updateRow_7 : decode cX0_updateRow 7 = .ok (.invokevirtual 121, 3) := by decide +kernel
theorem dX0_updateRow_10 : decode cX0_updateRow 10 = .ok (.aload_n 0, 1) := by decide +kernel
theorem dX0_updateRow_11 : decode cX0_updateRow 11 = .ok (.getfield 14, 3) := by decide +kernel
theorem dX0_updateRow_14 : decode cX0_updateRow 14 = .ok (.iload_n 1, 1) := by decide +kernel
theorem dX0_updateRow_15 : decode cX0_updateRow 15 = .ok (.iconst 2, 1) := by decide +kernel
theorem dX0_updateRow_16 : decode cX0_updateRow 16 = .ok (.iload_n 3, 1) := by decide +kernel
theorem dX0_updateRow_17 : decode cX0_updateRow 17 = .ok (.invokevirtual 121, 3) := by decide +kernel
theorem dX0_updateRow_20 : decode cX0_updateRow 20 = .ok (.aload_n 0, 1) := by decide +kernel
theorem dX0_updateRow_21 : decode cX0_updateRow 21 = .ok (.getfield 14, 3) := by decide +kernel
theorem dX0_updateRow_24 : decode cX0_updateRow 24 = .ok (.iload_n 1, 1) := by decide +kernel
theorem dX0_updateRow_25 : decode cX0_updateRow 25 = .ok (.iconst 3, 1) := by decide +kernel
theorem dX0_updateRow_26 : decode cX0_updateRow 26 = .ok (.iload 4, 2) := by decide +kernel
theorem dX0_updateRow_28 : decode cX0_updateRow 28 = .ok (.invokevirtual 121, 3) := by decide +kernel
theorem dX0_updateRow_31 : decode cX0_updateRow 31 = .ok (.aload_n 0, 1) := by decide +kernel
theorem dX0_updateRow_32 : decode cX0_updateRow 32 = .ok (.getfield 14, 3) := by decide +kernel
theorem dX0_updateRow_35 : decode cX0_updateRow 35 = .ok (.iload_n 1, 1) := by decide +kernel
theorem dX0_updateRow_36 : decode cX0_updateRow 36 = .ok (.invokevirtual 124, 3) := by decide +kernel
theorem dX0_updateRow_39 : decode cX0_updateRow 39 = .ok (.iload 4, 2) := by decide +kernel
theorem dX0_updateRow_41 : decode cX0_updateRow 41 = .ok (.iconst 2, 1) := by decide +kernel
theorem dX0_updateRow_42 : decode cX0_updateRow 42 = .ok (.if_icmp .lt 9, 3) := by decide +kernel
theorem dX0_updateRow_45 : decode cX0_updateRow 45 = .ok (.aload_n 0, 1) := by decide +kernel
theorem dX0_updateRow_46 : decode cX0_updateRow 46 = .ok (.iload_n 2, 1) := by decide +kernel
theorem dX0_updateRow_47 : decode cX0_updateRow 47 = .ok (.iload_n 3, 1) := by decide +kernel
theorem dX0_updateRow_48 : decode cX0_updateRow 48 = .ok (.invokevirtual 85, 3) := by decide +kernel
theorem dX0_updateRow_51 : decode cX0_updateRow 51 = .ok (.return_, 1) := by decide +kernel
theorem dX0_wish_0 : decode cX0_wish 0 = .ok (.aload_n 0, 1) := by decide +kernel
theorem dX0_wish_1 : decode cX0_wish 1 = .ok (.invokevirtual 127, 3) := by decide +kernel
theorem dX0_wish_4 : decode cX0_wish 4 = .ok (.istore_n 3, 1) := by decide +kernel
theorem dX0_wish_5 : decode cX0_wish 5 = .ok (.iconst 1, 1) := by decide +kernel
theorem dX0_wish_6 : decode cX0_wish 6 = .ok (.istore 4, 2) := by decide +kernel
theorem dX0_wish_8 : decode cX0_wish 8 = .ok (.iload 4, 2) := by decide +kernel
theorem dX0_wish_10 : decode cX0_wish 10 = .ok (.iload_n 3, 1) := by decide +kernel
theorem dX0_wish_11 : decode cX0_wish 11 = .ok (.if_icmp .gt 62, 3) := by decide +kernel
theorem dX0_wish_14 : decode cX0_wish 14 = .ok (.aload_n 0, 1) := by decide +kernel
theorem dX0_wish_15 : decode cX0_wish 15 = .ok (.getfield 68, 3) := by decide +kernel
theorem dX0_wish_18 : decode cX0_wish 18 = .ok (.aload_n 0, 1) := by decide +kernel
theorem dX0_wish_19 : decode cX0_wish 19 = .ok (.getfield 20, 3) := by decide +kernel
theorem dX0_wish_22 : decode cX0_wish 22 = .ok (.arraylength, 1) := by decide +kernel
theorem dX0_wish_23 : decode cX0_wish 23 = .ok (.if_icmp .ge 50, 3) := by decide +kernel
theorem dX0_wish_26 : decode cX0_wish 26 = .ok (.iload_n 1, 1) := by decide +kernel
theorem dX0_wish_27 : decode cX0_wish 27 = .ok (.iload 4, 2) := by decide +kernel
theorem dX0_wish_29 : decode cX0_wish 29 = .ok (.iload_n 2, 1) := by decide +kernel
theorem dX0_wish_30 : decode cX0_wish 30 = .ok (.imul, 1) := by decide +kernel
theorem dX0_wish_31 : decode cX0_wish 31 = .ok (.iadd, 1) := by decide +kernel
theorem dX0_wish_32 : decode cX0_wish 32 = .ok (.istore 5, 2) := by decide +kernel
theorem dX0_wish_34 : decode cX0_wish 34 = .ok (.iload 5, 2) := by decide +kernel
theorem dX0_wish_36 : decode cX0_wish 36 = .ok (.iconst 0, 1) := by decide +kernel
theorem dX0_wish_37 : decode cX0_wish 37 = .ok (.sipush 9999, 3) := by decide +kernel
theorem dX0_wish_40 : decode cX0_wish 40 = .ok (.invokestatic 131, 3) := by decide +kernel
theorem dX0_wish_43 : decode cX0_wish 43 = .ok (.ifCond .ne 24, 3) := by decide +kernel
theorem dX0_wish_46 : decode cX0_wish 46 = .ok (.aload_n 0, 1) := by decide +kernel
theorem dX0_wish_47 : decode cX0_wish 47 = .ok (.getfield 20, 3) := by decide +kernel
theorem dX0_wish_50 : decode cX0_wish 50 = .ok (.aload_n 0, 1) := by decide +kernel
theorem dX0_wish_51 : decode cX0_wish 51 = .ok (.getfield 68, 3) := by decide +kernel
theorem dX0_wish_54 : decode cX0_wish 54 = .ok (.iload 5, 2) := by decide +kernel
theorem dX0_wish_56 : decode cX0_wish 56 = .ok (.iastore, 1) := by decide +kernel
theorem dX0_wish_57 : decode cX0_wish 57 = .ok (.aload_n 0, 1) := by decide +kernel
theorem dX0_wish_58 : decode cX0_wish 58 = .ok (.dup, 1) := by decide +kernel
theorem dX0_wish_59 : decode cX0_wish 59 = .ok (.getfield 68, 3) := by decide +kernel
theorem dX0_wish_62 : decode cX0_wish 62 = .ok (.iconst 1, 1) := by decide +kernel
theorem dX0_wish_63 : decode cX0_wish 63 = .ok (.iadd, 1) := by decide +kernel
theorem dX0_wish_64 : decode cX0_wish 64 = .ok (.putfield 68, 3) := by decide +kernel
theorem dX0_wish_67 : decode cX0_wish 67 = .ok (.iinc 4 1, 3) := by decide +kernel
theorem dX0_wish_70 : decode cX0_wish 70 = .ok (.goto (-62), 3) := by decide +kernel
theorem dX0_wish_73 : decode cX0_wish 73 = .ok (.return_, 1) := by decide +kernel
theorem dX0_wishAt_0 : decode cX0_wishAt 0 = .ok (.iload_n 1, 1) := by decide +kernel
theorem dX0_wishAt_1 : decode cX0_wishAt 1 = .ok (.ifCond .lt 29, 3) := by decide +kernel
theorem dX0_wishAt_4 : decode cX0_wishAt 4 = .ok (.iload_n 1, 1) := by decide +kernel
theorem dX0_wishAt_5 : decode cX0_wishAt 5 = .ok (.aload_n 0, 1) := by decide +kernel
theorem dX0_wishAt_6 : decode cX0_wishAt 6 = .ok (.getfield 68, 3) := by decide +kernel
theorem dX0_wishAt_9 : decode cX0_wishAt 9 = .ok (.if_icmp .ge 21, 3) := by decide +kernel
theorem dX0_wishAt_12 : decode cX0_wishAt 12 = .ok (.iload_n 1, 1) := by decide +kernel
theorem dX0_wishAt_13 : decode cX0_wishAt 13 = .ok (.aload_n 0, 1) := by decide +kernel
theorem dX0_wishAt_14 : decode cX0_wishAt 14 = .ok (.getfield 20, 3) := by decide +kernel
theorem dX0_wishAt_17 : decode cX0_wishAt 17 = .ok (.arraylength, 1) := by decide +kernel
theorem dX0_wishAt_18 : decode cX0_wishAt 18 = .ok (.if_icmp .ge 12, 3) := by decide +kernel
theorem dX0_wishAt_21 : decode cX0_wishAt 21 = .ok (.aload_n 0, 1) := by decide +kernel
theorem dX0_wishAt_22 : decode cX0_wishAt 22 = .ok (.getfield 20, 3) := by decide +kernel
theorem dX0_wishAt_25 : decode cX0_wishAt 25 = .ok (.iload_n 1, 1) := by decide +kernel
theorem dX0_wishAt_26 : decode cX0_wishAt 26 = .ok (.iaload, 1) := by decide +kernel
theorem dX0_wishAt_27 : decode cX0_wishAt 27 = .ok (.goto 5, 3) := by decide +kernel
theorem dX0_wishAt_30 : decode cX0_wishAt 30 = .ok (.ldc 114, 2) := by decide +kernel
theorem dX0_wishAt_32 : decode cX0_wishAt 32 = .ok (.ireturn, 1) := by decide +kernel
theorem dX1_init_0 : decode cX1_init 0 = .ok (.aload_n 0, 1) := by decide +kernel
theorem dX1_init_1 : decode cX1_init 1 = .ok (.invokespecial 3, 3) := by decide +kernel
theorem dX1_init_4 : decode cX1_init 4 = .ok (.aload_n 0, 1) := by decide +kernel
theorem dX1_init_5 : decode cX1_init 5 = .ok (.iconst 1, 1) := by decide +kernel
theorem dX1_init_6 : decode cX1_init 6 = .ok (.iload_n 1, 1) := by decide +kernel
theorem dX1_init_7 : decode cX1_init 7 = .ok (.invokestatic 9, 3) := by decide +kernel
theorem dX1_init_10 : decode cX1_init 10 = .ok (.putfield 15, 3) := by decide +kernel
theorem dX1_init_13 : decode cX1_init 13 = .ok (.aload_n 0, 1) := by decide +kernel
theorem dX1_init_14 : decode cX1_init 14 = .ok (.iconst 1, 1) := by decide +kernel
theorem dX1_init_15 : decode cX1_init 15 = .ok (.iload_n 2, 1) := by decide +kernel
theorem dX1_init_16 : decode cX1_init 16 = .ok (.invokestatic 9, 3) := by decide +kernel
theorem dX1_init_19 : decode cX1_init 19 = .ok (.putfield 21, 3) := by decide +kernel
theorem dX1_init_22 : decode cX1_init 22 = .ok (.aload_n 0, 1) := by decide +kernel
theorem dX1_init_23 : decode cX1_init 23 = .ok (.aload_n 0, 1) := by decide +kernel
theorem dX1_init_24 : decode cX1_init 24 = .ok (.getfield 15, 3) := by decide +kernel
theorem dX1_init_27 : decode cX1_init 27 = .ok (.aload_n 0, 1) := by decide +kernel
theorem dX1_init_28 : decode cX1_init 28 = .ok (.getfield 21, 3) := by decide +kernel
theorem dX1_init_31 : decode cX1_init 31 = .ok (.imul, 1) := by decide +kernel
theorem dX1_init_32 : decode cX1_init 32 = .ok (.newarray .int, 2) := by decide +kernel
theorem dX1_init_34 : decode cX1_init 34 = .ok (.putfield 24, 3) := by decide +kernel
theorem dX1_init_37 : decode cX1_init 37 = .ok (.aload_n 0, 1) := by decide +kernel
theorem dX1_init_38 : decode cX1_init 38 = .ok (.iconst 0, 1) := by decide +kernel
theorem dX1_init_39 : decode cX1_init 39 = .ok (.putfield 28, 3) := by decide +kernel
theorem dX1_init_42 : decode cX1_init 42 = .ok (.return_, 1) := by decide +kernel
theorem dX1_copyFrom_0 : decode cX1_copyFrom 0 = .ok (.aload_n 0, 1) := by decide +kernel
theorem dX1_copyFrom_1 : decode cX1_copyFrom 1 = .ok (.aload_n 1, 1) := by decide +kernel
theorem dX1_copyFrom_2 : decode cX1_copyFrom 2 = .ok (.getfield 28, 3) := by decide +kernel
theorem dX1_copyFrom_5 : decode cX1_copyFrom 5 = .ok (.aload_n 0, 1) := by decide +kernel
theorem dX1_copyFrom_6 : decode cX1_copyFrom 6 = .ok (.getfield 15, 3) := by decide +kernel
theorem dX1_copyFrom_9 : decode cX1_copyFrom 9 = .ok (.invokestatic 31, 3) := by decide +kernel
theorem dX1_copyFrom_12 : decode cX1_copyFrom 12 = .ok (.putfield 28, 3) := by decide +kernel
theorem dX1_copyFrom_15 : decode cX1_copyFrom 15 = .ok (.iconst 0, 1) := by decide +kernel
theorem dX1_copyFrom_16 : decode cX1_copyFrom 16 = .ok (.istore_n 2, 1) := by decide +kernel
theorem dX1_copyFrom_17 : decode cX1_copyFrom 17 = .ok (.iload_n 2, 1) := by decide +kernel
theorem dX1_copyFrom_18 : decode cX1_copyFrom 18 = .ok (.aload_n 0, 1) := by decide +kernel
theorem dX1_copyFrom_19 : decode cX1_copyFrom 19 = .ok (.getfield 24, 3) := by decide +kernel
theorem dX1_copyFrom_22 : decode cX1_copyFrom 22 = .ok (.arraylength, 1) := by decide +kernel
theorem dX1_copyFrom_23 : decode cX1_copyFrom 23 = .ok (.if_icmp .ge 30, 3) := by decide +kernel
theorem dX1_copyFrom_26 : decode cX1_copyFrom 26 = .ok (.iload_n 2, 1) := by decide +kernel
theorem dX1_copyFrom_27 : decode cX1_copyFrom 27 = .ok (.aload_n 1, 1) := by decide +kernel
theorem dX1_copyFrom_28 : decode cX1_copyFrom 28 = .ok (.getfield 24, 3) := by decide +kernel
theorem dX1_copyFrom_31 : decode cX1_copyFrom 31 = .ok (.arraylength, 1) := by decide +kernel
theorem dX1_copyFrom_32 : decode cX1_copyFrom 32 = .ok (.if_icmp .ge 21, 3) := by decide +kernel
theorem dX1_copyFrom_35 : decode cX1_copyFrom 35 = .ok (.aload_n 0, 1) := by decide +kernel
theorem dX1_copyFrom_36 : decode cX1_copyFrom 36 = .ok (.getfield 24, 3) := by decide +kernel
theorem dX1_copyFrom_39 : decode cX1_copyFrom 39 = .ok (.iload_n 2, 1) := by decide +kernel
theorem dX1_copyFrom_40 : decode cX1_copyFrom 40 = .ok (.aload_n 1, 1) := by decide +kernel
theorem dX1_copyFrom_41 : decode cX1_copyFrom 41 = .ok (.getfield 24, 3) := by decide +kernel
theorem dX1_copyFrom_44 : decode cX1_copyFrom 44 = .ok (.iload_n 2, 1) := by decide +kernel
theorem dX1_copyFrom_45 : decode cX1_copyFrom 45 = .ok (.iaload, 1) := by decide +kernel
theorem dX1_copyFrom_46 : decode cX1_copyFrom 46 = .ok (.iastore, 1) := by decide +kernel
theorem dX1_copyFrom_47 : decode cX1_copyFrom 47 = .ok (.iinc 2 1, 3) := by decide +kernel
theorem dX1_copyFrom_50 : decode cX1_copyFrom 50 = .ok (.goto (-33), 3) := by decide +kernel
theorem dX1_copyFrom_53 : decode cX1_copyFrom 53 = .ok (.return_, 1) := by decide +kernel
theorem dX1_holds_0 : decode cX1_holds 0 = .ok (.iload_n 1, 1) := by decide +kernel
theorem dX1_holds_1 : decode cX1_holds 1 = .ok (.ifCond .lt 27, 3) := by decide +kernel
theorem dX1_holds_4 : decode cX1_holds 4 = .ok (.iload_n 1, 1) := by decide +kernel
theorem dX1_holds_5 : decode cX1_holds 5 = .ok (.aload_n 0, 1) := by decide +kernel
theorem dX1_holds_6 : decode cX1_holds 6 = .ok (.getfield 28, 3) := by decide +kernel
theorem dX1_holds_9 : decode cX1_holds 9 = .ok (.if_icmp .ge 19, 3) := by decide +kernel
theorem dX1_holds_12 : decode cX1_holds 12 = .ok (.iload_n 2, 1) := by decide +kernel
theorem dX1_holds_13 : decode cX1_holds 13 = .ok (.ifCond .lt 15, 3) := by decide +kernel
theorem dX1_holds_16 : decode cX1_holds 16 = .ok (.iload_n 2, 1) := by decide +kernel
theorem dX1_holds_17 : decode cX1_holds 17 = .ok (.aload_n 0, 1) := by decide +kernel
theorem dX1_holds_18 : decode cX1_holds 18 = .ok (.getfield 21, 3) := by decide +kernel
theorem dX1_holds_21 : decode cX1_holds 21 = .ok (.if_icmp .ge 7, 3) := by decide +kernel
theorem dX1_holds_24 : decode cX1_holds 24 = .ok (.iconst 1, 1) := by decide +kernel
theorem dX1_holds_25 : decode cX1_holds 25 = .ok (.goto 4, 3) := by decide +kernel
theorem dX1_holds_28 : decode cX1_holds 28 = .ok (.iconst 0, 1) := by decide +kernel
theorem dX1_holds_29 : decode cX1_holds 29 = .ok (.ireturn, 1) := by decide +kernel
theorem dX1_get_0 : decode cX1_get 0 = .ok (.aload_n 0, 1) := by decide +kernel
theorem dX1_get_1 : decode cX1_get 1 = .ok (.iload_n 1, 1) := by decide +kernel
theorem dX1_get_2 : decode cX1_get 2 = .ok (.iload_n 2, 1) := by decide +kernel
theorem dX1_get_3 : decode cX1_get 3 = .ok (.invokevirtual 34, 3) := by decide +kernel
theorem dX1_get_6 : decode cX1_get 6 = .ok (.ifCond .eq 19, 3) := by decide +kernel
theorem dX1_get_9 : decode cX1_get 9 = .ok (.aload_n 0, 1) := by decide +kernel
theorem dX1_get_10 : decode cX1_get 10 = .ok (.getfield 24, 3) := by decide +kernel
theorem dX1_get_13 : decode cX1_get 13 = .ok (.iload_n 1, 1) := by decide +kernel
theorem dX1_get_14 : decode cX1_get 14 = .ok (.aload_n 0, 1) := by decide +kernel
theorem dX1_get_15 : decode cX1_get 15 = .ok (.getfield 21, 3) := by decide +kernel
theorem dX1_get_18 : decode cX1_get 18 = .ok (.imul, 1) := by decide +kernel
theorem dX1_get_19 : decode cX1_get 19 = .ok (.iload_n 2, 1) := by decide +kernel
theorem dX1_get_20 : decode cX1_get 20 = .ok (.iadd, 1) := by decide +kernel
theorem dX1_get_21 : decode cX1_get 21 = .ok (.iaload, 1) := by decide +kernel
theorem dX1_get_22 : decode cX1_get 22 = .ok (.goto 5, 3) := by decide +kernel
theorem dX1_get_25 : decode cX1_get 25 = .ok (.ldc 38, 2) := by decide +kernel
theorem dX1_get_27 : decode cX1_get 27 = .ok (.ireturn, 1) := by decide +kernel
theorem dX1_put_0 : decode cX1_put 0 = .ok (.aload_n 0, 1) := by decide +kernel
theorem dX1_put_1 : decode cX1_put 1 = .ok (.iload_n 1, 1) := by decide +kernel
theorem dX1_put_2 : decode cX1_put 2 = .ok (.iload_n 2, 1) := by decide +kernel
theorem dX1_put_3 : decode cX1_put 3 = .ok (.invokevirtual 34, 3) := by decide +kernel
theorem dX1_put_6 : decode cX1_put 6 = .ok (.ifCond .eq 17, 3) := by decide +kernel
theorem dX1_put_9 : decode cX1_put 9 = .ok (.aload_n 0, 1) := by decide +kernel
theorem dX1_put_10 : decode cX1_put 10 = .ok (.getfield 24, 3) := by decide +kernel
theorem dX1_put_13 : decode cX1_put 13 = .ok (.iload_n 1, 1) := by decide +kernel
theorem dX1_put_14 : decode cX1_put 14 = .ok (.aload_n 0, 1) := by decide +kernel
theorem dX1_put_15 : decode cX1_put 15 = .ok (.getfield 21, 3) := by decide +kernel
theorem dX1_put_18 : decode cX1_put 18 = .ok (.imul, 1) := by decide +kernel
theorem dX1_put_19 : decode cX1_put 19 = .ok (.iload_n 2, 1) := by decide +kernel
theorem dX1_put_20 : decode cX1_put 20 = .ok (.iadd, 1) := by decide +kernel
theorem dX1_put_21 : decode cX1_put 21 = .ok (.iload_n 3, 1) := by decide +kernel
theorem dX1_put_22 : decode cX1_put 22 = .ok (.iastore, 1) := by decide +kernel
theorem dX1_put_23 : decode cX1_put 23 = .ok (.return_, 1) := by decide +kernel
theorem dX1_find_0 : decode cX1_find 0 = .ok (.iconst 0, 1) := by decide +kernel
theorem dX1_find_1 : decode cX1_find 1 = .ok (.istore_n 2, 1) := by decide +kernel
theorem dX1_find_2 : decode cX1_find 2 = .ok (.iload_n 2, 1) := by decide +kernel
theorem dX1_find_3 : decode cX1_find 3 = .ok (.aload_n 0, 1) := by decide +kernel
theorem dX1_find_4 : decode cX1_find 4 = .ok (.getfield 28, 3) := by decide +kernel
theorem dX1_find_7 : decode cX1_find 7 = .ok (.if_icmp .ge 26, 3) := by decide +kernel
theorem dX1_find_10 : decode cX1_find 10 = .ok (.aload_n 0, 1) := by decide +kernel
theorem dX1_find_11 : decode cX1_find 11 = .ok (.getfield 24, 3) := by decide +kernel
theorem dX1_find_14 : decode cX1_find 14 = .ok (.iload_n 2, 1) := by decide +kernel
theorem dX1_find_15 : decode cX1_find 15 = .ok (.aload_n 0, 1) := by decide +kernel
theorem dX1_find_16 : decode cX1_find 16 = .ok (.getfield 21, 3) := by decide +kernel
theorem dX1_find_19 : decode cX1_find 19 = .ok (.imul, 1) := by decide +kernel
theorem dX1_find_20 : decode cX1_find 20 = .ok (.iaload, 1) := by decide +kernel
theorem dX1_find_21 : decode cX1_find 21 = .ok (.iload_n 1, 1) := by decide +kernel
theorem dX1_find_22 : decode cX1_find 22 = .ok (.if_icmp .ne 5, 3) := by decide +kernel
theorem dX1_find_25 : decode cX1_find 25 = .ok (.iload_n 2, 1) := by decide +kernel
theorem dX1_find_26 : decode cX1_find 26 = .ok (.ireturn, 1) := by decide +kernel
theorem dX1_find_27 : decode cX1_find 27 = .ok (.iinc 2 1, 3) := by decide +kernel
theorem dX1_find_30 : decode cX1_find 30 = .ok (.goto (-28), 3) := by decide +kernel
theorem dX1_find_33 : decode cX1_find 33 = .ok (.ldc 38, 2) := by decide +kernel
theorem dX1_find_35 : decode cX1_find 35 = .ok (.ireturn, 1) := by decide +kernel
theorem dX1_touch_0 : decode cX1_touch 0 = .ok (.iload_n 1, 1) := by decide +kernel
theorem dX1_touch_1 : decode cX1_touch 1 = .ok (.ifCond .lt 11, 3) := by decide +kernel
theorem dX1_touch_4 : decode cX1_touch 4 = .ok (.iload_n 1, 1) := by decide +kernel
theorem dX1_touch_5 : decode cX1_touch 5 = .ok (.aload_n 0, 1) := by decide +kernel
theorem dX1_touch_6 : decode cX1_touch 6 = .ok (.getfield 28, 3) := by decide +kernel
theorem dX1_touch_9 : decode cX1_touch 9 = .ok (.if_icmp .lt 4, 3) := by decide +kernel
theorem dX1_touch_12 : decode cX1_touch 12 = .ok (.return_, 1) := by decide +kernel
theorem dX1_touch_13 : decode cX1_touch 13 = .ok (.iconst 0, 1) := by decide +kernel
theorem dX1_touch_14 : decode cX1_touch 14 = .ok (.istore_n 2, 1) := by decide +kernel
theorem dX1_touch_15 : decode cX1_touch 15 = .ok (.iload_n 2, 1) := by decide +kernel
theorem dX1_touch_16 : decode cX1_touch 16 = .ok (.aload_n 0, 1) := by decide +kernel
theorem dX1_touch_17 : decode cX1_touch 17 = .ok (.getfield 21, 3) := by decide +kernel
theorem dX1_touch_20 : decode cX1_touch 20 = .ok (.if_icmp .ge 92, 3) := by decide +kernel
theorem dX1_touch_23 : decode cX1_touch 23 = .ok (.aload_n 0, 1) := by decide +kernel
theorem dX1_touch_24 : decode cX1_touch 24 = .ok (.getfield 24, 3) := by decide +kernel
theorem dX1_touch_27 : decode cX1_touch 27 = .ok (.iload_n 1, 1) := by decide +kernel
theorem dX1_touch_28 : decode cX1_touch 28 = .ok (.aload_n 0, 1) := by decide +kernel
theorem dX1_touch_29 : decode cX1_touch 29 = .ok (.getfield 21, 3) := by decide +kernel
theorem dX1_touch_32 : decode cX1_touch 32 = .ok (.imul, 1) := by decide +kernel
theorem dX1_touch_33 : decode cX1_touch 33 = .ok (.iload_n 2, 1) := by decide +kernel
theorem dX1_touch_34 : decode cX1_touch 34 = .ok (.iadd, 1) := by decide +kernel
theorem dX1_touch_35 : decode cX1_touch 35 = .ok (.iaload, 1) := by decide +kernel
theorem dX1_touch_36 : decode cX1_touch 36 = .ok (.istore_n 3, 1) := by decide +kernel
theorem dX1_touch_37 : decode cX1_touch 37 = .ok (.iload_n 1, 1) := by decide +kernel
theorem dX1_touch_38 : decode cX1_touch 38 = .ok (.istore 4, 2) := by decide +kernel
theorem dX1_touch_40 : decode cX1_touch 40 = .ok (.iload 4, 2) := by decide +kernel
theorem dX1_touch_42 : decode cX1_touch 42 = .ok (.iconst 1, 1) := by decide +kernel
theorem dX1_touch_43 : decode cX1_touch 43 = .ok (.iadd, 1) := by decide +kernel
theorem dX1_touch_44 : decode cX1_touch 44 = .ok (.aload_n 0, 1) := by decide +kernel
theorem dX1_touch_45 : decode cX1_touch 45 = .ok (.getfield 28, 3) := by decide +kernel
theorem dX1_touch_48 : decode cX1_touch 48 = .ok (.if_icmp .ge 39, 3) := by decide +kernel
theorem dX1_touch_51 : decode cX1_touch 51 = .ok (.aload_n 0, 1) := by decide +kernel
theorem dX1_touch_52 : decode cX1_touch 52 = .ok (.getfield 24, 3) := by decide +kernel
theorem dX1_touch_55 : decode cX1_touch 55 = .ok (.iload 4, 2) := by decide +kernel
theorem dX1_touch_57 : decode cX1_touch 57 = .ok (.aload_n 0, 1) := by decide +kernel
theorem dX1_touch_58 : decode cX1_touch 58 = .ok (.getfield 21, 3) := by decide +kernel
theorem dX1_touch_61 : decode cX1_touch 61 = .ok (.imul, 1) := by decide +kernel
theorem dX1_touch_62 : decode cX1_touch 62 = .ok (.iload_n 2, 1) := by decide +kernel
theorem dX1_touch_63 : decode cX1_touch 63 = .ok (.iadd, 1) := by decide +kernel
theorem dX1_touch_64 : decode cX1_touch 64 = .ok (.aload_n 0, 1) := by decide +kernel
theorem dX1_touch_65 : decode cX1_touch 65 = .ok (.getfield 24, 3) := by decide +kernel
theorem dX1_touch_68 : decode cX1_touch 68 = .ok (.iload 4, 2) := by decide +kernel
theorem dX1_touch_70 : decode cX1_touch 70 = .ok (.iconst 1, 1) := by decide +kernel
theorem dX1_touch_71 : decode cX1_touch 71 = .ok (.iadd, 1) := by decide +kernel
theorem dX1_touch_72 : decode cX1_touch 72 = .ok (.aload_n 0, 1) := by decide +kernel
theorem dX1_touch_73 : decode cX1_touch 73 = .ok (.getfield 21, 3) := by decide +kernel
theorem dX1_touch_76 : decode cX1_touch 76 = .ok (.imul, 1) := by decide +kernel
theorem dX1_touch_77 : decode cX1_touch 77 = .ok (.iload_n 2, 1) := by decide +kernel
theorem dX1_touch_78 : decode cX1_touch 78 = .ok (.iadd, 1) := by decide +kernel
theorem dX1_touch_79 : decode cX1_touch 79 = .ok (.iaload, 1) := by decide +kernel
theorem dX1_touch_80 : decode cX1_touch 80 = .ok (.iastore, 1) := by decide +kernel
theorem dX1_touch_81 : decode cX1_touch 81 = .ok (.iinc 4 1, 3) := by decide +kernel
theorem dX1_touch_84 : decode cX1_touch 84 = .ok (.goto (-44), 3) := by decide +kernel
theorem dX1_touch_87 : decode cX1_touch 87 = .ok (.aload_n 0, 1) := by decide +kernel
theorem dX1_touch_88 : decode cX1_touch 88 = .ok (.getfield 24, 3) := by decide +kernel
theorem dX1_touch_91 : decode cX1_touch 91 = .ok (.aload_n 0, 1) := by decide +kernel
theorem dX1_touch_92 : decode cX1_touch 92 = .ok (.getfield 28, 3) := by decide +kernel
theorem dX1_touch_95 : decode cX1_touch 95 = .ok (.iconst 1, 1) := by decide +kernel
theorem dX1_touch_96 : decode cX1_touch 96 = .ok (.isub, 1) := by decide +kernel
theorem dX1_touch_97 : decode cX1_touch 97 = .ok (.aload_n 0, 1) := by decide +kernel
theorem dX1_touch_98 : decode cX1_touch 98 = .ok (.getfield 21, 3) := by decide +kernel
theorem dX1_touch_101 : decode cX1_touch 101 = .ok (.imul, 1) := by decide +kernel
theorem dX1_touch_102 : decode cX1_touch 102 = .ok (.iload_n 2, 1) := by decide +kernel
theorem dX1_touch_103 : decode cX1_touch 103 = .ok (.iadd, 1) := by decide +kernel
theorem dX1_touch_104 : decode cX1_touch 104 = .ok (.iload_n 3, 1) := by decide +kernel
theorem dX1_touch_105 : decode cX1_touch 105 = .ok (.iastore, 1) := by decide +kernel
theorem dX1_touch_106 : decode cX1_touch 106 = .ok (.iinc 2 1, 3) := by decide +kernel
theorem dX1_touch_109 : decode cX1_touch 109 = .ok (.goto (-94), 3) := by decide +kernel
theorem dX1_touch_112 : decode cX1_touch 112 = .ok (.return_, 1) := by decide +kernel
theorem dX1_remove_0 : decode cX1_remove 0 = .ok (.iload_n 1, 1) := by decide +kernel
theorem dX1_remove_1 : decode cX1_remove 1 = .ok (.ifCond .lt 26, 3) := by decide +kernel
theorem dX1_remove_4 : decode cX1_remove 4 = .ok (.iload_n 1, 1) := by decide +kernel
theorem dX1_remove_5 : decode cX1_remove 5 = .ok (.aload_n 0, 1) := by decide +kernel
theorem dX1_remove_6 : decode cX1_remove 6 = .ok (.getfield 28, 3) := by decide +kernel
theorem dX1_remove_9 : decode cX1_remove 9 = .ok (.if_icmp .ge 18, 3) := by decide +kernel
theorem dX1_remove_12 : decode cX1_remove 12 = .ok (.aload_n 0, 1) := by decide +kernel
theorem dX1_remove_13 : decode cX1_remove 13 = .ok (.iload_n 1, 1) := by decide +kernel
theorem dX1_remove_14 : decode cX1_remove 14 = .ok (.invokevirtual 39, 3) := by decide +kernel
theorem dX1_remove_17 : decode cX1_remove 17 = .ok (.aload_n 0, 1) := by decide +kernel
theorem dX1_remove_18 : decode cX1_remove 18 = .ok (.dup, 1) := by decide +kernel
theorem dX1_remove_19 : decode cX1_remove 19 = .ok (.getfield 28, 3) := by decide +kernel
theorem dX1_remove_22 : decode cX1_remove 22 = .ok (.iconst 1, 1) := by decide +kernel
theorem dX1_remove_23 : decode cX1_remove 23 = .ok (.isub, 1) := by decide +kernel
theorem dX1_remove_24 : decode cX1_remove 24 = .ok (.putfield 28, 3) := by decide +kernel
theorem dX1_remove_27 : decode cX1_remove 27 = .ok (.return_, 1) := by decide +kernel
theorem dX1_open_0 : decode cX1_open 0 = .ok (.aload_n 0, 1) := by decide +kernel
theorem dX1_open_1 : decode cX1_open 1 = .ok (.getfield 28, 3) := by decide +kernel
theorem dX1_open_4 : decode cX1_open 4 = .ok (.iload_n 1, 1) := by decide +kernel
theorem dX1_open_5 : decode cX1_open 5 = .ok (.if_icmp .ge 27, 3) := by decide +kernel
theorem dX1_open_8 : decode cX1_open 8 = .ok (.aload_n 0, 1) := by decide +kernel
theorem dX1_open_9 : decode cX1_open 9 = .ok (.getfield 28, 3) := by decide +kernel
theorem dX1_open_12 : decode cX1_open 12 = .ok (.aload_n 0, 1) := by decide +kernel
theorem dX1_open_13 : decode cX1_open 13 = .ok (.getfield 15, 3) := by decide +kernel
theorem dX1_open_16 : decode cX1_open 16 = .ok (.if_icmp .ge 16, 3) := by decide +kernel
theorem dX1_open_19 : decode cX1_open 19 = .ok (.aload_n 0, 1) := by decide +kernel
theorem dX1_open_20 : decode cX1_open 20 = .ok (.dup, 1) := by decide +kernel
theorem dX1_open_21 : decode cX1_open 21 = .ok (.getfield 28, 3) := by decide +kernel
theorem dX1_open_24 : decode cX1_open 24 = .ok (.iconst 1, 1) := by decide +kernel
theorem dX1_open_25 : decode cX1_open 25 = .ok (.iadd, 1) := by decide +kernel
theorem dX1_open_26 : decode cX1_open 26 = .ok (.putfield 28, 3) := by decide +kernel
theorem dX1_open_29 : decode cX1_open 29 = .ok (.goto 8, 3) := by decide +kernel
theorem dX1_open_32 : decode cX1_open 32 = .ok (.aload_n 0, 1) := by decide +kernel
theorem dX1_open_33 : decode cX1_open 33 = .ok (.iconst 0, 1) := by decide +kernel
theorem dX1_open_34 : decode cX1_open 34 = .ok (.invokevirtual 39, 3) := by decide +kernel
theorem dX1_open_37 : decode cX1_open 37 = .ok (.aload_n 0, 1) := by decide +kernel
theorem dX1_open_38 : decode cX1_open 38 = .ok (.getfield 28, 3) := by decide +kernel
theorem dX1_open_41 : decode cX1_open 41 = .ok (.iconst 1, 1) := by decide +kernel
theorem dX1_open_42 : decode cX1_open 42 = .ok (.isub, 1) := by decide +kernel
theorem dX1_open_43 : decode cX1_open 43 = .ok (.ireturn, 1) := by decide +kernel
theorem dX2_init_0 : decode cX2_init 0 = .ok (.aload_n 0, 1) := by decide +kernel
theorem dX2_init_1 : decode cX2_init 1 = .ok (.invokespecial 3, 3) := by decide +kernel
theorem dX2_init_4 : decode cX2_init 4 = .ok (.aload_n 0, 1) := by decide +kernel
theorem dX2_init_5 : decode cX2_init 5 = .ok (.bipush 8, 2) := by decide +kernel
theorem dX2_init_7 : decode cX2_init 7 = .ok (.anewarray 9, 3) := by decide +kernel
theorem dX2_init_10 : decode cX2_init 10 = .ok (.putfield 11, 3) := by decide +kernel
theorem dX2_init_13 : decode cX2_init 13 = .ok (.iconst 0, 1) := by decide +kernel
theorem dX2_init_14 : decode cX2_init 14 = .ok (.istore_n 1, 1) := by decide +kernel
theorem dX2_init_15 : decode cX2_init 15 = .ok (.iload_n 1, 1) := by decide +kernel
theorem dX2_init_16 : decode cX2_init 16 = .ok (.bipush 8, 2) := by decide +kernel
theorem dX2_init_18 : decode cX2_init 18 = .ok (.if_icmp .ge 24, 3) := by decide +kernel
theorem dX2_init_21 : decode cX2_init 21 = .ok (.aload_n 0, 1) := by decide +kernel
theorem dX2_init_22 : decode cX2_init 22 = .ok (.getfield 11, 3) := by decide +kernel
theorem dX2_init_25 : decode cX2_init 25 = .ok (.iload_n 1, 1) := by decide +kernel
theorem dX2_init_26 : decode cX2_init 26 = .ok (.new 9, 3) := by decide +kernel
theorem dX2_init_29 : decode cX2_init 29 = .ok (.dup, 1) := by decide +kernel
theorem dX2_init_30 : decode cX2_init 30 = .ok (.iconst 4, 1) := by decide +kernel
theorem dX2_init_31 : decode cX2_init 31 = .ok (.iconst 3, 1) := by decide +kernel
theorem dX2_init_32 : decode cX2_init 32 = .ok (.invokespecial 17, 3) := by decide +kernel
theorem dX2_init_35 : decode cX2_init 35 = .ok (.aastore, 1) := by decide +kernel
theorem dX2_init_36 : decode cX2_init 36 = .ok (.iinc 1 1, 3) := by decide +kernel
theorem dX2_init_39 : decode cX2_init 39 = .ok (.goto (-24), 3) := by decide +kernel
theorem dX2_init_42 : decode cX2_init 42 = .ok (.aload_n 0, 1) := by decide +kernel
theorem dX2_init_43 : decode cX2_init 43 = .ok (.new 9, 3) := by decide +kernel
theorem dX2_init_46 : decode cX2_init 46 = .ok (.dup, 1) := by decide +kernel
theorem dX2_init_47 : decode cX2_init 47 = .ok (.bipush 8, 2) := by decide +kernel
theorem dX2_init_49 : decode cX2_init 49 = .ok (.iconst 2, 1) := by decide +kernel
theorem dX2_init_50 : decode cX2_init 50 = .ok (.invokespecial 17, 3) := by decide +kernel
theorem dX2_init_53 : decode cX2_init 53 = .ok (.putfield 20, 3) := by decide +kernel
theorem dX2_init_56 : decode cX2_init 56 = .ok (.aload_n 0, 1) := by decide +kernel
theorem dX2_init_57 : decode cX2_init 57 = .ok (.bipush 6, 2) := by decide +kernel
theorem dX2_init_59 : decode cX2_init 59 = .ok (.anewarray 24, 3) := by decide +kernel
theorem dX2_init_62 : decode cX2_init 62 = .ok (.putfield 26, 3) := by decide +kernel
theorem dX2_init_65 : decode cX2_init 65 = .ok (.iconst 0, 1) := by decide +kernel
theorem dX2_init_66 : decode cX2_init 66 = .ok (.istore_n 1, 1) := by decide +kernel
theorem dX2_init_67 : decode cX2_init 67 = .ok (.iload_n 1, 1) := by decide +kernel
theorem dX2_init_68 : decode cX2_init 68 = .ok (.bipush 6, 2) := by decide +kernel
theorem dX2_init_70 : decode cX2_init 70 = .ok (.if_icmp .ge 22, 3) := by decide +kernel
theorem dX2_init_73 : decode cX2_init 73 = .ok (.aload_n 0, 1) := by decide +kernel
theorem dX2_init_74 : decode cX2_init 74 = .ok (.getfield 26, 3) := by decide +kernel
theorem dX2_init_77 : decode cX2_init 77 = .ok (.iload_n 1, 1) := by decide +kernel
theorem dX2_init_78 : decode cX2_init 78 = .ok (.new 24, 3) := by decide +kernel
theorem dX2_init_81 : decode cX2_init 81 = .ok (.dup, 1) := by decide +kernel
theorem dX2_init_82 : decode cX2_init 82 = .ok (.invokespecial 30, 3) := by decide +kernel
theorem dX2_init_85 : decode cX2_init 85 = .ok (.aastore, 1) := by decide +kernel
theorem dX2_init_86 : decode cX2_init 86 = .ok (.iinc 1 1, 3) := by decide +kernel
theorem dX2_init_89 : decode cX2_init 89 = .ok (.goto (-22), 3) := by decide +kernel
theorem dX2_init_92 : decode cX2_init 92 = .ok (.aload_n 0, 1) := by decide +kernel
theorem dX2_init_93 : decode cX2_init 93 = .ok (.new 9, 3) := by decide +kernel
theorem dX2_init_96 : decode cX2_init 96 = .ok (.dup, 1) := by decide +kernel
theorem dX2_init_97 : decode cX2_init 97 = .ok (.bipush 12, 2) := by decide +kernel
theorem dX2_init_99 : decode cX2_init 99 = .ok (.iconst 5, 1) := by decide +kernel
theorem dX2_init_100 : decode cX2_init 100 = .ok (.invokespecial 17, 3) := by decide +kernel
theorem dX2_init_103 : decode cX2_init 103 = .ok (.putfield 31, 3) := by decide +kernel
theorem dX2_init_106 : decode cX2_init 106 = .ok (.aload_n 0, 1) := by decide +kernel
theorem dX2_init_107 : decode cX2_init 107 = .ok (.iconst 4, 1) := by decide +kernel
theorem dX2_init_108 : decode cX2_init 108 = .ok (.putfield 34, 3) := by decide +kernel
theorem dX2_init_111 : decode cX2_init 111 = .ok (.aload_n 0, 1) := by decide +kernel
theorem dX2_init_112 : decode cX2_init 112 = .ok (.iconst 2, 1) := by decide +kernel
theorem dX2_init_113 : decode cX2_init 113 = .ok (.putfield 38, 3) := by decide +kernel
theorem dX2_init_116 : decode cX2_init 116 = .ok (.aload_n 0, 1) := by decide +kernel
theorem dX2_init_117 : decode cX2_init 117 = .ok (.iconst 0, 1) := by decide +kernel
theorem dX2_init_118 : decode cX2_init 118 = .ok (.putfield 41, 3) := by decide +kernel
theorem dX2_init_121 : decode cX2_init 121 = .ok (.aload_n 0, 1) := by decide +kernel
theorem dX2_init_122 : decode cX2_init 122 = .ok (.iconst 3, 1) := by decide +kernel
theorem dX2_init_123 : decode cX2_init 123 = .ok (.putfield 44, 3) := by decide +kernel
theorem dX2_init_126 : decode cX2_init 126 = .ok (.aload_n 0, 1) := by decide +kernel
theorem dX2_init_127 : decode cX2_init 127 = .ok (.iconst 0, 1) := by decide +kernel
theorem dX2_init_128 : decode cX2_init 128 = .ok (.putfield 47, 3) := by decide +kernel
theorem dX2_init_131 : decode cX2_init 131 = .ok (.aload_n 0, 1) := by decide +kernel
theorem dX2_init_132 : decode cX2_init 132 = .ok (.iconst 0, 1) := by decide +kernel
theorem dX2_init_133 : decode cX2_init 133 = .ok (.putfield 50, 3) := by decide +kernel
theorem dX2_init_136 : decode cX2_init 136 = .ok (.aload_n 0, 1) := by decide +kernel
theorem dX2_init_137 : decode cX2_init 137 = .ok (.iconst 0, 1) := by decide +kernel
theorem dX2_init_138 : decode cX2_init 138 = .ok (.putfield 53, 3) := by decide +kernel
theorem dX2_init_141 : decode cX2_init 141 = .ok (.aload_n 0, 1) := by decide +kernel
theorem dX2_init_142 : decode cX2_init 142 = .ok (.iconst 0, 1) := by decide +kernel
theorem dX2_init_143 : decode cX2_init 143 = .ok (.putfield 56, 3) := by decide +kernel
theorem dX2_init_146 : decode cX2_init 146 = .ok (.aload_n 0, 1) := by decide +kernel
theorem dX2_init_147 : decode cX2_init 147 = .ok (.iconst 0, 1) := by decide +kernel
theorem dX2_init_148 : decode cX2_init 148 = .ok (.putfield 59, 3) := by decide +kernel
theorem dX2_init_151 : decode cX2_init 151 = .ok (.return_, 1) := by decide +kernel
theorem dX2_copyFrom_0 : decode cX2_copyFrom 0 = .ok (.iconst 0, 1) := by decide +kernel
theorem dX2_copyFrom_1 : decode cX2_copyFrom 1 = .ok (.istore_n 2, 1) := by decide +kernel
theorem dX2_copyFrom_2 : decode cX2_copyFrom 2 = .ok (.iload_n 2, 1) := by decide +kernel
theorem dX2_copyFrom_3 : decode cX2_copyFrom 3 = .ok (.bipush 8, 2) := by decide +kernel
theorem dX2_copyFrom_5 : decode cX2_copyFrom 5 = .ok (.if_icmp .ge 24, 3) := by decide +kernel
theorem dX2_copyFrom_8 : decode cX2_copyFrom 8 = .ok (.aload_n 0, 1) := by decide +kernel
theorem dX2_copyFrom_9 : decode cX2_copyFrom 9 = .ok (.getfield 11, 3) := by decide +kernel
theorem dX2_copyFrom_12 : decode cX2_copyFrom 12 = .ok (.iload_n 2, 1) := by decide +kernel
theorem dX2_copyFrom_13 : decode cX2_copyFrom 13 = .ok (.aaload, 1) := by decide +kernel
theorem dX2_copyFrom_14 : decode cX2_copyFrom 14 = .ok (.aload_n 1, 1) := by decide +kernel
theorem dX2_copyFrom_15 : decode cX2_copyFrom 15 = .ok (.getfield 11, 3) := by decide +kernel
theorem dX2_copyFrom_18 : decode cX2_copyFrom 18 = .ok (.iload_n 2, 1) := by decide +kernel
theorem dX2_copyFrom_19 : decode cX2_copyFrom 19 = .ok (.aaload, 1) := by decide +kernel
theorem dX2_copyFrom_20 : decode cX2_copyFrom 20 = .ok (.invokevirtual 62, 3) := by decide +kernel
theorem dX2_copyFrom_23 : decode cX2_copyFrom 23 = .ok (.iinc 2 1, 3) := by decide +kernel
theorem dX2_copyFrom_26 : decode cX2_copyFrom 26 = .ok (.goto (-24), 3) := by decide +kernel
theorem dX2_copyFrom_29 : decode cX2_copyFrom 29 = .ok (.aload_n 0, 1) := by decide +kernel
theorem dX2_copyFrom_30 : decode cX2_copyFrom 30 = .ok (.getfield 20, 3) := by decide +kernel
theorem dX2_copyFrom_33 : decode cX2_copyFrom 33 = .ok (.aload_n 1, 1) := by decide +kernel
theorem dX2_copyFrom_34 : decode cX2_copyFrom 34 = .ok (.getfield 20, 3) := by decide +kernel
theorem dX2_copyFrom_37 : decode cX2_copyFrom 37 = .ok (.invokevirtual 62, 3) := by decide +kernel
theorem dX2_copyFrom_40 : decode cX2_copyFrom 40 = .ok (.iconst 0, 1) := by decide +kernel
theorem dX2_copyFrom_41 : decode cX2_copyFrom 41 = .ok (.istore_n 2, 1) := by decide +kernel
theorem dX2_copyFrom_42 : decode cX2_copyFrom 42 = .ok (.iload_n 2, 1) := by decide +kernel
theorem dX2_copyFrom_43 : decode cX2_copyFrom 43 = .ok (.bipush 6, 2) := by decide +kernel
theorem dX2_copyFrom_45 : decode cX2_copyFrom 45 = .ok (.if_icmp .ge 24, 3) := by decide +kernel
theorem dX2_copyFrom_48 : decode cX2_copyFrom 48 = .ok (.aload_n 0, 1) := by decide +kernel
theorem dX2_copyFrom_49 : decode cX2_copyFrom 49 = .ok (.getfield 26, 3) := by decide +kernel
theorem dX2_copyFrom_52 : decode cX2_copyFrom 52 = .ok (.iload_n 2, 1) := by decide +kernel
theorem dX2_copyFrom_53 : decode cX2_copyFrom 53 = .ok (.aaload, 1) := by decide +kernel
theorem dX2_copyFrom_54 : decode cX2_copyFrom 54 = .ok (.aload_n 1, 1) := by decide +kernel
theorem dX2_copyFrom_55 : decode cX2_copyFrom 55 = .ok (.getfield 26, 3) := by decide +kernel
theorem dX2_copyFrom_58 : decode cX2_copyFrom 58 = .ok (.iload_n 2, 1) := by decide +kernel
theorem dX2_copyFrom_59 : decode cX2_copyFrom 59 = .ok (.aaload, 1) := by decide +kernel
theorem dX2_copyFrom_60 : decode cX2_copyFrom 60 = .ok (.invokevirtual 66, 3) := by decide +kernel
theorem dX2_copyFrom_63 : decode cX2_copyFrom 63 = .ok (.iinc 2 1, 3) := by decide +kernel
theorem dX2_copyFrom_66 : decode cX2_copyFrom 66 = .ok (.goto (-24), 3) := by decide +kernel
theorem dX2_copyFrom_69 : decode cX2_copyFrom 69 = .ok (.aload_n 0, 1) := by decide +kernel
theorem dX2_copyFrom_70 : decode cX2_copyFrom 70 = .ok (.getfield 31, 3) := by decide +kernel
theorem dX2_copyFrom_73 : decode cX2_copyFrom 73 = .ok (.aload_n 1, 1) := by decide +kernel
theorem dX2_copyFrom_74 : decode cX2_copyFrom 74 = .ok (.getfield 31, 3) := by decide +kernel
theorem dX2_copyFrom_77 : decode cX2_copyFrom 77 = .ok (.invokevirtual 62, 3) := by decide +kernel
theorem dX2_copyFrom_80 : decode cX2_copyFrom 80 = .ok (.aload_n 0, 1) := by decide +kernel
theorem dX2_copyFrom_81 : decode cX2_copyFrom 81 = .ok (.aload_n 1, 1) := by decide +kernel
theorem dX2_copyFrom_82 : decode cX2_copyFrom 82 = .ok (.getfield 34, 3) := by decide +kernel
theorem dX2_copyFrom_85 : decode cX2_copyFrom 85 = .ok (.putfield 34, 3) := by decide +kernel
theorem dX2_copyFrom_88 : decode cX2_copyFrom 88 = .ok (.aload_n 0, 1) := by decide +kernel
theorem dX2_copyFrom_89 : decode cX2_copyFrom 89 = .ok (.aload_n 1, 1) := by decide +kernel
theorem dX2_copyFrom_90 : decode cX2_copyFrom 90 = .ok (.getfield 38, 3) := by decide +kernel
theorem dX2_copyFrom_93 : decode cX2_copyFrom 93 = .ok (.putfield 38, 3) := by decide +kernel
theorem dX2_copyFrom_96 : decode cX2_copyFrom 96 = .ok (.aload_n 0, 1) := by decide +kernel
theorem dX2_copyFrom_97 : decode cX2_copyFrom 97 = .ok (.aload_n 1, 1) := by decide +kernel
theorem dX2_copyFrom_98 : decode cX2_copyFrom 98 = .ok (.getfield 41, 3) := by decide +kernel
theorem dX2_copyFrom_101 : decode cX2_copyFrom 101 = .ok (.putfield 41, 3) := by decide +kernel
theorem dX2_copyFrom_104 : decode cX2_copyFrom 104 = .ok (.aload_n 0, 1) := by decide +kernel
theorem dX2_copyFrom_105 : decode cX2_copyFrom 105 = .ok (.aload_n 1, 1) := by decide +kernel
theorem dX2_copyFrom_106 : decode cX2_copyFrom 106 = .ok (.getfield 44, 3) := by decide +kernel
theorem dX2_copyFrom_109 : decode cX2_copyFrom 109 = .ok (.putfield 44, 3) := by decide +kernel
theorem dX2_copyFrom_112 : decode cX2_copyFrom 112 = .ok (.aload_n 0, 1) := by decide +kernel
theorem dX2_copyFrom_113 : decode cX2_copyFrom 113 = .ok (.aload_n 1, 1) := by decide +kernel
theorem dX2_copyFrom_114 : decode cX2_copyFrom 114 = .ok (.getfield 47, 3) := by decide +kernel
theorem dX2_copyFrom_117 : decode cX2_copyFrom 117 = .ok (.putfield 47, 3) := by decide +kernel
theorem dX2_copyFrom_120 : decode cX2_copyFrom 120 = .ok (.aload_n 0, 1) := by decide +kernel
theorem dX2_copyFrom_121 : decode cX2_copyFrom 121 = .ok (.aload_n 1, 1) := by decide +kernel
theorem dX2_copyFrom_122 : decode cX2_copyFrom 122 = .ok (.getfield 50, 3) := by decide +kernel
theorem dX2_copyFrom_125 : decode cX2_copyFrom 125 = .ok (.putfield 50, 3) := by decide +kernel
theorem dX2_copyFrom_128 : decode cX2_copyFrom 128 = .ok (.aload_n 0, 1) := by decide +kernel
theorem dX2_copyFrom_129 : decode cX2_copyFrom 129 = .ok (.aload_n 1, 1) := by decide +kernel
theorem dX2_copyFrom_130 : decode cX2_copyFrom 130 = .ok (.getfield 53, 3) := by decide +kernel
theorem dX2_copyFrom_133 : decode cX2_copyFrom 133 = .ok (.putfield 53, 3) := by decide +kernel
theorem dX2_copyFrom_136 : decode cX2_copyFrom 136 = .ok (.aload_n 0, 1) := by decide +kernel
theorem dX2_copyFrom_137 : decode cX2_copyFrom 137 = .ok (.aload_n 1, 1) := by decide +kernel
theorem dX2_copyFrom_138 : decode cX2_copyFrom 138 = .ok (.getfield 56, 3) := by decide +kernel
theorem dX2_copyFrom_141 : decode cX2_copyFrom 141 = .ok (.putfield 56, 3) := by decide +kernel
theorem dX2_copyFrom_144 : decode cX2_copyFrom 144 = .ok (.aload_n 0, 1) := by decide +kernel
theorem dX2_copyFrom_145 : decode cX2_copyFrom 145 = .ok (.aload_n 1, 1) := by decide +kernel
theorem dX2_copyFrom_146 : decode cX2_copyFrom 146 = .ok (.getfield 59, 3) := by decide +kernel
theorem dX2_copyFrom_149 : decode cX2_copyFrom 149 = .ok (.putfield 59, 3) := by decide +kernel
theorem dX2_copyFrom_152 : decode cX2_copyFrom 152 = .ok (.return_, 1) := by decide +kernel
theorem dX2_setAt_0 : decode cX2_setAt 0 = .ok (.aload_n 0, 1) := by decide +kernel
theorem dX2_setAt_1 : decode cX2_setAt 1 = .ok (.getfield 11, 3) := by decide +kernel
theorem dX2_setAt_4 : decode cX2_setAt 4 = .ok (.iload_n 1, 1) := by decide +kernel
theorem dX2_setAt_5 : decode cX2_setAt 5 = .ok (.iconst 0, 1) := by decide +kernel
theorem dX2_setAt_6 : decode cX2_setAt 6 = .ok (.bipush 7, 2) := by decide +kernel
theorem dX2_setAt_8 : decode cX2_setAt 8 = .ok (.invokestatic 69, 3) := by decide +kernel
theorem dX2_setAt_11 : decode cX2_setAt 11 = .ok (.ifCond .eq 7, 3) := by decide +kernel
theorem dX2_setAt_14 : decode cX2_setAt 14 = .ok (.iconst 0, 1) := by decide +kernel
theorem dX2_setAt_15 : decode cX2_setAt 15 = .ok (.goto 4, 3) := by decide +kernel
theorem dX2_setAt_18 : decode cX2_setAt 18 = .ok (.iload_n 1, 1) := by decide +kernel
theorem dX2_setAt_19 : decode cX2_setAt 19 = .ok (.aaload, 1) := by decide +kernel
theorem dX2_setAt_20 : decode cX2_setAt 20 = .ok (.areturn, 1) := by decide +kernel
theorem dX2_setOf_0 : decode cX2_setOf 0 = .ok (.aload_n 0, 1) := by decide +kernel
theorem dX2_setOf_1 : decode cX2_setOf 1 = .ok (.aload_n 0, 1) := by decide +kernel
theorem dX2_setOf_2 : decode cX2_setOf 2 = .ok (.getfield 34, 3) := by decide +kernel
theorem dX2_setOf_5 : decode cX2_setOf 5 = .ok (.ifCond .le 12, 3) := by decide +kernel
theorem dX2_setOf_8 : decode cX2_setOf 8 = .ok (.iload_n 1, 1) := by decide +kernel
theorem dX2_setOf_9 : decode cX2_setOf 9 = .ok (.aload_n 0, 1) := by decide +kernel
theorem dX2_setOf_10 : decode cX2_setOf 10 = .ok (.getfield 34, 3) := by decide +kernel
theorem dX2_setOf_13 : decode cX2_setOf 13 = .ok (.irem, 1) := by decide +kernel
theorem dX2_setOf_14 : decode cX2_setOf 14 = .ok (.goto 4, 3) := by decide +kernel
theorem dX2_setOf_17 : decode cX2_setOf 17 = .ok (.iconst 0, 1) := by decide +kernel
theorem dX2_setOf_18 : decode cX2_setOf 18 = .ok (.invokevirtual 73, 3) := by decide +kernel
theorem dX2_setOf_21 : decode cX2_setOf 21 = .ok (.areturn, 1) := by decide +kernel
theorem dX2_helperAt_0 : decode cX2_helperAt 0 = .ok (.iload_n 1, 1) := by decide +kernel
theorem dX2_helperAt_1 : decode cX2_helperAt 1 = .ok (.iconst 0, 1) := by decide +kernel
theorem dX2_helperAt_2 : decode cX2_helperAt 2 = .ok (.aload_n 0, 1) := by decide +kernel
theorem dX2_helperAt_3 : decode cX2_helperAt 3 = .ok (.getfield 41, 3) := by decide +kernel
theorem dX2_helperAt_6 : decode cX2_helperAt 6 = .ok (.bipush 6, 2) := by decide +kernel
theorem dX2_helperAt_8 : decode cX2_helperAt 8 = .ok (.invokestatic 77, 3) := by decide +kernel
theorem dX2_helperAt_11 : decode cX2_helperAt 11 = .ok (.iconst 1, 1) := by decide +kernel
theorem dX2_helperAt_12 : decode cX2_helperAt 12 = .ok (.isub, 1) := by decide +kernel
theorem dX2_helperAt_13 : decode cX2_helperAt 13 = .ok (.invokestatic 69, 3) := by decide +kernel
theorem dX2_helperAt_16 : decode cX2_helperAt 16 = .ok (.ifCond .eq 7, 3) := by decide +kernel
theorem dX2_helperAt_19 : decode cX2_helperAt 19 = .ok (.aconst_null, 1) := by decide +kernel
theorem dX2_helperAt_20 : decode cX2_helperAt 20 = .ok (.goto 9, 3) := by decide +kernel
theorem dX2_helperAt_23 : decode cX2_helperAt 23 = .ok (.aload_n 0, 1) := by decide +kernel
theorem dX2_helperAt_24 : decode cX2_helperAt 24 = .ok (.getfield 26, 3) := by decide +kernel
theorem dX2_helperAt_27 : decode cX2_helperAt 27 = .ok (.iload_n 1, 1) := by decide +kernel
theorem dX2_helperAt_28 : decode cX2_helperAt 28 = .ok (.aaload, 1) := by decide +kernel
theorem dX2_helperAt_29 : decode cX2_helperAt 29 = .ok (.areturn, 1) := by decide +kernel
theorem dX2_hire_0 : decode cX2_hire 0 = .ok (.aload_n 0, 1) := by decide +kernel
theorem dX2_hire_1 : decode cX2_hire 1 = .ok (.getfield 41, 3) := by decide +kernel
theorem dX2_hire_4 : decode cX2_hire 4 = .ok (.iconst 0, 1) := by decide +kernel
theorem dX2_hire_5 : decode cX2_hire 5 = .ok (.iconst 5, 1) := by decide +kernel
theorem dX2_hire_6 : decode cX2_hire 6 = .ok (.invokestatic 69, 3) := by decide +kernel
theorem dX2_hire_9 : decode cX2_hire 9 = .ok (.ifCond .eq 6, 3) := by decide +kernel
theorem dX2_hire_12 : decode cX2_hire 12 = .ok (.ldc 83, 2) := by decide +kernel
theorem dX2_hire_14 : decode cX2_hire 14 = .ok (.ireturn, 1) := by decide +kernel
theorem dX2_hire_15 : decode cX2_hire 15 = .ok (.aload_n 0, 1) := by decide +kernel
theorem dX2_hire_16 : decode cX2_hire 16 = .ok (.getfield 26, 3) := by decide +kernel
theorem dX2_hire_19 : decode cX2_hire 19 = .ok (.aload_n 0, 1) := by decide +kernel
theorem dX2_hire_20 : decode cX2_hire 20 = .ok (.getfield 41, 3) := by decide +kernel
theorem dX2_hire_23 : decode cX2_hire 23 = .ok (.aaload, 1) := by decide +kernel
theorem dX2_hire_24 : decode cX2_hire 24 = .ok (.iload_n 1, 1) := by decide +kernel
theorem dX2_hire_25 : decode cX2_hire 25 = .ok (.iload_n 2, 1) := by decide +kernel
theorem dX2_hire_26 : decode cX2_hire 26 = .ok (.iload_n 3, 1) := by decide +kernel
theorem dX2_hire_27 : decode cX2_hire 27 = .ok (.invokevirtual 84, 3) := by decide +kernel
theorem dX2_hire_30 : decode cX2_hire 30 = .ok (.aload_n 0, 1) := by decide +kernel
theorem dX2_hire_31 : decode cX2_hire 31 = .ok (.dup, 1) := by decide +kernel
theorem dX2_hire_32 : decode cX2_hire 32 = .ok (.getfield 41, 3) := by decide +kernel
theorem dX2_hire_35 : decode cX2_hire 35 = .ok (.iconst 1, 1) := by decide +kernel
theorem dX2_hire_36 : decode cX2_hire 36 = .ok (.iadd, 1) := by decide +kernel
theorem dX2_hire_37 : decode cX2_hire 37 = .ok (.putfield 41, 3) := by decide +kernel
theorem dX2_hire_40 : decode cX2_hire 40 = .ok (.aload_n 0, 1) := by decide +kernel
theorem dX2_hire_41 : decode cX2_hire 41 = .ok (.getfield 41, 3) := by decide +kernel
theorem dX2_hire_44 : decode cX2_hire 44 = .ok (.iconst 1, 1) := by decide +kernel
theorem dX2_hire_45 : decode cX2_hire 45 = .ok (.isub, 1) := by decide +kernel
theorem dX2_hire_46 : decode cX2_hire 46 = .ok (.ireturn, 1) := by decide +kernel
theorem dX2_perform_0 : decode cX2_perform 0 = .ok (.iconst 0, 1) := by decide +kernel
theorem dX2_perform_1 : decode cX2_perform 1 = .ok (.istore_n 3, 1) := by decide +kernel
theorem dX2_perform_2 : decode cX2_perform 2 = .ok (.iload_n 3, 1) := by decide +kernel
theorem dX2_perform_3 : decode cX2_perform 3 = .ok (.aload_n 0, 1) := by decide +kernel
theorem dX2_perform_4 : decode cX2_perform 4 = .ok (.getfield 41, 3) := by decide +kernel
theorem dX2_perform_7 : decode cX2_perform 7 = .ok (.if_icmp .ge 22, 3) := by decide +kernel
theorem dX2_perform_10 : decode cX2_perform 10 = .ok (.aload_n 0, 1) := by decide +kernel
theorem dX2_perform_11 : decode cX2_perform 11 = .ok (.getfield 26, 3) := by decide +kernel
theorem dX2_perform_14 : decode cX2_perform 14 = .ok (.iload_n 3, 1) := by decide +kernel
theorem dX2_perform_15 : decode cX2_perform 15 = .ok (.aaload, 1) := by decide +kernel
theorem dX2_perform_16 : decode cX2_perform 16 = .ok (.aload_n 0, 1) := by decide +kernel
theorem dX2_perform_17 : decode cX2_perform 17 = .ok (.getfield 44, 3) := by decide +kernel
theorem dX2_perform_20 : decode cX2_perform 20 = .ok (.invokevirtual 88, 3) := by decide +kernel
theorem dX2_perform_23 : decode cX2_perform 23 = .ok (.iinc 3 1, 3) := by decide +kernel
theorem dX2_perform_26 : decode cX2_perform 26 = .ok (.goto (-24), 3) := by decide +kernel
theorem dX2_perform_29 : decode cX2_perform 29 = .ok (.aload_n 0, 1) := by decide +kernel
theorem dX2_perform_30 : decode cX2_perform 30 = .ok (.iload_n 2, 1) := by decide +kernel
theorem dX2_perform_31 : decode cX2_perform 31 = .ok (.invokevirtual 92, 3) := by decide +kernel
theorem dX2_perform_34 : decode cX2_perform 34 = .ok (.istore_n 3, 1) := by decide +kernel
theorem dX2_perform_35 : decode cX2_perform 35 = .ok (.iconst 0, 1) := by decide +kernel
theorem dX2_perform_36 : decode cX2_perform 36 = .ok (.istore 4, 2) := by decide +kernel
theorem dX2_perform_38 : decode cX2_perform 38 = .ok (.iconst 0, 1) := by decide +kernel
theorem dX2_perform_39 : decode cX2_perform 39 = .ok (.istore 5, 2) := by decide +kernel
theorem dX2_perform_41 : decode cX2_perform 41 = .ok (.iload 5, 2) := by decide +kernel
theorem dX2_perform_43 : decode cX2_perform 43 = .ok (.aload_n 0, 1) := by decide +kernel
theorem dX2_perform_44 : decode cX2_perform 44 = .ok (.getfield 41, 3) := by decide +kernel
theorem dX2_perform_47 : decode cX2_perform 47 = .ok (.if_icmp .ge 33, 3) := by decide +kernel
theorem dX2_perform_50 : decode cX2_perform 50 = .ok (.aload_n 0, 1) := by decide +kernel
theorem dX2_perform_51 : decode cX2_perform 51 = .ok (.getfield 26, 3) := by decide +kernel
theorem dX2_perform_54 : decode cX2_perform 54 = .ok (.iload 5, 2) := by decide +kernel
theorem dX2_perform_56 : decode cX2_perform 56 = .ok (.aaload, 1) := by decide +kernel
theorem dX2_perform_57 : decode cX2_perform 57 = .ok (.iload_n 1, 1) := by decide +kernel
theorem dX2_perform_58 : decode cX2_perform 58 = .ok (.iload_n 2, 1) := by decide +kernel
theorem dX2_perform_59 : decode cX2_perform 59 = .ok (.iload_n 3, 1) := by decide +kernel
theorem dX2_perform_60 : decode cX2_perform 60 = .ok (.invokevirtual 96, 3) := by decide +kernel
theorem dX2_perform_63 : decode cX2_perform 63 = .ok (.iload 4, 2) := by decide +kernel
theorem dX2_perform_65 : decode cX2_perform 65 = .ok (.aload_n 0, 1) := by decide +kernel
theorem dX2_perform_66 : decode cX2_perform 66 = .ok (.iload 5, 2) := by decide +kernel
theorem dX2_perform_68 : decode cX2_perform 68 = .ok (.invokevirtual 99, 3) := by decide +kernel
theorem dX2_perform_71 : decode cX2_perform 71 = .ok (.iadd, 1) := by decide +kernel
theorem dX2_perform_72 : decode cX2_perform 72 = .ok (.istore 4, 2) := by decide +kernel
theorem dX2_perform_74 : decode cX2_perform 74 = .ok (.iinc 5 1, 3) := by decide +kernel
theorem dX2_perform_77 : decode cX2_perform 77 = .ok (.goto (-36), 3) := by decide +kernel
theorem dX2_perform_80 : decode cX2_perform 80 = .ok (.aload_n 0, 1) := by decide +kernel
theorem dX2_perform_81 : decode cX2_perform 81 = .ok (.iload_n 1, 1) := by decide +kernel
theorem dX2_perform_82 : decode cX2_perform 82 = .ok (.iload_n 2, 1) := by decide +kernel
theorem dX2_perform_83 : decode cX2_perform 83 = .ok (.iload_n 3, 1) := by decide +kernel
theorem dX2_perform_84 : decode cX2_perform 84 = .ok (.iload 4, 2) := by decide +kernel
theorem dX2_perform_86 : decode cX2_perform 86 = .ok (.invokevirtual 102, 3) := by decide +kernel
theorem dX2_perform_89 : decode cX2_perform 89 = .ok (.aload_n 0, 1) := by decide +kernel
theorem dX2_perform_90 : decode cX2_perform 90 = .ok (.dup, 1) := by decide +kernel
theorem dX2_perform_91 : decode cX2_perform 91 = .ok (.getfield 47, 3) := by decide +kernel
theorem dX2_perform_94 : decode cX2_perform 94 = .ok (.iconst 1, 1) := by decide +kernel
theorem dX2_perform_95 : decode cX2_perform 95 = .ok (.iadd, 1) := by decide +kernel
theorem dX2_perform_96 : decode cX2_perform 96 = .ok (.putfield 47, 3) := by decide +kernel
theorem dX2_perform_99 : decode cX2_perform 99 = .ok (.aload_n 0, 1) := by decide +kernel
theorem dX2_perform_100 : decode cX2_perform 100 = .ok (.dup, 1) := by decide +kernel
theorem dX2_perform_101 : decode cX2_perform 101 = .ok (.getfield 56, 3) := by decide +kernel
theorem dX2_perform_104 : decode cX2_perform 104 = .ok (.iload 4, 2) := by decide +kernel
theorem dX2_perform_106 : decode cX2_perform 106 = .ok (.iadd, 1) := by decide +kernel
theorem dX2_perform_107 : decode cX2_perform 107 = .ok (.putfield 56, 3) := by decide +kernel
theorem dX2_perform_110 : decode cX2_perform 110 = .ok (.iload_n 3, 1) := by decide +kernel
theorem dX2_perform_111 : decode cX2_perform 111 = .ok (.ifCond .eq 13, 3) := by decide +kernel
theorem dX2_perform_114 : decode cX2_perform 114 = .ok (.aload_n 0, 1) := by decide +kernel
theorem dX2_perform_115 : decode cX2_perform 115 = .ok (.dup, 1) := by decide +kernel
theorem dX2_perform_116 : decode cX2_perform 116 = .ok (.getfield 50, 3) := by decide +kernel
theorem dX2_perform_119 : decode cX2_perform 119 = .ok (.iconst 1, 1) := by decide +kernel
theorem dX2_perform_120 : decode cX2_perform 120 = .ok (.iadd, 1) := by decide +kernel
theorem dX2_perform_121 : decode cX2_perform 121 = .ok (.putfield 50, 3) := by decide +kernel
theorem dX2_perform_124 : decode cX2_perform 124 = .ok (.iload_n 3, 1) := by decide +kernel
theorem dX2_perform_125 : decode cX2_perform 125 = .ok (.iconst 2, 1) := by decide +kernel
theorem dX2_perform_126 : decode cX2_perform 126 = .ok (.if_icmp .ne 13, 3) := by decide +kernel
theorem dX2_perform_129 : decode cX2_perform 129 = .ok (.aload_n 0, 1) := by decide +kernel
theorem dX2_perform_130 : decode cX2_perform 130 = .ok (.dup, 1) := by decide +kernel
theorem dX2_perform_131 : decode cX2_perform 131 = .ok (.getfield 53, 3) := by decide +kernel
theorem dX2_perform_134 : decode cX2_perform 134 = .ok (.iconst 1, 1) := by decide +kernel
theorem dX2_perform_135 : decode cX2_perform 135 = .ok (.iadd, 1) := by decide +kernel
theorem dX2_perform_136 : decode cX2_perform 136 = .ok (.putfield 53, 3) := by decide +kernel
theorem dX2_perform_139 : decode cX2_perform 139 = .ok (.iload_n 3, 1) := by decide +kernel
theorem dX2_perform_140 : decode cX2_perform 140 = .ok (.ireturn, 1) := by decide +kernel
theorem dX2_performWalk_0 : decode cX2_performWalk 0 = .ok (.iconst 0, 1) := by decide +kernel
theorem dX2_performWalk_1 : decode cX2_performWalk 1 = .ok (.istore 5, 2) := by decide +kernel
theorem dX2_performWalk_3 : decode cX2_performWalk 3 = .ok (.iconst 0, 1) := by decide +kernel
theorem dX2_performWalk_4 : decode cX2_performWalk 4 = .ok (.istore 6, 2) := by decide +kernel
theorem dX2_performWalk_6 : decode cX2_performWalk 6 = .ok (.iload 6, 2) := by decide +kernel
theorem dX2_performWalk_8 : decode cX2_performWalk 8 = .ok (.iload 4, 2) := by decide +kernel
theorem dX2_performWalk_10 : decode cX2_performWalk 10 = .ok (.if_icmp .ge 26, 3) := by decide +kernel
theorem dX2_performWalk_13 : decode cX2_performWalk 13 = .ok (.aload_n 0, 1) := by decide +kernel
theorem dX2_performWalk_14 : decode cX2_performWalk 14 = .ok (.iload_n 1, 1) := by decide +kernel
theorem dX2_performWalk_15 : decode cX2_performWalk 15 = .ok (.iload_n 2, 1) := by decide +kernel
theorem dX2_performWalk_16 : decode cX2_performWalk 16 = .ok (.iload 6, 2) := by decide +kernel
theorem dX2_performWalk_18 : decode cX2_performWalk 18 = .ok (.iload_n 3, 1) := by decide +kernel
theorem dX2_performWalk_19 : decode cX2_performWalk 19 = .ok (.imul, 1) := by decide +kernel
theorem dX2_performWalk_20 : decode cX2_performWalk 20 = .ok (.iadd, 1) := by decide +kernel
theorem dX2_performWalk_21 : decode cX2_performWalk 21 = .ok (.invokevirtual 106, 3) := by decide +kernel
theorem dX2_performWalk_24 : decode cX2_performWalk 24 = .ok (.ifCond .eq 6, 3) := by decide +kernel
theorem dX2_performWalk_27 : decode cX2_performWalk 27 = .ok (.iinc 5 1, 3) := by decide +kernel
theorem dX2_performWalk_30 : decode cX2_performWalk 30 = .ok (.iinc 6 1, 3) := by decide +kernel
theorem dX2_performWalk_33 : decode cX2_performWalk 33 = .ok (.goto (-27), 3) := by decide +kernel
theorem dX2_performWalk_36 : decode cX2_performWalk 36 = .ok (.iload 5, 2) := by decide +kernel
theorem dX2_performWalk_38 : decode cX2_performWalk 38 = .ok (.ireturn, 1) := by decide +kernel
theorem dX2_serve_0 : decode cX2_serve 0 = .ok (.aload_n 0, 1) := by decide +kernel
theorem dX2_serve_1 : decode cX2_serve 1 = .ok (.iload_n 1, 1) := by decide +kernel
theorem dX2_serve_2 : decode cX2_serve 2 = .ok (.invokevirtual 109, 3) := by decide +kernel
theorem dX2_serve_5 : decode cX2_serve 5 = .ok (.astore_n 2, 1) := by decide +kernel
theorem dX2_serve_6 : decode cX2_serve 6 = .ok (.aload_n 2, 1) := by decide +kernel
theorem dX2_serve_7 : decode cX2_serve 7 = .ok (.iload_n 1, 1) := by decide +kernel
theorem dX2_serve_8 : decode cX2_serve 8 = .ok (.invokevirtual 112, 3) := by decide +kernel
theorem dX2_serve_11 : decode cX2_serve 11 = .ok (.istore_n 3, 1) := by decide +kernel
theorem dX2_serve_12 : decode cX2_serve 12 = .ok (.iload_n 3, 1) := by decide +kernel
theorem dX2_serve_13 : decode cX2_serve 13 = .ok (.ifCond .ge 17, 3) := by decide +kernel
theorem dX2_serve_16 : decode cX2_serve 16 = .ok (.aload_n 0, 1) := by decide +kernel
theorem dX2_serve_17 : decode cX2_serve 17 = .ok (.iload_n 1, 1) := by decide +kernel
theorem dX2_serve_18 : decode cX2_serve 18 = .ok (.invokevirtual 115, 3) := by decide +kernel
theorem dX2_serve_21 : decode cX2_serve 21 = .ok (.aload_n 0, 1) := by decide +kernel
theorem dX2_serve_22 : decode cX2_serve 22 = .ok (.iload_n 1, 1) := by decide +kernel
theorem dX2_serve_23 : decode cX2_serve 23 = .ok (.ldc 118, 2) := by decide +kernel
theorem dX2_serve_25 : decode cX2_serve 25 = .ok (.invokevirtual 119, 3) := by decide +kernel
theorem dX2_serve_28 : decode cX2_serve 28 = .ok (.iconst 0, 1) := by decide +kernel
theorem dX2_serve_29 : decode cX2_serve 29 = .ok (.ireturn, 1) := by decide +kernel
theorem dX2_serve_30 : decode cX2_serve 30 = .ok (.aload_n 2, 1) := by decide +kernel
theorem dX2_serve_31 : decode cX2_serve 31 = .ok (.iload_n 3, 1) := by decide +kernel
theorem dX2_serve_32 : decode cX2_serve 32 = .ok (.iconst 2, 1) := by decide +kernel
theorem dX2_serve_33 : decode cX2_serve 33 = .ok (.invokevirtual 122, 3) := by decide +kernel
theorem dX2_serve_36 : decode cX2_serve 36 = .ok (.iconst 1, 1) := by decide +kernel
theorem dX2_serve_37 : decode cX2_serve 37 = .ok (.if_icmp .ne 7, 3) := by decide +kernel
theorem dX2_serve_40 : decode cX2_serve 40 = .ok (.iconst 1, 1) := by decide +kernel
theorem dX2_serve_41 : decode cX2_serve 41 = .ok (.goto 4, 3) := by decide +kernel
theorem dX2_serve_44 : decode cX2_serve 44 = .ok (.iconst 0, 1) := by decide +kernel
theorem dX2_serve_45 : decode cX2_serve 45 = .ok (.istore 4, 2) := by decide +kernel
theorem dX2_serve_47 : decode cX2_serve 47 = .ok (.aload_n 0, 1) := by decide +kernel
theorem dX2_serve_48 : decode cX2_serve 48 = .ok (.aload_n 2, 1) := by decide +kernel
theorem dX2_serve_49 : decode cX2_serve 49 = .ok (.iload_n 3, 1) := by decide +kernel
theorem dX2_serve_50 : decode cX2_serve 50 = .ok (.iconst 1, 1) := by decide +kernel
theorem dX2_serve_51 : decode cX2_serve 51 = .ok (.invokevirtual 122, 3) := by decide +kernel
theorem dX2_serve_54 : decode cX2_serve 54 = .ok (.invokevirtual 125, 3) := by decide +kernel
theorem dX2_serve_57 : decode cX2_serve 57 = .ok (.astore 5, 2) := by decide +kernel
theorem dX2_serve_59 : decode cX2_serve 59 = .ok (.aload_n 2, 1) := by decide +kernel
theorem dX2_serve_60 : decode cX2_serve 60 = .ok (.iload_n 3, 1) := by decide +kernel
theorem dX2_serve_61 : decode cX2_serve 61 = .ok (.iconst 2, 1) := by decide +kernel
theorem dX2_serve_62 : decode cX2_serve 62 = .ok (.iconst 0, 1) := by decide +kernel
theorem dX2_serve_63 : decode cX2_serve 63 = .ok (.invokevirtual 129, 3) := by decide +kernel
theorem dX2_serve_66 : decode cX2_serve 66 = .ok (.aload_n 2, 1) := by decide +kernel
theorem dX2_serve_67 : decode cX2_serve 67 = .ok (.iload_n 3, 1) := by decide +kernel
theorem dX2_serve_68 : decode cX2_serve 68 = .ok (.invokevirtual 132, 3) := by decide +kernel
theorem dX2_serve_71 : decode cX2_serve 71 = .ok (.iload 4, 2) := by decide +kernel
theorem dX2_serve_73 : decode cX2_serve 73 = .ok (.ifCond .eq 13, 3) := by decide +kernel
theorem dX2_serve_76 : decode cX2_serve 76 = .ok (.aload 5, 2) := by decide +kernel
theorem dX2_serve_78 : decode cX2_serve 78 = .ok (.ifnull 8, 3) := by decide +kernel
theorem dX2_serve_81 : decode cX2_serve 81 = .ok (.aload 5, 2) := by decide +kernel
theorem dX2_serve_83 : decode cX2_serve 83 = .ok (.invokevirtual 135, 3) := by decide +kernel
theorem dX2_serve_86 : decode cX2_serve 86 = .ok (.iload 4, 2) := by decide +kernel
theorem dX2_serve_88 : decode cX2_serve 88 = .ok (.ifCond .eq 7, 3) := by decide +kernel
theorem dX2_serve_91 : decode cX2_serve 91 = .ok (.iconst 2, 1) := by decide +kernel
theorem dX2_serve_92 : decode cX2_serve 92 = .ok (.goto 4, 3) := by decide +kernel
theorem dX2_serve_95 : decode cX2_serve 95 = .ok (.iconst 1, 1) := by decide +kernel
theorem dX2_serve_96 : decode cX2_serve 96 = .ok (.ireturn, 1) := by decide +kernel
theorem dX2_punishThrower_0 : decode cX2_punishThrower 0 = .ok (.aload_n 0, 1) := by decide +kernel
theorem dX2_punishThrower_1 : decode cX2_punishThrower 1 = .ok (.aload_n 0, 1) := by decide +kernel
theorem dX2_punishThrower_2 : decode cX2_punishThrower 2 = .ok (.getfield 20, 3) := by decide +kernel
theorem dX2_punishThrower_5 : decode cX2_punishThrower 5 = .ok (.aload_n 0, 1) := by decide +kernel
theorem dX2_punishThrower_6 : decode cX2_punishThrower 6 = .ok (.getfield 20, 3) := by decide +kernel
theorem dX2_punishThrower_9 : decode cX2_punishThrower 9 = .ok (.iload_n 1, 1) := by decide +kernel
theorem dX2_punishThrower_10 : decode cX2_punishThrower 10 = .ok (.invokevirtual 112, 3) := by decide +kernel
theorem dX2_punishThrower_13 : decode cX2_punishThrower 13 = .ok (.iconst 1, 1) := by decide +kernel
theorem dX2_punishThrower_14 : decode cX2_punishThrower 14 = .ok (.invokevirtual 122, 3) := by decide +kernel
theorem dX2_punishThrower_17 : decode cX2_punishThrower 17 = .ok (.invokevirtual 125, 3) := by decide +kernel
theorem dX2_punishThrower_20 : decode cX2_punishThrower 20 = .ok (.astore_n 2, 1) := by decide +kernel
theorem dX2_punishThrower_21 : decode cX2_punishThrower 21 = .ok (.aload_n 2, 1) := by decide +kernel
theorem dX2_punishThrower_22 : decode cX2_punishThrower 22 = .ok (.ifnull 18, 3) := by decide +kernel
theorem dX2_punishThrower_25 : decode cX2_punishThrower 25 = .ok (.aload_n 2, 1) := by decide +kernel
theorem dX2_punishThrower_26 : decode cX2_punishThrower 26 = .ok (.dup, 1) := by decide +kernel
theorem dX2_punishThrower_27 : decode cX2_punishThrower 27 = .ok (.getfield 138, 3) := by decide +kernel
theorem dX2_punishThrower_30 : decode cX2_punishThrower 30 = .ok (.iconst 1, 1) := by decide +kernel
theorem dX2_punishThrower_31 : decode cX2_punishThrower 31 = .ok (.iadd, 1) := by decide +kernel
theorem dX2_punishThrower_32 : decode cX2_punishThrower 32 = .ok (.putfield 138, 3) := by decide +kernel
theorem dX2_punishThrower_35 : decode cX2_punishThrower 35 = .ok (.aload_n 2, 1) := by decide +kernel
theorem dX2_punishThrower_36 : decode cX2_punishThrower 36 = .ok (.iconst 2, 1) := by decide +kernel
theorem dX2_punishThrower_37 : decode cX2_punishThrower 37 = .ok (.invokevirtual 141, 3) := by decide +kernel
theorem dX2_punishThrower_40 : decode cX2_punishThrower 40 = .ok (.return_, 1) := by decide +kernel
theorem dX2_fetchWishes_0 : decode cX2_fetchWishes 0 = .ok (.aload_n 0, 1) := by decide +kernel
theorem dX2_fetchWishes_1 : decode cX2_fetchWishes 1 = .ok (.getfield 26, 3) := by decide +kernel
theorem dX2_fetchWishes_4 : decode cX2_fetchWishes 4 = .ok (.iload_n 1, 1) := by decide +kernel
theorem dX2_fetchWishes_5 : decode cX2_fetchWishes 5 = .ok (.aaload, 1) := by decide +kernel
theorem dX2_fetchWishes_6 : decode cX2_fetchWishes 6 = .ok (.astore_n 2, 1) := by decide +kernel
theorem dX2_fetchWishes_7 : decode cX2_fetchWishes 7 = .ok (.iconst 0, 1) := by decide +kernel
theorem dX2_fetchWishes_8 : decode cX2_fetchWishes 8 = .ok (.istore_n 3, 1) := by decide +kernel
theorem dX2_fetchWishes_9 : decode cX2_fetchWishes 9 = .ok (.iconst 0, 1) := by decide +kernel
theorem dX2_fetchWishes_10 : decode cX2_fetchWishes 10 = .ok (.istore 4, 2) := by decide +kernel
theorem dX2_fetchWishes_12 : decode cX2_fetchWishes 12 = .ok (.iload 4, 2) := by decide +kernel
theorem dX2_fetchWishes_14 : decode cX2_fetchWishes 14 = .ok (.aload_n 2, 1) := by decide +kernel
theorem dX2_fetchWishes_15 : decode cX2_fetchWishes 15 = .ok (.getfield 144, 3) := by decide +kernel
theorem dX2_fetchWishes_18 : decode cX2_fetchWishes 18 = .ok (.if_icmp .ge 42, 3) := by decide +kernel
theorem dX2_fetchWishes_21 : decode cX2_fetchWishes 21 = .ok (.aload_n 2, 1) := by decide +kernel
theorem dX2_fetchWishes_22 : decode cX2_fetchWishes 22 = .ok (.getfield 147, 3) := by decide +kernel
theorem dX2_fetchWishes_25 : decode cX2_fetchWishes 25 = .ok (.iload 4, 2) := by decide +kernel
theorem dX2_fetchWishes_27 : decode cX2_fetchWishes 27 = .ok (.iaload, 1) := by decide +kernel
theorem dX2_fetchWishes_28 : decode cX2_fetchWishes 28 = .ok (.istore 5, 2) := by decide +kernel
theorem dX2_fetchWishes_30 : decode cX2_fetchWishes 30 = .ok (.aload_n 0, 1) := by decide +kernel
theorem dX2_fetchWishes_31 : decode cX2_fetchWishes 31 = .ok (.iload 5, 2) := by decide +kernel
theorem dX2_fetchWishes_33 : decode cX2_fetchWishes 33 = .ok (.invokevirtual 109, 3) := by decide +kernel
theorem dX2_fetchWishes_36 : decode cX2_fetchWishes 36 = .ok (.iload 5, 2) := by decide +kernel
theorem dX2_fetchWishes_38 : decode cX2_fetchWishes 38 = .ok (.invokevirtual 112, 3) := by decide +kernel
theorem dX2_fetchWishes_41 : decode cX2_fetchWishes 41 = .ok (.ifCond .ge 13, 3) := by decide +kernel
theorem dX2_fetchWishes_44 : decode cX2_fetchWishes 44 = .ok (.aload_n 0, 1) := by decide +kernel
theorem dX2_fetchWishes_45 : decode cX2_fetchWishes 45 = .ok (.iload 5, 2) := by decide +kernel
theorem dX2_fetchWishes_47 : decode cX2_fetchWishes 47 = .ok (.iload_n 1, 1) := by decide +kernel
theorem dX2_fetchWishes_48 : decode cX2_fetchWishes 48 = .ok (.invokevirtual 119, 3) := by decide +kernel
theorem dX2_fetchWishes_51 : decode cX2_fetchWishes 51 = .ok (.iinc 3 1, 3) := by decide +kernel
theorem dX2_fetchWishes_54 : decode cX2_fetchWishes 54 = .ok (.iinc 4 1, 3) := by decide +kernel
theorem dX2_fetchWishes_57 : decode cX2_fetchWishes 57 = .ok (.goto (-45), 3) := by decide +kernel
theorem dX2_fetchWishes_60 : decode cX2_fetchWishes 60 = .ok (.aload_n 2, 1) := by decide +kernel
theorem dX2_fetchWishes_61 : decode cX2_fetchWishes 61 = .ok (.dup, 1) := by decide +kernel
theorem dX2_fetchWishes_62 : decode cX2_fetchWishes 62 = .ok (.getfield 151, 3) := by decide +kernel
theorem dX2_fetchWishes_65 : decode cX2_fetchWishes 65 = .ok (.iload_n 3, 1) := by decide +kernel
theorem dX2_fetchWishes_66 : decode cX2_fetchWishes 66 = .ok (.iadd, 1) := by decide +kernel
theorem dX2_fetchWishes_67 : decode cX2_fetchWishes 67 = .ok (.putfield 151, 3) := by decide +kernel
theorem dX2_fetchWishes_70 : decode cX2_fetchWishes 70 = .ok (.iload_n 3, 1) := by decide +kernel
theorem dX2_fetchWishes_71 : decode cX2_fetchWishes 71 = .ok (.ireturn, 1) := by decide +kernel
theorem dX2_fetch_0 : decode cX2_fetch 0 = .ok (.aload_n 0, 1) := by decide +kernel
theorem dX2_fetch_1 : decode cX2_fetch 1 = .ok (.getfield 20, 3) := by decide +kernel
theorem dX2_fetch_4 : decode cX2_fetch 4 = .ok (.aload_n 0, 1) := by decide +kernel
theorem dX2_fetch_5 : decode cX2_fetch 5 = .ok (.getfield 20, 3) := by decide +kernel
theorem dX2_fetch_8 : decode cX2_fetch 8 = .ok (.iload_n 1, 1) := by decide +kernel
theorem dX2_fetch_9 : decode cX2_fetch 9 = .ok (.invokevirtual 112, 3) := by decide +kernel
theorem dX2_fetch_12 : decode cX2_fetch 12 = .ok (.invokevirtual 154, 3) := by decide +kernel
theorem dX2_fetch_15 : decode cX2_fetch 15 = .ok (.aload_n 0, 1) := by decide +kernel
theorem dX2_fetch_16 : decode cX2_fetch 16 = .ok (.iload_n 1, 1) := by decide +kernel
theorem dX2_fetch_17 : decode cX2_fetch 17 = .ok (.invokevirtual 109, 3) := by decide +kernel
theorem dX2_fetch_20 : decode cX2_fetch 20 = .ok (.astore_n 3, 1) := by decide +kernel
theorem dX2_fetch_21 : decode cX2_fetch 21 = .ok (.aload_n 3, 1) := by decide +kernel
theorem dX2_fetch_22 : decode cX2_fetch 22 = .ok (.getfield 157, 3) := by decide +kernel
theorem dX2_fetch_25 : decode cX2_fetch 25 = .ok (.aload_n 0, 1) := by decide +kernel
theorem dX2_fetch_26 : decode cX2_fetch 26 = .ok (.getfield 38, 3) := by decide +kernel
theorem dX2_fetch_29 : decode cX2_fetch 29 = .ok (.if_icmp .lt 9, 3) := by decide +kernel
theorem dX2_fetch_32 : decode cX2_fetch 32 = .ok (.aload_n 0, 1) := by decide +kernel
theorem dX2_fetch_33 : decode cX2_fetch 33 = .ok (.aload_n 3, 1) := by decide +kernel
theorem dX2_fetch_34 : decode cX2_fetch 34 = .ok (.iload_n 2, 1) := by decide +kernel
theorem dX2_fetch_35 : decode cX2_fetch 35 = .ok (.invokevirtual 160, 3) := by decide +kernel
theorem dX2_fetch_38 : decode cX2_fetch 38 = .ok (.aload_n 3, 1) := by decide +kernel
theorem dX2_fetch_39 : decode cX2_fetch 39 = .ok (.aload_n 0, 1) := by decide +kernel
theorem dX2_fetch_40 : decode cX2_fetch 40 = .ok (.getfield 38, 3) := by decide +kernel
theorem dX2_fetch_43 : decode cX2_fetch 43 = .ok (.invokevirtual 164, 3) := by decide +kernel
theorem dX2_fetch_46 : decode cX2_fetch 46 = .ok (.istore 4, 2) := by decide +kernel
theorem dX2_fetch_48 : decode cX2_fetch 48 = .ok (.aload_n 3, 1) := by decide +kernel
theorem dX2_fetch_49 : decode cX2_fetch 49 = .ok (.iload 4, 2) := by decide +kernel
theorem dX2_fetch_51 : decode cX2_fetch 51 = .ok (.iconst 0, 1) := by decide +kernel
theorem dX2_fetch_52 : decode cX2_fetch 52 = .ok (.iload_n 1, 1) := by decide +kernel
theorem dX2_fetch_53 : decode cX2_fetch 53 = .ok (.invokevirtual 129, 3) := by decide +kernel
theorem dX2_fetch_56 : decode cX2_fetch 56 = .ok (.aload_n 3, 1) := by decide +kernel
theorem dX2_fetch_57 : decode cX2_fetch 57 = .ok (.iload 4, 2) := by decide +kernel
theorem dX2_fetch_59 : decode cX2_fetch 59 = .ok (.iconst 1, 1) := by decide +kernel
theorem dX2_fetch_60 : decode cX2_fetch 60 = .ok (.iload_n 2, 1) := by decide +kernel
theorem dX2_fetch_61 : decode cX2_fetch 61 = .ok (.invokevirtual 129, 3) := by decide +kernel
theorem dX2_fetch_64 : decode cX2_fetch 64 = .ok (.aload_n 3, 1) := by decide +kernel
theorem dX2_fetch_65 : decode cX2_fetch 65 = .ok (.iload 4, 2) := by decide +kernel
theorem dX2_fetch_67 : decode cX2_fetch 67 = .ok (.iconst 2, 1) := by decide +kernel
theorem dX2_fetch_68 : decode cX2_fetch 68 = .ok (.iload_n 2, 1) := by decide +kernel
theorem dX2_fetch_69 : decode cX2_fetch 69 = .ok (.ldc 118, 2) := by decide +kernel
theorem dX2_fetch_71 : decode cX2_fetch 71 = .ok (.if_icmp .ne 7, 3) := by decide +kernel
theorem dX2_fetch_74 : decode cX2_fetch 74 = .ok (.iconst 0, 1) := by decide +kernel
theorem dX2_fetch_75 : decode cX2_fetch 75 = .ok (.goto 4, 3) := by decide +kernel
theorem dX2_fetch_78 : decode cX2_fetch 78 = .ok (.iconst 1, 1) := by decide +kernel
theorem dX2_fetch_79 : decode cX2_fetch 79 = .ok (.invokevirtual 129, 3) := by decide +kernel
theorem dX2_fetch_82 : decode cX2_fetch 82 = .ok (.return_, 1) := by decide +kernel
theorem dX2_throwOldest_0 : decode cX2_throwOldest 0 = .ok (.aload_n 1, 1) := by decide +kernel
theorem dX2_throwOldest_1 : decode cX2_throwOldest 1 = .ok (.iconst 0, 1) := by decide +kernel
theorem dX2_throwOldest_2 : decode cX2_throwOldest 2 = .ok (.iconst 0, 1) := by decide +kernel
theorem dX2_throwOldest_3 : decode cX2_throwOldest 3 = .ok (.invokevirtual 122, 3) := by decide +kernel
theorem dX2_throwOldest_6 : decode cX2_throwOldest 6 = .ok (.istore_n 3, 1) := by decide +kernel
theorem dX2_throwOldest_7 : decode cX2_throwOldest 7 = .ok (.aload_n 0, 1) := by decide +kernel
theorem dX2_throwOldest_8 : decode cX2_throwOldest 8 = .ok (.aload_n 1, 1) := by decide +kernel
theorem dX2_throwOldest_9 : decode cX2_throwOldest 9 = .ok (.iconst 0, 1) := by decide +kernel
theorem dX2_throwOldest_10 : decode cX2_throwOldest 10 = .ok (.iconst 1, 1) := by decide +kernel
theorem dX2_throwOldest_11 : decode cX2_throwOldest 11 = .ok (.invokevirtual 122, 3) := by decide +kernel
theorem dX2_throwOldest_14 : decode cX2_throwOldest 14 = .ok (.invokevirtual 125, 3) := by decide +kernel
theorem dX2_throwOldest_17 : decode cX2_throwOldest 17 = .ok (.astore 4, 2) := by decide +kernel
theorem dX2_throwOldest_19 : decode cX2_throwOldest 19 = .ok (.aload_n 1, 1) := by decide +kernel
theorem dX2_throwOldest_20 : decode cX2_throwOldest 20 = .ok (.iconst 0, 1) := by decide +kernel
theorem dX2_throwOldest_21 : decode cX2_throwOldest 21 = .ok (.iconst 2, 1) := by decide +kernel
theorem dX2_throwOldest_22 : decode cX2_throwOldest 22 = .ok (.invokevirtual 122, 3) := by decide +kernel
theorem dX2_throwOldest_25 : decode cX2_throwOldest 25 = .ok (.iconst 1, 1) := by decide +kernel
theorem dX2_throwOldest_26 : decode cX2_throwOldest 26 = .ok (.if_icmp .ne 7, 3) := by decide +kernel
theorem dX2_throwOldest_29 : decode cX2_throwOldest 29 = .ok (.iconst 1, 1) := by decide +kernel
theorem dX2_throwOldest_30 : decode cX2_throwOldest 30 = .ok (.goto 4, 3) := by decide +kernel
theorem dX2_throwOldest_33 : decode cX2_throwOldest 33 = .ok (.iconst 0, 1) := by decide +kernel
theorem dX2_throwOldest_34 : decode cX2_throwOldest 34 = .ok (.istore 5, 2) := by decide +kernel
theorem dX2_throwOldest_36 : decode cX2_throwOldest 36 = .ok (.aload_n 1, 1) := by decide +kernel
theorem dX2_throwOldest_37 : decode cX2_throwOldest 37 = .ok (.iconst 0, 1) := by decide +kernel
theorem dX2_throwOldest_38 : decode cX2_throwOldest 38 = .ok (.invokevirtual 154, 3) := by decide +kernel
theorem dX2_throwOldest_41 : decode cX2_throwOldest 41 = .ok (.aload_n 0, 1) := by decide +kernel
theorem dX2_throwOldest_42 : decode cX2_throwOldest 42 = .ok (.getfield 20, 3) := by decide +kernel
theorem dX2_throwOldest_45 : decode cX2_throwOldest 45 = .ok (.bipush 8, 2) := by decide +kernel
theorem dX2_throwOldest_47 : decode cX2_throwOldest 47 = .ok (.invokevirtual 164, 3) := by decide +kernel
theorem dX2_throwOldest_50 : decode cX2_throwOldest 50 = .ok (.istore 6, 2) := by decide +kernel
theorem dX2_throwOldest_52 : decode cX2_throwOldest 52 = .ok (.aload_n 0, 1) := by decide +kernel
theorem dX2_throwOldest_53 : decode cX2_throwOldest 53 = .ok (.getfield 20, 3) := by decide +kernel
theorem dX2_throwOldest_56 : decode cX2_throwOldest 56 = .ok (.iload 6, 2) := by decide +kernel
theorem dX2_throwOldest_58 : decode cX2_throwOldest 58 = .ok (.iconst 0, 1) := by decide +kernel
theorem dX2_throwOldest_59 : decode cX2_throwOldest 59 = .ok (.iload_n 3, 1) := by decide +kernel
theorem dX2_throwOldest_60 : decode cX2_throwOldest 60 = .ok (.invokevirtual 129, 3) := by decide +kernel
theorem dX2_throwOldest_63 : decode cX2_throwOldest 63 = .ok (.aload_n 0, 1) := by decide +kernel
theorem dX2_throwOldest_64 : decode cX2_throwOldest 64 = .ok (.getfield 20, 3) := by decide +kernel
theorem dX2_throwOldest_67 : decode cX2_throwOldest 67 = .ok (.iload 6, 2) := by decide +kernel
theorem dX2_throwOldest_69 : decode cX2_throwOldest 69 = .ok (.iconst 1, 1) := by decide +kernel
theorem dX2_throwOldest_70 : decode cX2_throwOldest 70 = .ok (.iload_n 2, 1) := by decide +kernel
theorem dX2_throwOldest_71 : decode cX2_throwOldest 71 = .ok (.invokevirtual 129, 3) := by decide +kernel
theorem dX2_throwOldest_74 : decode cX2_throwOldest 74 = .ok (.aload_n 0, 1) := by decide +kernel
theorem dX2_throwOldest_75 : decode cX2_throwOldest 75 = .ok (.dup, 1) := by decide +kernel
theorem dX2_throwOldest_76 : decode cX2_throwOldest 76 = .ok (.getfield 59, 3) := by decide +kernel
theorem dX2_throwOldest_79 : decode cX2_throwOldest 79 = .ok (.iconst 1, 1) := by decide +kernel
theorem dX2_throwOldest_80 : decode cX2_throwOldest 80 = .ok (.iadd, 1) := by decide +kernel
theorem dX2_throwOldest_81 : decode cX2_throwOldest 81 = .ok (.putfield 59, 3) := by decide +kernel
theorem dX2_throwOldest_84 : decode cX2_throwOldest 84 = .ok (.iload 5, 2) := by decide +kernel
theorem dX2_throwOldest_86 : decode cX2_throwOldest 86 = .ok (.ifCond .eq 29, 3) := by decide +kernel
theorem dX2_throwOldest_89 : decode cX2_throwOldest 89 = .ok (.aload 4, 2) := by decide +kernel
theorem dX2_throwOldest_91 : decode cX2_throwOldest 91 = .ok (.ifnull 24, 3) := by decide +kernel
theorem dX2_throwOldest_94 : decode cX2_throwOldest 94 = .ok (.aload 4, 2) := by decide +kernel
theorem dX2_throwOldest_96 : decode cX2_throwOldest 96 = .ok (.dup, 1) := by decide +kernel
theorem dX2_throwOldest_97 : decode cX2_throwOldest 97 = .ok (.getfield 167, 3) := by decide +kernel
theorem dX2_throwOldest_100 : decode cX2_throwOldest 100 = .ok (.iconst 1, 1) := by decide +kernel
theorem dX2_throwOldest_101 : decode cX2_throwOldest 101 = .ok (.iadd, 1) := by decide +kernel
theorem dX2_throwOldest_102 : decode cX2_throwOldest 102 = .ok (.putfield 167, 3) := by decide +kernel
theorem dX2_throwOldest_105 : decode cX2_throwOldest 105 = .ok (.aload 4, 2) := by decide +kernel
theorem dX2_throwOldest_107 : decode cX2_throwOldest 107 = .ok (.aload 4, 2) := by decide +kernel
theorem dX2_throwOldest_109 : decode cX2_throwOldest 109 = .ok (.getfield 170, 3) := by decide +kernel
theorem dX2_throwOldest_112 : decode cX2_throwOldest 112 = .ok (.invokevirtual 141, 3) := by decide +kernel
theorem dX2_throwOldest_115 : decode cX2_throwOldest 115 = .ok (.return_, 1) := by decide +kernel
theorem dX2_throwAllOut_0 : decode cX2_throwAllOut 0 = .ok (.iconst 0, 1) := by decide +kernel
theorem dX2_throwAllOut_1 : decode cX2_throwAllOut 1 = .ok (.istore_n 1, 1) := by decide +kernel
theorem dX2_throwAllOut_2 : decode cX2_throwAllOut 2 = .ok (.iconst 0, 1) := by decide +kernel
theorem dX2_throwAllOut_3 : decode cX2_throwAllOut 3 = .ok (.istore_n 2, 1) := by decide +kernel
theorem dX2_throwAllOut_4 : decode cX2_throwAllOut 4 = .ok (.iload_n 2, 1) := by decide +kernel
theorem dX2_throwAllOut_5 : decode cX2_throwAllOut 5 = .ok (.bipush 8, 2) := by decide +kernel
theorem dX2_throwAllOut_7 : decode cX2_throwAllOut 7 = .ok (.if_icmp .ge 50, 3) := by decide +kernel
theorem dX2_throwAllOut_10 : decode cX2_throwAllOut 10 = .ok (.aload_n 0, 1) := by decide +kernel
theorem dX2_throwAllOut_11 : decode cX2_throwAllOut 11 = .ok (.getfield 11, 3) := by decide +kernel
theorem dX2_throwAllOut_14 : decode cX2_throwAllOut 14 = .ok (.iload_n 2, 1) := by decide +kernel
theorem dX2_throwAllOut_15 : decode cX2_throwAllOut 15 = .ok (.aaload, 1) := by decide +kernel
theorem dX2_throwAllOut_16 : decode cX2_throwAllOut 16 = .ok (.getfield 157, 3) := by decide +kernel
theorem dX2_throwAllOut_19 : decode cX2_throwAllOut 19 = .ok (.istore_n 3, 1) := by decide +kernel
theorem dX2_throwAllOut_20 : decode cX2_throwAllOut 20 = .ok (.iconst 0, 1) := by decide +kernel
theorem dX2_throwAllOut_21 : decode cX2_throwAllOut 21 = .ok (.istore 4, 2) := by decide +kernel
theorem dX2_throwAllOut_23 : decode cX2_throwAllOut 23 = .ok (.iload 4, 2) := by decide +kernel
theorem dX2_throwAllOut_25 : decode cX2_throwAllOut 25 = .ok (.iload_n 3, 1) := by decide +kernel
theorem dX2_throwAllOut_26 : decode cX2_throwAllOut 26 = .ok (.if_icmp .ge 21, 3) := by decide +kernel
theorem dX2_throwAllOut_29 : decode cX2_throwAllOut 29 = .ok (.aload_n 0, 1) := by decide +kernel
theorem dX2_throwAllOut_30 : decode cX2_throwAllOut 30 = .ok (.aload_n 0, 1) := by decide +kernel
theorem dX2_throwAllOut_31 : decode cX2_throwAllOut 31 = .ok (.getfield 11, 3) := by decide +kernel
theorem dX2_throwAllOut_34 : decode cX2_throwAllOut 34 = .ok (.iload_n 2, 1) := by decide +kernel
theorem dX2_throwAllOut_35 : decode cX2_throwAllOut 35 = .ok (.aaload, 1) := by decide +kernel
theorem dX2_throwAllOut_36 : decode cX2_throwAllOut 36 = .ok (.ldc 118, 2) := by decide +kernel
theorem dX2_throwAllOut_38 : decode cX2_throwAllOut 38 = .ok (.invokevirtual 160, 3) := by decide +kernel
theorem dX2_throwAllOut_41 : decode cX2_throwAllOut 41 = .ok (.iinc 4 1, 3) := by decide +kernel
theorem dX2_throwAllOut_44 : decode cX2_throwAllOut 44 = .ok (.goto (-21), 3) := by decide +kernel
theorem dX2_throwAllOut_47 : decode cX2_throwAllOut 47 = .ok (.iload_n 1, 1) := by decide +kernel
theorem dX2_throwAllOut_48 : decode cX2_throwAllOut 48 = .ok (.iload_n 3, 1) := by decide +kernel
theorem dX2_throwAllOut_49 : decode cX2_throwAllOut 49 = .ok (.iadd, 1) := by decide +kernel
theorem dX2_throwAllOut_50 : decode cX2_throwAllOut 50 = .ok (.istore_n 1, 1) := by decide +kernel
theorem dX2_throwAllOut_51 : decode cX2_throwAllOut 51 = .ok (.iinc 2 1, 3) := by decide +kernel
theorem dX2_throwAllOut_54 : decode cX2_throwAllOut 54 = .ok (.goto (-50), 3) := by decide +kernel
theorem dX2_throwAllOut_57 : decode cX2_throwAllOut 57 = .ok (.iload_n 1, 1) := by decide +kernel
theorem dX2_throwAllOut_58 : decode cX2_throwAllOut 58 = .ok (.ireturn, 1) := by decide +kernel
theorem dX2_writeLog_0 : decode cX2_writeLog 0 = .ok (.aload_n 0, 1) := by decide +kernel
theorem dX2_writeLog_1 : decode cX2_writeLog 1 = .ok (.getfield 31, 3) := by decide +kernel
theorem dX2_writeLog_4 : decode cX2_writeLog 4 = .ok (.bipush 12, 2) := by decide +kernel
theorem dX2_writeLog_6 : decode cX2_writeLog 6 = .ok (.invokevirtual 164, 3) := by decide +kernel
theorem dX2_writeLog_9 : decode cX2_writeLog 9 = .ok (.istore 5, 2) := by decide +kernel
theorem dX2_writeLog_11 : decode cX2_writeLog 11 = .ok (.aload_n 0, 1) := by decide +kernel
theorem dX2_writeLog_12 : decode cX2_writeLog 12 = .ok (.getfield 31, 3) := by decide +kernel
theorem dX2_writeLog_15 : decode cX2_writeLog 15 = .ok (.iload 5, 2) := by decide +kernel
theorem dX2_writeLog_17 : decode cX2_writeLog 17 = .ok (.iconst 0, 1) := by decide +kernel
theorem dX2_writeLog_18 : decode cX2_writeLog 18 = .ok (.iload_n 1, 1) := by decide +kernel
theorem dX2_writeLog_19 : decode cX2_writeLog 19 = .ok (.invokevirtual 129, 3) := by decide +kernel
theorem dX2_writeLog_22 : decode cX2_writeLog 22 = .ok (.aload_n 0, 1) := by decide +kernel
theorem dX2_writeLog_23 : decode cX2_writeLog 23 = .ok (.getfield 31, 3) := by decide +kernel
theorem dX2_writeLog_26 : decode cX2_writeLog 26 = .ok (.iload 5, 2) := by decide +kernel
theorem dX2_writeLog_28 : decode cX2_writeLog 28 = .ok (.iconst 1, 1) := by decide +kernel
theorem dX2_writeLog_29 : decode cX2_writeLog 29 = .ok (.iload_n 2, 1) := by decide +kernel
theorem dX2_writeLog_30 : decode cX2_writeLog 30 = .ok (.invokevirtual 129, 3) := by decide +kernel
theorem dX2_writeLog_33 : decode cX2_writeLog 33 = .ok (.aload_n 0, 1) := by decide +kernel
theorem dX2_writeLog_34 : decode cX2_writeLog 34 = .ok (.getfield 31, 3) := by decide +kernel
theorem dX2_writeLog_37 : decode cX2_writeLog 37 = .ok (.iload 5, 2) := by decide +kernel
theorem dX2_writeLog_39 : decode cX2_writeLog 39 = .ok (.iconst 2, 1) := by decide +kernel
theorem dX2_writeLog_40 : decode cX2_writeLog 40 = .ok (.iload_n 3, 1) := by decide +kernel
theorem dX2_writeLog_41 : decode cX2_writeLog 41 = .ok (.invokevirtual 129, 3) := by decide +kernel
theorem dX2_writeLog_44 : decode cX2_writeLog 44 = .ok (.aload_n 0, 1) := by decide +kernel
theorem dX2_writeLog_45 : decode cX2_writeLog 45 = .ok (.getfield 31, 3) := by decide +kernel
theorem dX2_writeLog_48 : decode cX2_writeLog 48 = .ok (.iload 5, 2) := by decide +kernel
theorem dX2_writeLog_50 : decode cX2_writeLog 50 = .ok (.iconst 3, 1) := by decide +kernel
theorem dX2_writeLog_51 : decode cX2_writeLog 51 = .ok (.iload 4, 2) := by decide +kernel
theorem dX2_writeLog_53 : decode cX2_writeLog 53 = .ok (.invokevirtual 129, 3) := by decide +kernel
theorem dX2_writeLog_56 : decode cX2_writeLog 56 = .ok (.aload_n 0, 1) := by decide +kernel
theorem dX2_writeLog_57 : decode cX2_writeLog 57 = .ok (.getfield 31, 3) := by decide +kernel
theorem dX2_writeLog_60 : decode cX2_writeLog 60 = .ok (.iload 5, 2) := by decide +kernel
theorem dX2_writeLog_62 : decode cX2_writeLog 62 = .ok (.iconst 4, 1) := by decide +kernel
theorem dX2_writeLog_63 : decode cX2_writeLog 63 = .ok (.aload_n 0, 1) := by decide +kernel
theorem dX2_writeLog_64 : decode cX2_writeLog 64 = .ok (.getfield 47, 3) := by decide +kernel
theorem dX2_writeLog_67 : decode cX2_writeLog 67 = .ok (.invokevirtual 129, 3) := by decide +kernel
theorem dX2_writeLog_70 : decode cX2_writeLog 70 = .ok (.return_, 1) := by decide +kernel
theorem dX2_linesInCache_0 : decode cX2_linesInCache 0 = .ok (.iconst 0, 1) := by decide +kernel
theorem dX2_linesInCache_1 : decode cX2_linesInCache 1 = .ok (.istore_n 1, 1) := by decide +kernel
theorem dX2_linesInCache_2 : decode cX2_linesInCache 2 = .ok (.iconst 0, 1) := by decide +kernel
theorem dX2_linesInCache_3 : decode cX2_linesInCache 3 = .ok (.istore_n 2, 1) := by decide +kernel
theorem dX2_linesInCache_4 : decode cX2_linesInCache 4 = .ok (.iload_n 2, 1) := by decide +kernel
theorem dX2_linesInCache_5 : decode cX2_linesInCache 5 = .ok (.bipush 8, 2) := by decide +kernel
theorem dX2_linesInCache_7 : decode cX2_linesInCache 7 = .ok (.if_icmp .ge 21, 3) := by decide +kernel
theorem dX2_linesInCache_10 : decode cX2_linesInCache 10 = .ok (.iload_n 1, 1) := by decide +kernel
theorem dX2_linesInCache_11 : decode cX2_linesInCache 11 = .ok (.aload_n 0, 1) := by decide +kernel
theorem dX2_linesInCache_12 : decode cX2_linesInCache 12 = .ok (.getfield 11, 3) := by decide +kernel
theorem dX2_linesInCache_15 : decode cX2_linesInCache 15 = .ok (.iload_n 2, 1) := by decide +kernel
theorem dX2_linesInCache_16 : decode cX2_linesInCache 16 = .ok (.aaload, 1) := by decide +kernel
theorem dX2_linesInCache_17 : decode cX2_linesInCache 17 = .ok (.getfield 157, 3) := by decide +kernel
theorem dX2_linesInCache_20 : decode cX2_linesInCache 20 = .ok (.iadd, 1) := by decide +kernel
theorem dX2_linesInCache_21 : decode cX2_linesInCache 21 = .ok (.istore_n 1, 1) := by decide +kernel
theorem dX2_linesInCache_22 : decode cX2_linesInCache 22 = .ok (.iinc 2 1, 3) := by decide +kernel
theorem dX2_linesInCache_25 : decode cX2_linesInCache 25 = .ok (.goto (-21), 3) := by decide +kernel
theorem dX2_linesInCache_28 : decode cX2_linesInCache 28 = .ok (.iload_n 1, 1) := by decide +kernel
theorem dX2_linesInCache_29 : decode cX2_linesInCache 29 = .ok (.ireturn, 1) := by decide +kernel
theorem dX2_newLinesOf_0 : decode cX2_newLinesOf 0 = .ok (.iconst 0, 1) := by decide +kernel
theorem dX2_newLinesOf_1 : decode cX2_newLinesOf 1 = .ok (.istore_n 2, 1) := by decide +kernel
theorem dX2_newLinesOf_2 : decode cX2_newLinesOf 2 = .ok (.iconst 0, 1) := by decide +kernel
theorem dX2_newLinesOf_3 : decode cX2_newLinesOf 3 = .ok (.istore_n 3, 1) := by decide +kernel
theorem dX2_newLinesOf_4 : decode cX2_newLinesOf 4 = .ok (.iload_n 3, 1) := by decide +kernel
theorem dX2_newLinesOf_5 : decode cX2_newLinesOf 5 = .ok (.bipush 8, 2) := by decide +kernel
theorem dX2_newLinesOf_7 : decode cX2_newLinesOf 7 = .ok (.if_icmp .ge 67, 3) := by decide +kernel
theorem dX2_newLinesOf_10 : decode cX2_newLinesOf 10 = .ok (.iconst 0, 1) := by decide +kernel
theorem dX2_newLinesOf_11 : decode cX2_newLinesOf 11 = .ok (.istore 4, 2) := by decide +kernel
theorem dX2_newLinesOf_13 : decode cX2_newLinesOf 13 = .ok (.iload 4, 2) := by decide +kernel
theorem dX2_newLinesOf_15 : decode cX2_newLinesOf 15 = .ok (.aload_n 0, 1) := by decide +kernel
theorem dX2_newLinesOf_16 : decode cX2_newLinesOf 16 = .ok (.getfield 11, 3) := by decide +kernel
theorem dX2_newLinesOf_19 : decode cX2_newLinesOf 19 = .ok (.iload_n 3, 1) := by decide +kernel
theorem dX2_newLinesOf_20 : decode cX2_newLinesOf 20 = .ok (.aaload, 1) := by decide +kernel
theorem dX2_newLinesOf_21 : decode cX2_newLinesOf 21 = .ok (.getfield 157, 3) := by decide +kernel
theorem dX2_newLinesOf_24 : decode cX2_newLinesOf 24 = .ok (.if_icmp .ge 44, 3) := by decide +kernel
theorem dX2_newLinesOf_27 : decode cX2_newLinesOf 27 = .ok (.aload_n 0, 1) := by decide +kernel
theorem dX2_newLinesOf_28 : decode cX2_newLinesOf 28 = .ok (.getfield 11, 3) := by decide +kernel
theorem dX2_newLinesOf_31 : decode cX2_newLinesOf 31 = .ok (.iload_n 3, 1) := by decide +kernel
theorem dX2_newLinesOf_32 : decode cX2_newLinesOf 32 = .ok (.aaload, 1) := by decide +kernel
theorem dX2_newLinesOf_33 : decode cX2_newLinesOf 33 = .ok (.iload 4, 2) := by decide +kernel
theorem dX2_newLinesOf_35 : decode cX2_newLinesOf 35 = .ok (.iconst 2, 1) := by decide +kernel
theorem dX2_newLinesOf_36 : decode cX2_newLinesOf 36 = .ok (.invokevirtual 122, 3) := by decide +kernel
theorem dX2_newLinesOf_39 : decode cX2_newLinesOf 39 = .ok (.iconst 1, 1) := by decide +kernel
theorem dX2_newLinesOf_40 : decode cX2_newLinesOf 40 = .ok (.if_icmp .ne 22, 3) := by decide +kernel
theorem dX2_newLinesOf_43 : decode cX2_newLinesOf 43 = .ok (.aload_n 0, 1) := by decide +kernel
theorem dX2_newLinesOf_44 : decode cX2_newLinesOf 44 = .ok (.getfield 11, 3) := by decide +kernel
theorem dX2_newLinesOf_47 : decode cX2_newLinesOf 47 = .ok (.iload_n 3, 1) := by decide +kernel
theorem dX2_newLinesOf_48 : decode cX2_newLinesOf 48 = .ok (.aaload, 1) := by decide +kernel
theorem dX2_newLinesOf_49 : decode cX2_newLinesOf 49 = .ok (.iload 4, 2) := by decide +kernel
theorem dX2_newLinesOf_51 : decode cX2_newLinesOf 51 = .ok (.iconst 1, 1) := by decide +kernel
theorem dX2_newLinesOf_52 : decode cX2_newLinesOf 52 = .ok (.invokevirtual 122, 3) := by decide +kernel
theorem dX2_newLinesOf_55 : decode cX2_newLinesOf 55 = .ok (.iload_n 1, 1) := by decide +kernel
theorem dX2_newLinesOf_56 : decode cX2_newLinesOf 56 = .ok (.if_icmp .ne 6, 3) := by decide +kernel
theorem dX2_newLinesOf_59 : decode cX2_newLinesOf 59 = .ok (.iinc 2 1, 3) := by decide +kernel
theorem dX2_newLinesOf_62 : decode cX2_newLinesOf 62 = .ok (.iinc 4 1, 3) := by decide +kernel
theorem dX2_newLinesOf_65 : decode cX2_newLinesOf 65 = .ok (.goto (-52), 3) := by decide +kernel
theorem dX2_newLinesOf_68 : decode cX2_newLinesOf 68 = .ok (.iinc 3 1, 3) := by decide +kernel
theorem dX2_newLinesOf_71 : decode cX2_newLinesOf 71 = .ok (.goto (-67), 3) := by decide +kernel
theorem dX2_newLinesOf_74 : decode cX2_newLinesOf 74 = .ok (.iload_n 2, 1) := by decide +kernel
theorem dX2_newLinesOf_75 : decode cX2_newLinesOf 75 = .ok (.ireturn, 1) := by decide +kernel
theorem dX2_newLines_0 : decode cX2_newLines 0 = .ok (.iconst 0, 1) := by decide +kernel
theorem dX2_newLines_1 : decode cX2_newLines 1 = .ok (.istore_n 1, 1) := by decide +kernel
theorem dX2_newLines_2 : decode cX2_newLines 2 = .ok (.iconst 0, 1) := by decide +kernel
theorem dX2_newLines_3 : decode cX2_newLines 3 = .ok (.istore_n 2, 1) := by decide +kernel
theorem dX2_newLines_4 : decode cX2_newLines 4 = .ok (.iload_n 2, 1) := by decide +kernel
theorem dX2_newLines_5 : decode cX2_newLines 5 = .ok (.aload_n 0, 1) := by decide +kernel
theorem dX2_newLines_6 : decode cX2_newLines 6 = .ok (.getfield 41, 3) := by decide +kernel
theorem dX2_newLines_9 : decode cX2_newLines 9 = .ok (.if_icmp .ge 17, 3) := by decide +kernel
theorem dX2_newLines_12 : decode cX2_newLines 12 = .ok (.iload_n 1, 1) := by decide +kernel
theorem dX2_newLines_13 : decode cX2_newLines 13 = .ok (.aload_n 0, 1) := by decide +kernel
theorem dX2_newLines_14 : decode cX2_newLines 14 = .ok (.iload_n 2, 1) := by decide +kernel
theorem dX2_newLines_15 : decode cX2_newLines 15 = .ok (.invokevirtual 173, 3) := by decide +kernel
theorem dX2_newLines_18 : decode cX2_newLines 18 = .ok (.iadd, 1) := by decide +kernel
theorem dX2_newLines_19 : decode cX2_newLines 19 = .ok (.istore_n 1, 1) := by decide +kernel
theorem dX2_newLines_20 : decode cX2_newLines 20 = .ok (.iinc 2 1, 3) := by decide +kernel
theorem dX2_newLines_23 : decode cX2_newLines 23 = .ok (.goto (-19), 3) := by decide +kernel
theorem dX2_newLines_26 : decode cX2_newLines 26 = .ok (.iload_n 1, 1) := by decide +kernel
theorem dX2_newLines_27 : decode cX2_newLines 27 = .ok (.ireturn, 1) := by decide +kernel
theorem dX2_allHours_0 : decode cX2_allHours 0 = .ok (.iconst 0, 1) := by decide +kernel
theorem dX2_allHours_1 : decode cX2_allHours 1 = .ok (.istore_n 1, 1) := by decide +kernel
theorem dX2_allHours_2 : decode cX2_allHours 2 = .ok (.iconst 0, 1) := by decide +kernel
theorem dX2_allHours_3 : decode cX2_allHours 3 = .ok (.istore_n 2, 1) := by decide +kernel
theorem dX2_allHours_4 : decode cX2_allHours 4 = .ok (.iload_n 2, 1) := by decide +kernel
theorem dX2_allHours_5 : decode cX2_allHours 5 = .ok (.aload_n 0, 1) := by decide +kernel
theorem dX2_allHours_6 : decode cX2_allHours 6 = .ok (.getfield 41, 3) := by decide +kernel
theorem dX2_allHours_9 : decode cX2_allHours 9 = .ok (.if_icmp .ge 21, 3) := by decide +kernel
theorem dX2_allHours_12 : decode cX2_allHours 12 = .ok (.iload_n 1, 1) := by decide +kernel
theorem dX2_allHours_13 : decode cX2_allHours 13 = .ok (.aload_n 0, 1) := by decide +kernel
theorem dX2_allHours_14 : decode cX2_allHours 14 = .ok (.getfield 26, 3) := by decide +kernel
theorem dX2_allHours_17 : decode cX2_allHours 17 = .ok (.iload_n 2, 1) := by decide +kernel
theorem dX2_allHours_18 : decode cX2_allHours 18 = .ok (.aaload, 1) := by decide +kernel
theorem dX2_allHours_19 : decode cX2_allHours 19 = .ok (.getfield 176, 3) := by decide +kernel
theorem dX2_allHours_22 : decode cX2_allHours 22 = .ok (.iadd, 1) := by decide +kernel
theorem dX2_allHours_23 : decode cX2_allHours 23 = .ok (.istore_n 1, 1) := by decide +kernel
theorem dX2_allHours_24 : decode cX2_allHours 24 = .ok (.iinc 2 1, 3) := by decide +kernel
theorem dX2_allHours_27 : decode cX2_allHours 27 = .ok (.goto (-23), 3) := by decide +kernel
theorem dX2_allHours_30 : decode cX2_allHours 30 = .ok (.iload_n 1, 1) := by decide +kernel
theorem dX2_allHours_31 : decode cX2_allHours 31 = .ok (.ireturn, 1) := by decide +kernel
theorem dX2_programsInLog_0 : decode cX2_programsInLog 0 = .ok (.iconst 0, 1) := by decide +kernel
theorem dX2_programsInLog_1 : decode cX2_programsInLog 1 = .ok (.istore_n 1, 1) := by decide +kernel
theorem dX2_programsInLog_2 : decode cX2_programsInLog 2 = .ok (.iconst 0, 1) := by decide +kernel
theorem dX2_programsInLog_3 : decode cX2_programsInLog 3 = .ok (.istore_n 2, 1) := by decide +kernel
theorem dX2_programsInLog_4 : decode cX2_programsInLog 4 = .ok (.iload_n 2, 1) := by decide +kernel
theorem dX2_programsInLog_5 : decode cX2_programsInLog 5 = .ok (.aload_n 0, 1) := by decide +kernel
theorem dX2_programsInLog_6 : decode cX2_programsInLog 6 = .ok (.getfield 31, 3) := by decide +kernel
theorem dX2_programsInLog_9 : decode cX2_programsInLog 9 = .ok (.getfield 157, 3) := by decide +kernel
theorem dX2_programsInLog_12 : decode cX2_programsInLog 12 = .ok (.if_icmp .ge 23, 3) := by decide +kernel
theorem dX2_programsInLog_15 : decode cX2_programsInLog 15 = .ok (.iload_n 1, 1) := by decide +kernel
theorem dX2_programsInLog_16 : decode cX2_programsInLog 16 = .ok (.iconst 1, 1) := by decide +kernel
theorem dX2_programsInLog_17 : decode cX2_programsInLog 17 = .ok (.aload_n 0, 1) := by decide +kernel
theorem dX2_programsInLog_18 : decode cX2_programsInLog 18 = .ok (.getfield 31, 3) := by decide +kernel
theorem dX2_programsInLog_21 : decode cX2_programsInLog 21 = .ok (.iload_n 2, 1) := by decide +kernel
theorem dX2_programsInLog_22 : decode cX2_programsInLog 22 = .ok (.iconst 0, 1) := by decide +kernel
theorem dX2_programsInLog_23 : decode cX2_programsInLog 23 = .ok (.invokevirtual 122, 3) := by decide +kernel
theorem dX2_programsInLog_26 : decode cX2_programsInLog 26 = .ok (.ishl, 1) := by decide +kernel
theorem dX2_programsInLog_27 : decode cX2_programsInLog 27 = .ok (.ior, 1) := by decide +kernel
theorem dX2_programsInLog_28 : decode cX2_programsInLog 28 = .ok (.istore_n 1, 1) := by decide +kernel
theorem dX2_programsInLog_29 : decode cX2_programsInLog 29 = .ok (.iinc 2 1, 3) := by decide +kernel
theorem dX2_programsInLog_32 : decode cX2_programsInLog 32 = .ok (.goto (-28), 3) := by decide +kernel
theorem dX2_programsInLog_35 : decode cX2_programsInLog 35 = .ok (.iload_n 1, 1) := by decide +kernel
theorem dX2_programsInLog_36 : decode cX2_programsInLog 36 = .ok (.invokestatic 179, 3) := by decide +kernel
theorem dX2_programsInLog_39 : decode cX2_programsInLog 39 = .ok (.ireturn, 1) := by decide +kernel
theorem dX3_init_0 : decode cX3_init 0 = .ok (.aload_n 0, 1) := by decide +kernel
theorem dX3_init_1 : decode cX3_init 1 = .ok (.invokespecial 3, 3) := by decide +kernel
theorem dX3_init_4 : decode cX3_init 4 = .ok (.aload_n 0, 1) := by decide +kernel
theorem dX3_init_5 : decode cX3_init 5 = .ok (.bipush 80, 2) := by decide +kernel
theorem dX3_init_7 : decode cX3_init 7 = .ok (.newarray .char, 2) := by decide +kernel
theorem dX3_init_9 : decode cX3_init 9 = .ok (.putfield 9, 3) := by decide +kernel
theorem dX3_init_12 : decode cX3_init 12 = .ok (.aload_n 0, 1) := by decide +kernel
theorem dX3_init_13 : decode cX3_init 13 = .ok (.iconst 0, 1) := by decide +kernel
theorem dX3_init_14 : decode cX3_init 14 = .ok (.putfield 15, 3) := by decide +kernel
theorem dX3_init_17 : decode cX3_init 17 = .ok (.return_, 1) := by decide +kernel
theorem dX3_append_0 : decode cX3_append 0 = .ok (.aload_n 0, 1) := by decide +kernel
theorem dX3_append_1 : decode cX3_append 1 = .ok (.getfield 15, 3) := by decide +kernel
theorem dX3_append_4 : decode cX3_append 4 = .ok (.iconst 0, 1) := by decide +kernel
theorem dX3_append_5 : decode cX3_append 5 = .ok (.bipush 79, 2) := by decide +kernel
theorem dX3_append_7 : decode cX3_append 7 = .ok (.invokestatic 19, 3) := by decide +kernel
theorem dX3_append_10 : decode cX3_append 10 = .ok (.ifCond .eq 5, 3) := by decide +kernel
theorem dX3_append_13 : decode cX3_append 13 = .ok (.iconst 0, 1) := by decide +kernel
theorem dX3_append_14 : decode cX3_append 14 = .ok (.ireturn, 1) := by decide +kernel
theorem dX3_append_15 : decode cX3_append 15 = .ok (.aload_n 0, 1) := by decide +kernel
theorem dX3_append_16 : decode cX3_append 16 = .ok (.getfield 9, 3) := by decide +kernel
theorem dX3_append_19 : decode cX3_append 19 = .ok (.aload_n 0, 1) := by decide +kernel
theorem dX3_append_20 : decode cX3_append 20 = .ok (.getfield 15, 3) := by decide +kernel
theorem dX3_append_23 : decode cX3_append 23 = .ok (.iload_n 1, 1) := by decide +kernel
theorem dX3_append_24 : decode cX3_append 24 = .ok (.castore, 1) := by decide +kernel
theorem dX3_append_25 : decode cX3_append 25 = .ok (.aload_n 0, 1) := by decide +kernel
theorem dX3_append_26 : decode cX3_append 26 = .ok (.dup, 1) := by decide +kernel
theorem dX3_append_27 : decode cX3_append 27 = .ok (.getfield 15, 3) := by decide +kernel
theorem dX3_append_30 : decode cX3_append 30 = .ok (.iconst 1, 1) := by decide +kernel
theorem dX3_append_31 : decode cX3_append 31 = .ok (.iadd, 1) := by decide +kernel
theorem dX3_append_32 : decode cX3_append 32 = .ok (.putfield 15, 3) := by decide +kernel
theorem dX3_append_35 : decode cX3_append 35 = .ok (.iconst 1, 1) := by decide +kernel
theorem dX3_append_36 : decode cX3_append 36 = .ok (.ireturn, 1) := by decide +kernel
theorem dX3_fault_0 : decode cX3_fault 0 = .ok (.iconst 0, 1) := by decide +kernel
theorem dX3_fault_1 : decode cX3_fault 1 = .ok (.istore_n 1, 1) := by decide +kernel
theorem dX3_fault_2 : decode cX3_fault 2 = .ok (.iconst 0, 1) := by decide +kernel
theorem dX3_fault_3 : decode cX3_fault 3 = .ok (.istore_n 2, 1) := by decide +kernel
theorem dX3_fault_4 : decode cX3_fault 4 = .ok (.iconst 0, 1) := by decide +kernel
theorem dX3_fault_5 : decode cX3_fault 5 = .ok (.istore_n 3, 1) := by decide +kernel
theorem dX3_fault_6 : decode cX3_fault 6 = .ok (.iload_n 3, 1) := by decide +kernel
theorem dX3_fault_7 : decode cX3_fault 7 = .ok (.aload_n 0, 1) := by decide +kernel
theorem dX3_fault_8 : decode cX3_fault 8 = .ok (.getfield 15, 3) := by decide +kernel
theorem dX3_fault_11 : decode cX3_fault 11 = .ok (.if_icmp .ge 48, 3) := by decide +kernel
theorem dX3_fault_14 : decode cX3_fault 14 = .ok (.aload_n 0, 1) := by decide +kernel
theorem dX3_fault_15 : decode cX3_fault 15 = .ok (.getfield 9, 3) := by decide +kernel
theorem dX3_fault_18 : decode cX3_fault 18 = .ok (.iload_n 3, 1) := by decide +kernel
theorem dX3_fault_19 : decode cX3_fault 19 = .ok (.caload, 1) := by decide +kernel
theorem dX3_fault_20 : decode cX3_fault 20 = .ok (.invokestatic 23, 3) := by decide +kernel
theorem dX3_fault_23 : decode cX3_fault 23 = .ok (.ifCond .eq 9, 3) := by decide +kernel
theorem dX3_fault_26 : decode cX3_fault 26 = .ok (.iload_n 2, 1) := by decide +kernel
theorem dX3_fault_27 : decode cX3_fault 27 = .ok (.iconst 1, 1) := by decide +kernel
theorem dX3_fault_28 : decode cX3_fault 28 = .ok (.iadd, 1) := by decide +kernel
theorem dX3_fault_29 : decode cX3_fault 29 = .ok (.goto 4, 3) := by decide +kernel
theorem dX3_fault_32 : decode cX3_fault 32 = .ok (.iconst 0, 1) := by decide +kernel
theorem dX3_fault_33 : decode cX3_fault 33 = .ok (.istore_n 2, 1) := by decide +kernel
theorem dX3_fault_34 : decode cX3_fault 34 = .ok (.iload_n 1, 1) := by decide +kernel
theorem dX3_fault_35 : decode cX3_fault 35 = .ok (.aload_n 0, 1) := by decide +kernel
theorem dX3_fault_36 : decode cX3_fault 36 = .ok (.getfield 9, 3) := by decide +kernel
theorem dX3_fault_39 : decode cX3_fault 39 = .ok (.iload_n 3, 1) := by decide +kernel
theorem dX3_fault_40 : decode cX3_fault 40 = .ok (.caload, 1) := by decide +kernel
theorem dX3_fault_41 : decode cX3_fault 41 = .ok (.iload_n 2, 1) := by decide +kernel
theorem dX3_fault_42 : decode cX3_fault 42 = .ok (.invokestatic 27, 3) := by decide +kernel
theorem dX3_fault_45 : decode cX3_fault 45 = .ok (.istore_n 1, 1) := by decide +kernel
theorem dX3_fault_46 : decode cX3_fault 46 = .ok (.iload_n 1, 1) := by decide +kernel
theorem dX3_fault_47 : decode cX3_fault 47 = .ok (.iconst 4, 1) := by decide +kernel
theorem dX3_fault_48 : decode cX3_fault 48 = .ok (.if_icmp .ne 5, 3) := by decide +kernel
theorem dX3_fault_51 : decode cX3_fault 51 = .ok (.iload_n 3, 1) := by decide +kernel
theorem dX3_fault_52 : decode cX3_fault 52 = .ok (.ireturn, 1) := by decide +kernel
theorem dX3_fault_53 : decode cX3_fault 53 = .ok (.iinc 3 1, 3) := by decide +kernel
theorem dX3_fault_56 : decode cX3_fault 56 = .ok (.goto (-50), 3) := by decide +kernel
theorem dX3_fault_59 : decode cX3_fault 59 = .ok (.iload_n 1, 1) := by decide +kernel
theorem dX3_fault_60 : decode cX3_fault 60 = .ok (.ifCond .eq 8, 3) := by decide +kernel
theorem dX3_fault_63 : decode cX3_fault 63 = .ok (.iload_n 1, 1) := by decide +kernel
theorem dX3_fault_64 : decode cX3_fault 64 = .ok (.iconst 1, 1) := by decide +kernel
theorem dX3_fault_65 : decode cX3_fault 65 = .ok (.if_icmp .ne 10, 3) := by decide +kernel
theorem dX3_fault_68 : decode cX3_fault 68 = .ok (.aload_n 0, 1) := by decide +kernel
theorem dX3_fault_69 : decode cX3_fault 69 = .ok (.getfield 15, 3) := by decide +kernel
theorem dX3_fault_72 : decode cX3_fault 72 = .ok (.goto 5, 3) := by decide +kernel
theorem dX3_fault_75 : decode cX3_fault 75 = .ok (.ldc 31, 2) := by decide +kernel
theorem dX3_fault_77 : decode cX3_fault 77 = .ok (.ireturn, 1) := by decide +kernel
theorem dX3_dueBehind_0 : decode cX3_dueBehind 0 = .ok (.iload_n 0, 1) := by decide +kernel
theorem dX3_dueBehind_1 : decode cX3_dueBehind 1 = .ok (.tableswitch 95 0 2 #[27, 44, 65], 27) := by decide +kernel
theorem dX3_dueBehind_28 : decode cX3_dueBehind 28 = .ok (.iload_n 1, 1) := by decide +kernel
theorem dX3_dueBehind_29 : decode cX3_dueBehind 29 = .ok (.bipush 97, 2) := by decide +kernel
theorem dX3_dueBehind_31 : decode cX3_dueBehind 31 = .ok (.bipush 112, 2) := by decide +kernel
theorem dX3_dueBehind_33 : decode cX3_dueBehind 33 = .ok (.invokestatic 19, 3) := by decide +kernel
theorem dX3_dueBehind_36 : decode cX3_dueBehind 36 = .ok (.ifCond .eq 7, 3) := by decide +kernel
theorem dX3_dueBehind_39 : decode cX3_dueBehind 39 = .ok (.iconst 4, 1) := by decide +kernel
theorem dX3_dueBehind_40 : decode cX3_dueBehind 40 = .ok (.goto 4, 3) := by decide +kernel
theorem dX3_dueBehind_43 : decode cX3_dueBehind 43 = .ok (.iconst 1, 1) := by decide +kernel
theorem dX3_dueBehind_44 : decode cX3_dueBehind 44 = .ok (.ireturn, 1) := by decide +kernel
theorem dX3_dueBehind_45 : decode cX3_dueBehind 45 = .ok (.iload_n 1, 1) := by decide +kernel
theorem dX3_dueBehind_46 : decode cX3_dueBehind 46 = .ok (.invokestatic 23, 3) := by decide +kernel
theorem dX3_dueBehind_49 : decode cX3_dueBehind 49 = .ok (.ifCond .ne 5, 3) := by decide +kernel
theorem dX3_dueBehind_52 : decode cX3_dueBehind 52 = .ok (.iconst 4, 1) := by decide +kernel
theorem dX3_dueBehind_53 : decode cX3_dueBehind 53 = .ok (.ireturn, 1) := by decide +kernel
theorem dX3_dueBehind_54 : decode cX3_dueBehind 54 = .ok (.iload_n 1, 1) := by decide +kernel
theorem dX3_dueBehind_55 : decode cX3_dueBehind 55 = .ok (.bipush 48, 2) := by decide +kernel
theorem dX3_dueBehind_57 : decode cX3_dueBehind 57 = .ok (.if_icmp .ne 7, 3) := by decide +kernel
theorem dX3_dueBehind_60 : decode cX3_dueBehind 60 = .ok (.iconst 3, 1) := by decide +kernel
theorem dX3_dueBehind_61 : decode cX3_dueBehind 61 = .ok (.goto 4, 3) := by decide +kernel
theorem dX3_dueBehind_64 : decode cX3_dueBehind 64 = .ok (.iconst 2, 1) := by decide +kernel
theorem dX3_dueBehind_65 : decode cX3_dueBehind 65 = .ok (.ireturn, 1) := by decide +kernel
theorem dX3_dueBehind_66 : decode cX3_dueBehind 66 = .ok (.iload_n 1, 1) := by decide +kernel
theorem dX3_dueBehind_67 : decode cX3_dueBehind 67 = .ok (.invokestatic 23, 3) := by decide +kernel
theorem dX3_dueBehind_70 : decode cX3_dueBehind 70 = .ok (.ifCond .eq 14, 3) := by decide +kernel
theorem dX3_dueBehind_73 : decode cX3_dueBehind 73 = .ok (.iload_n 2, 1) := by decide +kernel
theorem dX3_dueBehind_74 : decode cX3_dueBehind 74 = .ok (.iconst 4, 1) := by decide +kernel
theorem dX3_dueBehind_75 : decode cX3_dueBehind 75 = .ok (.if_icmp .ge 7, 3) := by decide +kernel
theorem dX3_dueBehind_78 : decode cX3_dueBehind 78 = .ok (.iconst 2, 1) := by decide +kernel
theorem dX3_dueBehind_79 : decode cX3_dueBehind 79 = .ok (.goto 4, 3) := by decide +kernel
theorem dX3_dueBehind_82 : decode cX3_dueBehind 82 = .ok (.iconst 3, 1) := by decide +kernel
theorem dX3_dueBehind_83 : decode cX3_dueBehind 83 = .ok (.ireturn, 1) := by decide +kernel
theorem dX3_dueBehind_84 : decode cX3_dueBehind 84 = .ok (.iload_n 1, 1) := by decide +kernel
theorem dX3_dueBehind_85 : decode cX3_dueBehind 85 = .ok (.bipush 44, 2) := by decide +kernel
theorem dX3_dueBehind_87 : decode cX3_dueBehind 87 = .ok (.if_icmp .ne 7, 3) := by decide +kernel
theorem dX3_dueBehind_90 : decode cX3_dueBehind 90 = .ok (.iconst 0, 1) := by decide +kernel
theorem dX3_dueBehind_91 : decode cX3_dueBehind 91 = .ok (.goto 4, 3) := by decide +kernel
theorem dX3_dueBehind_94 : decode cX3_dueBehind 94 = .ok (.iconst 4, 1) := by decide +kernel
theorem dX3_dueBehind_95 : decode cX3_dueBehind 95 = .ok (.ireturn, 1) := by decide +kernel
theorem dX3_dueBehind_96 : decode cX3_dueBehind 96 = .ok (.iload_n 1, 1) := by decide +kernel
theorem dX3_dueBehind_97 : decode cX3_dueBehind 97 = .ok (.bipush 44, 2) := by decide +kernel
theorem dX3_dueBehind_99 : decode cX3_dueBehind 99 = .ok (.if_icmp .ne 7, 3) := by decide +kernel
theorem dX3_dueBehind_102 : decode cX3_dueBehind 102 = .ok (.iconst 0, 1) := by decide +kernel
theorem dX3_dueBehind_103 : decode cX3_dueBehind 103 = .ok (.goto 4, 3) := by decide +kernel
theorem dX3_dueBehind_106 : decode cX3_dueBehind 106 = .ok (.iconst 4, 1) := by decide +kernel
theorem dX3_dueBehind_107 : decode cX3_dueBehind 107 = .ok (.ireturn, 1) := by decide +kernel
theorem dX3_isDigit_0 : decode cX3_isDigit 0 = .ok (.iload_n 0, 1) := by decide +kernel
theorem dX3_isDigit_1 : decode cX3_isDigit 1 = .ok (.bipush 48, 2) := by decide +kernel
theorem dX3_isDigit_3 : decode cX3_isDigit 3 = .ok (.if_icmp .lt 13, 3) := by decide +kernel
theorem dX3_isDigit_6 : decode cX3_isDigit 6 = .ok (.iload_n 0, 1) := by decide +kernel
theorem dX3_isDigit_7 : decode cX3_isDigit 7 = .ok (.bipush 57, 2) := by decide +kernel
theorem dX3_isDigit_9 : decode cX3_isDigit 9 = .ok (.if_icmp .gt 7, 3) := by decide +kernel
theorem dX3_isDigit_12 : decode cX3_isDigit 12 = .ok (.iconst 1, 1) := by decide +kernel
theorem dX3_isDigit_13 : decode cX3_isDigit 13 = .ok (.goto 4, 3) := by decide +kernel
theorem dX3_isDigit_16 : decode cX3_isDigit 16 = .ok (.iconst 0, 1) := by decide +kernel
theorem dX3_isDigit_17 : decode cX3_isDigit 17 = .ok (.ireturn, 1) := by decide +kernel
theorem dX3_performOn_0 : decode cX3_performOn 0 = .ok (.iconst 0, 1) := by decide +kernel
theorem dX3_performOn_1 : decode cX3_performOn 1 = .ok (.istore_n 2, 1) := by decide +kernel
theorem dX3_performOn_2 : decode cX3_performOn 2 = .ok (.iconst 0, 1) := by decide +kernel
theorem dX3_performOn_3 : decode cX3_performOn 3 = .ok (.istore_n 3, 1) := by decide +kernel
theorem dX3_performOn_4 : decode cX3_performOn 4 = .ok (.iconst 0, 1) := by decide +kernel
theorem dX3_performOn_5 : decode cX3_performOn 5 = .ok (.istore 4, 2) := by decide +kernel
theorem dX3_performOn_7 : decode cX3_performOn 7 = .ok (.iconst 0, 1) := by decide +kernel
theorem dX3_performOn_8 : decode cX3_performOn 8 = .ok (.istore 5, 2) := by decide +kernel
theorem dX3_performOn_10 : decode cX3_performOn 10 = .ok (.iload 5, 2) := by decide +kernel
theorem dX3_performOn_12 : decode cX3_performOn 12 = .ok (.aload_n 0, 1) := by decide +kernel
theorem dX3_performOn_13 : decode cX3_performOn 13 = .ok (.getfield 15, 3) := by decide +kernel
theorem dX3_performOn_16 : decode cX3_performOn 16 = .ok (.if_icmp .gt 88, 3) := by decide +kernel
theorem dX3_performOn_19 : decode cX3_performOn 19 = .ok (.iload 5, 2) := by decide +kernel
theorem dX3_performOn_21 : decode cX3_performOn 21 = .ok (.aload_n 0, 1) := by decide +kernel
theorem dX3_performOn_22 : decode cX3_performOn 22 = .ok (.getfield 15, 3) := by decide +kernel
theorem dX3_performOn_25 : decode cX3_performOn 25 = .ok (.if_icmp .ge 13, 3) := by decide +kernel
theorem dX3_performOn_28 : decode cX3_performOn 28 = .ok (.aload_n 0, 1) := by decide +kernel
theorem dX3_performOn_29 : decode cX3_performOn 29 = .ok (.getfield 9, 3) := by decide +kernel
theorem dX3_performOn_32 : decode cX3_performOn 32 = .ok (.iload 5, 2) := by decide +kernel
theorem dX3_performOn_34 : decode cX3_performOn 34 = .ok (.caload, 1) := by decide +kernel
theorem dX3_performOn_35 : decode cX3_performOn 35 = .ok (.goto 5, 3) := by decide +kernel
theorem dX3_performOn_38 : decode cX3_performOn 38 = .ok (.bipush 44, 2) := by decide +kernel
theorem dX3_performOn_40 : decode cX3_performOn 40 = .ok (.istore 6, 2) := by decide +kernel
theorem dX3_performOn_42 : decode cX3_performOn 42 = .ok (.iload 6, 2) := by decide +kernel
theorem dX3_performOn_44 : decode cX3_performOn 44 = .ok (.invokestatic 23, 3) := by decide +kernel
theorem dX3_performOn_47 : decode cX3_performOn 47 = .ok (.ifCond .eq 19, 3) := by decide +kernel
theorem dX3_performOn_50 : decode cX3_performOn 50 = .ok (.iload 4, 2) := by decide +kernel
theorem dX3_performOn_52 : decode cX3_performOn 52 = .ok (.bipush 10, 2) := by decide +kernel
theorem dX3_performOn_54 : decode cX3_performOn 54 = .ok (.imul, 1) := by decide +kernel
theorem dX3_performOn_55 : decode cX3_performOn 55 = .ok (.iload 6, 2) := by decide +kernel
theorem dX3_performOn_57 : decode cX3_performOn 57 = .ok (.bipush 48, 2) := by decide +kernel
theorem dX3_performOn_59 : decode cX3_performOn 59 = .ok (.isub, 1) := by decide +kernel
theorem dX3_performOn_60 : decode cX3_performOn 60 = .ok (.iadd, 1) := by decide +kernel
theorem dX3_performOn_61 : decode cX3_performOn 61 = .ok (.istore 4, 2) := by decide +kernel
theorem dX3_performOn_63 : decode cX3_performOn 63 = .ok (.goto 35, 3) := by decide +kernel
theorem dX3_performOn_66 : decode cX3_performOn 66 = .ok (.iload 6, 2) := by decide +kernel
theorem dX3_performOn_68 : decode cX3_performOn 68 = .ok (.bipush 44, 2) := by decide +kernel
theorem dX3_performOn_70 : decode cX3_performOn 70 = .ok (.if_icmp .ne 22, 3) := by decide +kernel
theorem dX3_performOn_73 : decode cX3_performOn 73 = .ok (.aload_n 1, 1) := by decide +kernel
theorem dX3_performOn_74 : decode cX3_performOn 74 = .ok (.iload_n 3, 1) := by decide +kernel
theorem dX3_performOn_75 : decode cX3_performOn 75 = .ok (.iload 4, 2) := by decide +kernel
theorem dX3_performOn_77 : decode cX3_performOn 77 = .ok (.invokevirtual 32, 3) := by decide +kernel
theorem dX3_performOn_80 : decode cX3_performOn 80 = .ok (.ifCond .eq 6, 3) := by decide +kernel
theorem dX3_performOn_83 : decode cX3_performOn 83 = .ok (.iinc 2 1, 3) := by decide +kernel
theorem dX3_performOn_86 : decode cX3_performOn 86 = .ok (.iconst 0, 1) := by decide +kernel
theorem dX3_performOn_87 : decode cX3_performOn 87 = .ok (.istore 4, 2) := by decide +kernel
theorem dX3_performOn_89 : decode cX3_performOn 89 = .ok (.goto 9, 3) := by decide +kernel
theorem dX3_performOn_92 : decode cX3_performOn 92 = .ok (.iload 6, 2) := by decide +kernel
theorem dX3_performOn_94 : decode cX3_performOn 94 = .ok (.bipush 97, 2) := by decide +kernel
theorem dX3_performOn_96 : decode cX3_performOn 96 = .ok (.isub, 1) := by decide +kernel
theorem dX3_performOn_97 : decode cX3_performOn 97 = .ok (.istore_n 3, 1) := by decide +kernel
theorem dX3_performOn_98 : decode cX3_performOn 98 = .ok (.iinc 5 1, 3) := by decide +kernel
theorem dX3_performOn_101 : decode cX3_performOn 101 = .ok (.goto (-91), 3) := by decide +kernel
theorem dX3_performOn_104 : decode cX3_performOn 104 = .ok (.iload_n 2, 1) := by decide +kernel
theorem dX3_performOn_105 : decode cX3_performOn 105 = .ok (.ireturn, 1) := by decide +kernel
theorem dX4_init_0 : decode cX4_init 0 = .ok (.aload_n 0, 1) := by decide +kernel
theorem dX4_init_1 : decode cX4_init 1 = .ok (.invokespecial 1, 3) := by decide +kernel
theorem dX4_init_4 : decode cX4_init 4 = .ok (.aload_n 0, 1) := by decide +kernel
theorem dX4_init_5 : decode cX4_init 5 = .ok (.new 7, 3) := by decide +kernel
theorem dX4_init_8 : decode cX4_init 8 = .ok (.dup, 1) := by decide +kernel
theorem dX4_init_9 : decode cX4_init 9 = .ok (.invokespecial 9, 3) := by decide +kernel
theorem dX4_init_12 : decode cX4_init 12 = .ok (.putfield 10, 3) := by decide +kernel
theorem dX4_init_15 : decode cX4_init 15 = .ok (.aload_n 0, 1) := by decide +kernel
theorem dX4_init_16 : decode cX4_init 16 = .ok (.new 7, 3) := by decide +kernel
theorem dX4_init_19 : decode cX4_init 19 = .ok (.dup, 1) := by decide +kernel
theorem dX4_init_20 : decode cX4_init 20 = .ok (.invokespecial 9, 3) := by decide +kernel
theorem dX4_init_23 : decode cX4_init 23 = .ok (.putfield 16, 3) := by decide +kernel
theorem dX4_init_26 : decode cX4_init 26 = .ok (.aload_n 0, 1) := by decide +kernel
theorem dX4_init_27 : decode cX4_init 27 = .ok (.new 7, 3) := by decide +kernel
theorem dX4_init_30 : decode cX4_init 30 = .ok (.dup, 1) := by decide +kernel
theorem dX4_init_31 : decode cX4_init 31 = .ok (.invokespecial 9, 3) := by decide +kernel
theorem dX4_init_34 : decode cX4_init 34 = .ok (.putfield 19, 3) := by decide +kernel
theorem dX4_init_37 : decode cX4_init 37 = .ok (.aload_n 0, 1) := by decide +kernel
theorem dX4_init_38 : decode cX4_init 38 = .ok (.iconst 4, 1) := by decide +kernel
theorem dX4_init_39 : decode cX4_init 39 = .ok (.anewarray 7, 3) := by decide +kernel
theorem dX4_init_42 : decode cX4_init 42 = .ok (.putfield 22, 3) := by decide +kernel
theorem dX4_init_45 : decode cX4_init 45 = .ok (.iconst 0, 1) := by decide +kernel
theorem dX4_init_46 : decode cX4_init 46 = .ok (.istore_n 1, 1) := by decide +kernel
theorem dX4_init_47 : decode cX4_init 47 = .ok (.iload_n 1, 1) := by decide +kernel
theorem dX4_init_48 : decode cX4_init 48 = .ok (.iconst 4, 1) := by decide +kernel
theorem dX4_init_49 : decode cX4_init 49 = .ok (.if_icmp .ge 22, 3) := by decide +kernel
theorem dX4_init_52 : decode cX4_init 52 = .ok (.aload_n 0, 1) := by decide +kernel
theorem dX4_init_53 : decode cX4_init 53 = .ok (.getfield 22, 3) := by decide +kernel
theorem dX4_init_56 : decode cX4_init 56 = .ok (.iload_n 1, 1) := by decide +kernel
theorem dX4_init_57 : decode cX4_init 57 = .ok (.new 7, 3) := by decide +kernel
theorem dX4_init_60 : decode cX4_init 60 = .ok (.dup, 1) := by decide +kernel
theorem dX4_init_61 : decode cX4_init 61 = .ok (.invokespecial 9, 3) := by decide +kernel
theorem dX4_init_64 : decode cX4_init 64 = .ok (.aastore, 1) := by decide +kernel
theorem dX4_init_65 : decode cX4_init 65 = .ok (.iinc 1 1, 3) := by decide +kernel
theorem dX4_init_68 : decode cX4_init 68 = .ok (.goto (-21), 3) := by decide +kernel
theorem dX4_init_71 : decode cX4_init 71 = .ok (.aload_n 0, 1) := by decide +kernel
theorem dX4_init_72 : decode cX4_init 72 = .ok (.new 26, 3) := by decide +kernel
theorem dX4_init_75 : decode cX4_init 75 = .ok (.dup, 1) := by decide +kernel
theorem dX4_init_76 : decode cX4_init 76 = .ok (.invokespecial 28, 3) := by decide +kernel
theorem dX4_init_79 : decode cX4_init 79 = .ok (.putfield 29, 3) := by decide +kernel
theorem dX4_init_82 : decode cX4_init 82 = .ok (.aload_n 0, 1) := by decide +kernel
theorem dX4_init_83 : decode cX4_init 83 = .ok (.iconst 0, 1) := by decide +kernel
theorem dX4_init_84 : decode cX4_init 84 = .ok (.putfield 33, 3) := by decide +kernel
theorem dX4_init_87 : decode cX4_init 87 = .ok (.aload_n 0, 1) := by decide +kernel
theorem dX4_init_88 : decode cX4_init 88 = .ok (.iconst 0, 1) := by decide +kernel
theorem dX4_init_89 : decode cX4_init 89 = .ok (.putfield 37, 3) := by decide +kernel
theorem dX4_init_92 : decode cX4_init 92 = .ok (.return_, 1) := by decide +kernel
theorem dX4_shape_0 : decode cX4_shape 0 = .ok (.iload_n 1, 1) := by decide +kernel
theorem dX4_shape_1 : decode cX4_shape 1 = .ok (.iconst 1, 1) := by decide +kernel
theorem dX4_shape_2 : decode cX4_shape 2 = .ok (.bipush 8, 2) := by decide +kernel
theorem dX4_shape_4 : decode cX4_shape 4 = .ok (.invokestatic 41, 3) := by decide +kernel
theorem dX4_shape_7 : decode cX4_shape 7 = .ok (.ifCond .ne 12, 3) := by decide +kernel
theorem dX4_shape_10 : decode cX4_shape 10 = .ok (.iload_n 2, 1) := by decide +kernel
theorem dX4_shape_11 : decode cX4_shape 11 = .ok (.iconst 1, 1) := by decide +kernel
theorem dX4_shape_12 : decode cX4_shape 12 = .ok (.iconst 4, 1) := by decide +kernel
theorem dX4_shape_13 : decode cX4_shape 13 = .ok (.invokestatic 41, 3) := by decide +kernel
theorem dX4_shape_16 : decode cX4_shape 16 = .ok (.ifCond .eq 6, 3) := by decide +kernel
theorem dX4_shape_19 : decode cX4_shape 19 = .ok (.ldc 45, 2) := by decide +kernel
theorem dX4_shape_21 : decode cX4_shape 21 = .ok (.ireturn, 1) := by decide +kernel
theorem dX4_shape_22 : decode cX4_shape 22 = .ok (.iload_n 1, 1) := by decide +kernel
theorem dX4_shape_23 : decode cX4_shape 23 = .ok (.aload_n 0, 1) := by decide +kernel
theorem dX4_shape_24 : decode cX4_shape 24 = .ok (.getfield 10, 3) := by decide +kernel
theorem dX4_shape_27 : decode cX4_shape 27 = .ok (.getfield 46, 3) := by decide +kernel
theorem dX4_shape_30 : decode cX4_shape 30 = .ok (.if_icmp .ne 17, 3) := by decide +kernel
theorem dX4_shape_33 : decode cX4_shape 33 = .ok (.iload_n 2, 1) := by decide +kernel
theorem dX4_shape_34 : decode cX4_shape 34 = .ok (.aload_n 0, 1) := by decide +kernel
theorem dX4_shape_35 : decode cX4_shape 35 = .ok (.getfield 10, 3) := by decide +kernel
theorem dX4_shape_38 : decode cX4_shape 38 = .ok (.getfield 49, 3) := by decide +kernel
theorem dX4_shape_41 : decode cX4_shape 41 = .ok (.if_icmp .ne 6, 3) := by decide +kernel
theorem dX4_shape_44 : decode cX4_shape 44 = .ok (.ldc 52, 2) := by decide +kernel
theorem dX4_shape_46 : decode cX4_shape 46 = .ok (.ireturn, 1) := by decide +kernel
theorem dX4_shape_47 : decode cX4_shape 47 = .ok (.aload_n 0, 1) := by decide +kernel
theorem dX4_shape_48 : decode cX4_shape 48 = .ok (.invokevirtual 53, 3) := by decide +kernel
theorem dX4_shape_51 : decode cX4_shape 51 = .ok (.aload_n 0, 1) := by decide +kernel
theorem dX4_shape_52 : decode cX4_shape 52 = .ok (.getfield 10, 3) := by decide +kernel
theorem dX4_shape_55 : decode cX4_shape 55 = .ok (.invokevirtual 56, 3) := by decide +kernel
theorem dX4_shape_58 : decode cX4_shape 58 = .ok (.istore_n 3, 1) := by decide +kernel
theorem dX4_shape_59 : decode cX4_shape 59 = .ok (.aload_n 0, 1) := by decide +kernel
theorem dX4_shape_60 : decode cX4_shape 60 = .ok (.getfield 10, 3) := by decide +kernel
theorem dX4_shape_63 : decode cX4_shape 63 = .ok (.getfield 60, 3) := by decide +kernel
theorem dX4_shape_66 : decode cX4_shape 66 = .ok (.iconst 0, 1) := by decide +kernel
theorem dX4_shape_67 : decode cX4_shape 67 = .ok (.putfield 64, 3) := by decide +kernel
theorem dX4_shape_70 : decode cX4_shape 70 = .ok (.aload_n 0, 1) := by decide +kernel
theorem dX4_shape_71 : decode cX4_shape 71 = .ok (.getfield 10, 3) := by decide +kernel
theorem dX4_shape_74 : decode cX4_shape 74 = .ok (.iload_n 1, 1) := by decide +kernel
theorem dX4_shape_75 : decode cX4_shape 75 = .ok (.putfield 46, 3) := by decide +kernel
theorem dX4_shape_78 : decode cX4_shape 78 = .ok (.aload_n 0, 1) := by decide +kernel
theorem dX4_shape_79 : decode cX4_shape 79 = .ok (.getfield 10, 3) := by decide +kernel
theorem dX4_shape_82 : decode cX4_shape 82 = .ok (.iload_n 2, 1) := by decide +kernel
theorem dX4_shape_83 : decode cX4_shape 83 = .ok (.putfield 49, 3) := by decide +kernel
theorem dX4_shape_86 : decode cX4_shape 86 = .ok (.iload_n 3, 1) := by decide +kernel
theorem dX4_shape_87 : decode cX4_shape 87 = .ok (.ireturn, 1) := by decide +kernel
theorem dX4_flush_0 : decode cX4_flush 0 = .ok (.aload_n 0, 1) := by decide +kernel
theorem dX4_flush_1 : decode cX4_flush 1 = .ok (.getfield 10, 3) := by decide +kernel
theorem dX4_flush_4 : decode cX4_flush 4 = .ok (.invokevirtual 69, 3) := by decide +kernel
theorem dX4_flush_7 : decode cX4_flush 7 = .ok (.ifCond .ne 6, 3) := by decide +kernel
theorem dX4_flush_10 : decode cX4_flush 10 = .ok (.ldc 52, 2) := by decide +kernel
theorem dX4_flush_12 : decode cX4_flush 12 = .ok (.ireturn, 1) := by decide +kernel
theorem dX4_flush_13 : decode cX4_flush 13 = .ok (.aload_n 0, 1) := by decide +kernel
theorem dX4_flush_14 : decode cX4_flush 14 = .ok (.invokevirtual 53, 3) := by decide +kernel
theorem dX4_flush_17 : decode cX4_flush 17 = .ok (.aload_n 0, 1) := by decide +kernel
theorem dX4_flush_18 : decode cX4_flush 18 = .ok (.getfield 10, 3) := by decide +kernel
theorem dX4_flush_21 : decode cX4_flush 21 = .ok (.invokevirtual 56, 3) := by decide +kernel
theorem dX4_flush_24 : decode cX4_flush 24 = .ok (.ireturn, 1) := by decide +kernel
theorem dX4_addHelper_0 : decode cX4_addHelper 0 = .ok (.iload_n 1, 1) := by decide +kernel
theorem dX4_addHelper_1 : decode cX4_addHelper 1 = .ok (.iconst 0, 1) := by decide +kernel
theorem dX4_addHelper_2 : decode cX4_addHelper 2 = .ok (.iconst 2, 1) := by decide +kernel
theorem dX4_addHelper_3 : decode cX4_addHelper 3 = .ok (.invokestatic 41, 3) := by decide +kernel
theorem dX4_addHelper_6 : decode cX4_addHelper 6 = .ok (.ifCond .ne 22, 3) := by decide +kernel
theorem dX4_addHelper_9 : decode cX4_addHelper 9 = .ok (.iload_n 2, 1) := by decide +kernel
theorem dX4_addHelper_10 : decode cX4_addHelper 10 = .ok (.iconst 1, 1) := by decide +kernel
theorem dX4_addHelper_11 : decode cX4_addHelper 11 = .ok (.iconst 4, 1) := by decide +kernel
theorem dX4_addHelper_12 : decode cX4_addHelper 12 = .ok (.invokestatic 41, 3) := by decide +kernel
theorem dX4_addHelper_15 : decode cX4_addHelper 15 = .ok (.ifCond .ne 13, 3) := by decide +kernel
theorem dX4_addHelper_18 : decode cX4_addHelper 18 = .ok (.iload_n 3, 1) := by decide +kernel
theorem dX4_addHelper_19 : decode cX4_addHelper 19 = .ok (.iconst 1, 1) := by decide +kernel
theorem dX4_addHelper_20 : decode cX4_addHelper 20 = .ok (.bipush 9, 2) := by decide +kernel
theorem dX4_addHelper_22 : decode cX4_addHelper 22 = .ok (.invokestatic 41, 3) := by decide +kernel
theorem dX4_addHelper_25 : decode cX4_addHelper 25 = .ok (.ifCond .eq 6, 3) := by decide +kernel
theorem dX4_addHelper_28 : decode cX4_addHelper 28 = .ok (.ldc 45, 2) := by decide +kernel
theorem dX4_addHelper_30 : decode cX4_addHelper 30 = .ok (.ireturn, 1) := by decide +kernel
theorem dX4_addHelper_31 : decode cX4_addHelper 31 = .ok (.aload_n 0, 1) := by decide +kernel
theorem dX4_addHelper_32 : decode cX4_addHelper 32 = .ok (.getfield 10, 3) := by decide +kernel
theorem dX4_addHelper_35 : decode cX4_addHelper 35 = .ok (.getfield 72, 3) := by decide +kernel
theorem dX4_addHelper_38 : decode cX4_addHelper 38 = .ok (.bipush 6, 2) := by decide +kernel
theorem dX4_addHelper_40 : decode cX4_addHelper 40 = .ok (.if_icmp .lt 6, 3) := by decide +kernel
theorem dX4_addHelper_43 : decode cX4_addHelper 43 = .ok (.ldc 75, 2) := by decide +kernel
theorem dX4_addHelper_45 : decode cX4_addHelper 45 = .ok (.ireturn, 1) := by decide +kernel
theorem dX4_addHelper_46 : decode cX4_addHelper 46 = .ok (.aload_n 0, 1) := by decide +kernel
theorem dX4_addHelper_47 : decode cX4_addHelper 47 = .ok (.invokevirtual 53, 3) := by decide +kernel
theorem dX4_addHelper_50 : decode cX4_addHelper 50 = .ok (.aload_n 0, 1) := by decide +kernel
theorem dX4_addHelper_51 : decode cX4_addHelper 51 = .ok (.getfield 10, 3) := by decide +kernel
theorem dX4_addHelper_54 : decode cX4_addHelper 54 = .ok (.iload_n 1, 1) := by decide +kernel
theorem dX4_addHelper_55 : decode cX4_addHelper 55 = .ok (.iload_n 2, 1) := by decide +kernel
theorem dX4_addHelper_56 : decode cX4_addHelper 56 = .ok (.iload_n 3, 1) := by decide +kernel
theorem dX4_addHelper_57 : decode cX4_addHelper 57 = .ok (.invokevirtual 76, 3) := by decide +kernel
theorem dX4_addHelper_60 : decode cX4_addHelper 60 = .ok (.ireturn, 1) := by decide +kernel
theorem dX4_setDegree_0 : decode cX4_setDegree 0 = .ok (.aload_n 0, 1) := by decide +kernel
theorem dX4_setDegree_1 : decode cX4_setDegree 1 = .ok (.getfield 10, 3) := by decide +kernel
theorem dX4_setDegree_4 : decode cX4_setDegree 4 = .ok (.iload_n 1, 1) := by decide +kernel
theorem dX4_setDegree_5 : decode cX4_setDegree 5 = .ok (.invokevirtual 80, 3) := by decide +kernel
theorem dX4_setDegree_8 : decode cX4_setDegree 8 = .ok (.astore_n 3, 1) := by decide +kernel
theorem dX4_setDegree_9 : decode cX4_setDegree 9 = .ok (.aload_n 3, 1) := by decide +kernel
theorem dX4_setDegree_10 : decode cX4_setDegree 10 = .ok (.ifnonnull 6, 3) := by decide +kernel
theorem dX4_setDegree_13 : decode cX4_setDegree 13 = .ok (.ldc 84, 2) := by decide +kernel
theorem dX4_setDegree_15 : decode cX4_setDegree 15 = .ok (.ireturn, 1) := by decide +kernel
theorem dX4_setDegree_16 : decode cX4_setDegree 16 = .ok (.iload_n 2, 1) := by decide +kernel
theorem dX4_setDegree_17 : decode cX4_setDegree 17 = .ok (.iconst 1, 1) := by decide +kernel
theorem dX4_setDegree_18 : decode cX4_setDegree 18 = .ok (.iconst 4, 1) := by decide +kernel
theorem dX4_setDegree_19 : decode cX4_setDegree 19 = .ok (.invokestatic 41, 3) := by decide +kernel
theorem dX4_setDegree_22 : decode cX4_setDegree 22 = .ok (.ifCond .eq 6, 3) := by decide +kernel
theorem dX4_setDegree_25 : decode cX4_setDegree 25 = .ok (.ldc 45, 2) := by decide +kernel
theorem dX4_setDegree_27 : decode cX4_setDegree 27 = .ok (.ireturn, 1) := by decide +kernel
theorem dX4_setDegree_28 : decode cX4_setDegree 28 = .ok (.aload_n 3, 1) := by decide +kernel
theorem dX4_setDegree_29 : decode cX4_setDegree 29 = .ok (.getfield 85, 3) := by decide +kernel
theorem dX4_setDegree_32 : decode cX4_setDegree 32 = .ok (.iload_n 2, 1) := by decide +kernel
theorem dX4_setDegree_33 : decode cX4_setDegree 33 = .ok (.if_icmp .ne 6, 3) := by decide +kernel
theorem dX4_setDegree_36 : decode cX4_setDegree 36 = .ok (.ldc 52, 2) := by decide +kernel
theorem dX4_setDegree_38 : decode cX4_setDegree 38 = .ok (.ireturn, 1) := by decide +kernel
theorem dX4_setDegree_39 : decode cX4_setDegree 39 = .ok (.aload_n 0, 1) := by decide +kernel
theorem dX4_setDegree_40 : decode cX4_setDegree 40 = .ok (.invokevirtual 53, 3) := by decide +kernel
theorem dX4_setDegree_43 : decode cX4_setDegree 43 = .ok (.aload_n 3, 1) := by decide +kernel
theorem dX4_setDegree_44 : decode cX4_setDegree 44 = .ok (.getfield 85, 3) := by decide +kernel
theorem dX4_setDegree_47 : decode cX4_setDegree 47 = .ok (.istore 4, 2) := by decide +kernel
theorem dX4_setDegree_49 : decode cX4_setDegree 49 = .ok (.aload_n 3, 1) := by decide +kernel
theorem dX4_setDegree_50 : decode cX4_setDegree 50 = .ok (.iload_n 2, 1) := by decide +kernel
theorem dX4_setDegree_51 : decode cX4_setDegree 51 = .ok (.putfield 85, 3) := by decide +kernel
theorem dX4_setDegree_54 : decode cX4_setDegree 54 = .ok (.iload 4, 2) := by decide +kernel
theorem dX4_setDegree_56 : decode cX4_setDegree 56 = .ok (.ireturn, 1) := by decide +kernel
theorem dX4_setTrial_0 : decode cX4_setTrial 0 = .ok (.iload_n 1, 1) := by decide +kernel
theorem dX4_setTrial_1 : decode cX4_setTrial 1 = .ok (.iconst 1, 1) := by decide +kernel
theorem dX4_setTrial_2 : decode cX4_setTrial 2 = .ok (.bipush 9, 2) := by decide +kernel
theorem dX4_setTrial_4 : decode cX4_setTrial 4 = .ok (.invokestatic 41, 3) := by decide +kernel
theorem dX4_setTrial_7 : decode cX4_setTrial 7 = .ok (.ifCond .eq 6, 3) := by decide +kernel
theorem dX4_setTrial_10 : decode cX4_setTrial 10 = .ok (.ldc 45, 2) := by decide +kernel
theorem dX4_setTrial_12 : decode cX4_setTrial 12 = .ok (.ireturn, 1) := by decide +kernel
theorem dX4_setTrial_13 : decode cX4_setTrial 13 = .ok (.aload_n 0, 1) := by decide +kernel
theorem dX4_setTrial_14 : decode cX4_setTrial 14 = .ok (.getfield 10, 3) := by decide +kernel
theorem dX4_setTrial_17 : decode cX4_setTrial 17 = .ok (.getfield 90, 3) := by decide +kernel
theorem dX4_setTrial_20 : decode cX4_setTrial 20 = .ok (.iload_n 1, 1) := by decide +kernel
theorem dX4_setTrial_21 : decode cX4_setTrial 21 = .ok (.if_icmp .ne 6, 3) := by decide +kernel
theorem dX4_setTrial_24 : decode cX4_setTrial 24 = .ok (.ldc 52, 2) := by decide +kernel
theorem dX4_setTrial_26 : decode cX4_setTrial 26 = .ok (.ireturn, 1) := by decide +kernel
theorem dX4_setTrial_27 : decode cX4_setTrial 27 = .ok (.aload_n 0, 1) := by decide +kernel
theorem dX4_setTrial_28 : decode cX4_setTrial 28 = .ok (.invokevirtual 53, 3) := by decide +kernel
theorem dX4_setTrial_31 : decode cX4_setTrial 31 = .ok (.aload_n 0, 1) := by decide +kernel
theorem dX4_setTrial_32 : decode cX4_setTrial 32 = .ok (.getfield 10, 3) := by decide +kernel
theorem dX4_setTrial_35 : decode cX4_setTrial 35 = .ok (.getfield 90, 3) := by decide +kernel
theorem dX4_setTrial_38 : decode cX4_setTrial 38 = .ok (.istore_n 2, 1) := by decide +kernel
theorem dX4_setTrial_39 : decode cX4_setTrial 39 = .ok (.aload_n 0, 1) := by decide +kernel
theorem dX4_setTrial_40 : decode cX4_setTrial 40 = .ok (.getfield 10, 3) := by decide +kernel
theorem dX4_setTrial_43 : decode cX4_setTrial 43 = .ok (.iload_n 1, 1) := by decide +kernel
theorem dX4_setTrial_44 : decode cX4_setTrial 44 = .ok (.putfield 90, 3) := by decide +kernel
theorem dX4_setTrial_47 : decode cX4_setTrial 47 = .ok (.iload_n 2, 1) := by decide +kernel
theorem dX4_setTrial_48 : decode cX4_setTrial 48 = .ok (.ireturn, 1) := by decide +kernel
theorem dX4_pardon_0 : decode cX4_pardon 0 = .ok (.aload_n 0, 1) := by decide +kernel
theorem dX4_pardon_1 : decode cX4_pardon 1 = .ok (.getfield 10, 3) := by decide +kernel
theorem dX4_pardon_4 : decode cX4_pardon 4 = .ok (.iload_n 1, 1) := by decide +kernel
theorem dX4_pardon_5 : decode cX4_pardon 5 = .ok (.invokevirtual 80, 3) := by decide +kernel
theorem dX4_pardon_8 : decode cX4_pardon 8 = .ok (.astore_n 2, 1) := by decide +kernel
theorem dX4_pardon_9 : decode cX4_pardon 9 = .ok (.aload_n 2, 1) := by decide +kernel
theorem dX4_pardon_10 : decode cX4_pardon 10 = .ok (.ifnonnull 6, 3) := by decide +kernel
theorem dX4_pardon_13 : decode cX4_pardon 13 = .ok (.ldc 84, 2) := by decide +kernel
theorem dX4_pardon_15 : decode cX4_pardon 15 = .ok (.ireturn, 1) := by decide +kernel
theorem dX4_pardon_16 : decode cX4_pardon 16 = .ok (.aload_n 2, 1) := by decide +kernel
theorem dX4_pardon_17 : decode cX4_pardon 17 = .ok (.getfield 93, 3) := by decide +kernel
theorem dX4_pardon_20 : decode cX4_pardon 20 = .ok (.ifCond .ne 6, 3) := by decide +kernel
theorem dX4_pardon_23 : decode cX4_pardon 23 = .ok (.ldc 52, 2) := by decide +kernel
theorem dX4_pardon_25 : decode cX4_pardon 25 = .ok (.ireturn, 1) := by decide +kernel
theorem dX4_pardon_26 : decode cX4_pardon 26 = .ok (.aload_n 0, 1) := by decide +kernel
theorem dX4_pardon_27 : decode cX4_pardon 27 = .ok (.invokevirtual 53, 3) := by decide +kernel
theorem dX4_pardon_30 : decode cX4_pardon 30 = .ok (.aload_n 2, 1) := by decide +kernel
theorem dX4_pardon_31 : decode cX4_pardon 31 = .ok (.invokevirtual 96, 3) := by decide +kernel
theorem dX4_pardon_34 : decode cX4_pardon 34 = .ok (.ireturn, 1) := by decide +kernel
theorem dX4_forget_0 : decode cX4_forget 0 = .ok (.aload_n 0, 1) := by decide +kernel
theorem dX4_forget_1 : decode cX4_forget 1 = .ok (.getfield 10, 3) := by decide +kernel
theorem dX4_forget_4 : decode cX4_forget 4 = .ok (.iload_n 1, 1) := by decide +kernel
theorem dX4_forget_5 : decode cX4_forget 5 = .ok (.invokevirtual 80, 3) := by decide +kernel
theorem dX4_forget_8 : decode cX4_forget 8 = .ok (.astore_n 2, 1) := by decide +kernel
theorem dX4_forget_9 : decode cX4_forget 9 = .ok (.aload_n 2, 1) := by decide +kernel
theorem dX4_forget_10 : decode cX4_forget 10 = .ok (.ifnonnull 6, 3) := by decide +kernel
theorem dX4_forget_13 : decode cX4_forget 13 = .ok (.ldc 84, 2) := by decide +kernel
theorem dX4_forget_15 : decode cX4_forget 15 = .ok (.ireturn, 1) := by decide +kernel
theorem dX4_forget_16 : decode cX4_forget 16 = .ok (.aload_n 2, 1) := by decide +kernel
theorem dX4_forget_17 : decode cX4_forget 17 = .ok (.getfield 99, 3) := by decide +kernel
theorem dX4_forget_20 : decode cX4_forget 20 = .ok (.iconst 2, 1) := by decide +kernel
theorem dX4_forget_21 : decode cX4_forget 21 = .ok (.if_icmp .ne 6, 3) := by decide +kernel
theorem dX4_forget_24 : decode cX4_forget 24 = .ok (.ldc 102, 2) := by decide +kernel
theorem dX4_forget_26 : decode cX4_forget 26 = .ok (.ireturn, 1) := by decide +kernel
theorem dX4_forget_27 : decode cX4_forget 27 = .ok (.aload_n 2, 1) := by decide +kernel
theorem dX4_forget_28 : decode cX4_forget 28 = .ok (.getfield 103, 3) := by decide +kernel
theorem dX4_forget_31 : decode cX4_forget 31 = .ok (.getfield 64, 3) := by decide +kernel
theorem dX4_forget_34 : decode cX4_forget 34 = .ok (.ifCond .ne 6, 3) := by decide +kernel
theorem dX4_forget_37 : decode cX4_forget 37 = .ok (.ldc 52, 2) := by decide +kernel
theorem dX4_forget_39 : decode cX4_forget 39 = .ok (.ireturn, 1) := by decide +kernel
theorem dX4_forget_40 : decode cX4_forget 40 = .ok (.aload_n 0, 1) := by decide +kernel
theorem dX4_forget_41 : decode cX4_forget 41 = .ok (.invokevirtual 53, 3) := by decide +kernel
theorem dX4_forget_44 : decode cX4_forget 44 = .ok (.aload_n 2, 1) := by decide +kernel
theorem dX4_forget_45 : decode cX4_forget 45 = .ok (.getfield 103, 3) := by decide +kernel
theorem dX4_forget_48 : decode cX4_forget 48 = .ok (.getfield 64, 3) := by decide +kernel
theorem dX4_forget_51 : decode cX4_forget 51 = .ok (.istore_n 3, 1) := by decide +kernel
theorem dX4_forget_52 : decode cX4_forget 52 = .ok (.aload_n 2, 1) := by decide +kernel
theorem dX4_forget_53 : decode cX4_forget 53 = .ok (.getfield 103, 3) := by decide +kernel
theorem dX4_forget_56 : decode cX4_forget 56 = .ok (.iconst 0, 1) := by decide +kernel
theorem dX4_forget_57 : decode cX4_forget 57 = .ok (.putfield 64, 3) := by decide +kernel
theorem dX4_forget_60 : decode cX4_forget 60 = .ok (.iload_n 3, 1) := by decide +kernel
theorem dX4_forget_61 : decode cX4_forget 61 = .ok (.ireturn, 1) := by decide +kernel
theorem dX4_access_0 : decode cX4_access 0 = .ok (.iload_n 1, 1) := by decide +kernel
theorem dX4_access_1 : decode cX4_access 1 = .ok (.iconst 0, 1) := by decide +kernel
theorem dX4_access_2 : decode cX4_access 2 = .ok (.bipush 15, 2) := by decide +kernel
theorem dX4_access_4 : decode cX4_access 4 = .ok (.invokestatic 41, 3) := by decide +kernel
theorem dX4_access_7 : decode cX4_access 7 = .ok (.ifCond .ne 14, 3) := by decide +kernel
theorem dX4_access_10 : decode cX4_access 10 = .ok (.iload_n 2, 1) := by decide +kernel
theorem dX4_access_11 : decode cX4_access 11 = .ok (.iconst 0, 1) := by decide +kernel
theorem dX4_access_12 : decode cX4_access 12 = .ok (.sipush 9999, 3) := by decide +kernel
theorem dX4_access_15 : decode cX4_access 15 = .ok (.invokestatic 41, 3) := by decide +kernel
theorem dX4_access_18 : decode cX4_access 18 = .ok (.ifCond .eq 6, 3) := by decide +kernel
theorem dX4_access_21 : decode cX4_access 21 = .ok (.ldc 45, 2) := by decide +kernel
theorem dX4_access_23 : decode cX4_access 23 = .ok (.ireturn, 1) := by decide +kernel
theorem dX4_access_24 : decode cX4_access 24 = .ok (.aload_n 0, 1) := by decide +kernel
theorem dX4_access_25 : decode cX4_access 25 = .ok (.invokevirtual 53, 3) := by decide +kernel
theorem dX4_access_28 : decode cX4_access 28 = .ok (.aload_n 0, 1) := by decide +kernel
theorem dX4_access_29 : decode cX4_access 29 = .ok (.getfield 10, 3) := by decide +kernel
theorem dX4_access_32 : decode cX4_access 32 = .ok (.iload_n 1, 1) := by decide +kernel
theorem dX4_access_33 : decode cX4_access 33 = .ok (.iload_n 2, 1) := by decide +kernel
theorem dX4_access_34 : decode cX4_access 34 = .ok (.invokevirtual 106, 3) := by decide +kernel
theorem dX4_access_37 : decode cX4_access 37 = .ok (.ireturn, 1) := by decide +kernel
theorem dX4_walk_0 : decode cX4_walk 0 = .ok (.iload_n 1, 1) := by decide +kernel
theorem dX4_walk_1 : decode cX4_walk 1 = .ok (.iload_n 2, 1) := by decide +kernel
theorem dX4_walk_2 : decode cX4_walk 2 = .ok (.iload_n 3, 1) := by decide +kernel
theorem dX4_walk_3 : decode cX4_walk 3 = .ok (.iload 4, 2) := by decide +kernel
theorem dX4_walk_5 : decode cX4_walk 5 = .ok (.invokestatic 110, 3) := by decide +kernel
theorem dX4_walk_8 : decode cX4_walk 8 = .ok (.ifCond .ne 6, 3) := by decide +kernel
theorem dX4_walk_11 : decode cX4_walk 11 = .ok (.ldc 45, 2) := by decide +kernel
theorem dX4_walk_13 : decode cX4_walk 13 = .ok (.ireturn, 1) := by decide +kernel
theorem dX4_walk_14 : decode cX4_walk 14 = .ok (.aload_n 0, 1) := by decide +kernel
theorem dX4_walk_15 : decode cX4_walk 15 = .ok (.invokevirtual 53, 3) := by decide +kernel
theorem dX4_walk_18 : decode cX4_walk 18 = .ok (.aload_n 0, 1) := by decide +kernel
theorem dX4_walk_19 : decode cX4_walk 19 = .ok (.getfield 10, 3) := by decide +kernel
theorem dX4_walk_22 : decode cX4_walk 22 = .ok (.iload_n 1, 1) := by decide +kernel
theorem dX4_walk_23 : decode cX4_walk 23 = .ok (.iload_n 2, 1) := by decide +kernel
theorem dX4_walk_24 : decode cX4_walk 24 = .ok (.iload_n 3, 1) := by decide +kernel
theorem dX4_walk_25 : decode cX4_walk 25 = .ok (.iload 4, 2) := by decide +kernel
theorem dX4_walk_27 : decode cX4_walk 27 = .ok (.invokevirtual 114, 3) := by decide +kernel
theorem dX4_walk_30 : decode cX4_walk 30 = .ok (.ireturn, 1) := by decide +kernel
theorem dX4_type_0 : decode cX4_type 0 = .ok (.aload_n 0, 1) := by decide +kernel
theorem dX4_type_1 : decode cX4_type 1 = .ok (.getfield 29, 3) := by decide +kernel
theorem dX4_type_4 : decode cX4_type 4 = .ok (.iload_n 1, 1) := by decide +kernel
theorem dX4_type_5 : decode cX4_type 5 = .ok (.invokevirtual 118, 3) := by decide +kernel
theorem dX4_type_8 : decode cX4_type 8 = .ok (.ifCond .eq 13, 3) := by decide +kernel
theorem dX4_type_11 : decode cX4_type 11 = .ok (.aload_n 0, 1) := by decide +kernel
theorem dX4_type_12 : decode cX4_type 12 = .ok (.getfield 29, 3) := by decide +kernel
theorem dX4_type_15 : decode cX4_type 15 = .ok (.getfield 122, 3) := by decide +kernel
theorem dX4_type_18 : decode cX4_type 18 = .ok (.goto 5, 3) := by decide +kernel
theorem dX4_type_21 : decode cX4_type 21 = .ok (.ldc 75, 2) := by decide +kernel
theorem dX4_type_23 : decode cX4_type 23 = .ok (.ireturn, 1) := by decide +kernel
theorem dX4_clearText_0 : decode cX4_clearText 0 = .ok (.aload_n 0, 1) := by decide +kernel
theorem dX4_clearText_1 : decode cX4_clearText 1 = .ok (.getfield 29, 3) := by decide +kernel
theorem dX4_clearText_4 : decode cX4_clearText 4 = .ok (.getfield 122, 3) := by decide +kernel
theorem dX4_clearText_7 : decode cX4_clearText 7 = .ok (.istore_n 1, 1) := by decide +kernel
theorem dX4_clearText_8 : decode cX4_clearText 8 = .ok (.aload_n 0, 1) := by decide +kernel
theorem dX4_clearText_9 : decode cX4_clearText 9 = .ok (.getfield 29, 3) := by decide +kernel
theorem dX4_clearText_12 : decode cX4_clearText 12 = .ok (.iconst 0, 1) := by decide +kernel
theorem dX4_clearText_13 : decode cX4_clearText 13 = .ok (.putfield 122, 3) := by decide +kernel
theorem dX4_clearText_16 : decode cX4_clearText 16 = .ok (.iload_n 1, 1) := by decide +kernel
theorem dX4_clearText_17 : decode cX4_clearText 17 = .ok (.ireturn, 1) := by decide +kernel
theorem dX4_run_0 : decode cX4_run 0 = .ok (.aload_n 0, 1) := by decide +kernel
theorem dX4_run_1 : decode cX4_run 1 = .ok (.getfield 29, 3) := by decide +kernel
theorem dX4_run_4 : decode cX4_run 4 = .ok (.invokevirtual 125, 3) := by decide +kernel
theorem dX4_run_7 : decode cX4_run 7 = .ok (.istore_n 1, 1) := by decide +kernel
theorem dX4_run_8 : decode cX4_run 8 = .ok (.iload_n 1, 1) := by decide +kernel
theorem dX4_run_9 : decode cX4_run 9 = .ok (.ifCond .lt 8, 3) := by decide +kernel
theorem dX4_run_12 : decode cX4_run 12 = .ok (.bipush (-100), 2) := by decide +kernel
theorem dX4_run_14 : decode cX4_run 14 = .ok (.iload_n 1, 1) := by decide +kernel
theorem dX4_run_15 : decode cX4_run 15 = .ok (.isub, 1) := by decide +kernel
theorem dX4_run_16 : decode cX4_run 16 = .ok (.ireturn, 1) := by decide +kernel
theorem dX4_run_17 : decode cX4_run 17 = .ok (.aload_n 0, 1) := by decide +kernel
theorem dX4_run_18 : decode cX4_run 18 = .ok (.invokevirtual 53, 3) := by decide +kernel
theorem dX4_run_21 : decode cX4_run 21 = .ok (.aload_n 0, 1) := by decide +kernel
theorem dX4_run_22 : decode cX4_run 22 = .ok (.getfield 29, 3) := by decide +kernel
theorem dX4_run_25 : decode cX4_run 25 = .ok (.aload_n 0, 1) := by decide +kernel
theorem dX4_run_26 : decode cX4_run 26 = .ok (.getfield 10, 3) := by decide +kernel
theorem dX4_run_29 : decode cX4_run 29 = .ok (.invokevirtual 128, 3) := by decide +kernel
theorem dX4_run_32 : decode cX4_run 32 = .ok (.ireturn, 1) := by decide +kernel
theorem dX4_undo_0 : decode cX4_undo 0 = .ok (.aload_n 0, 1) := by decide +kernel
theorem dX4_undo_1 : decode cX4_undo 1 = .ok (.getfield 37, 3) := by decide +kernel
theorem dX4_undo_4 : decode cX4_undo 4 = .ok (.iconst 1, 1) := by decide +kernel
theorem dX4_undo_5 : decode cX4_undo 5 = .ok (.if_icmp .lt 11, 3) := by decide +kernel
theorem dX4_undo_8 : decode cX4_undo 8 = .ok (.aload_n 0, 1) := by decide +kernel
theorem dX4_undo_9 : decode cX4_undo 9 = .ok (.getfield 37, 3) := by decide +kernel
theorem dX4_undo_12 : decode cX4_undo 12 = .ok (.iconst 4, 1) := by decide +kernel
theorem dX4_undo_13 : decode cX4_undo 13 = .ok (.if_icmp .le 6, 3) := by decide +kernel
theorem dX4_undo_16 : decode cX4_undo 16 = .ok (.ldc 52, 2) := by decide +kernel
theorem dX4_undo_18 : decode cX4_undo 18 = .ok (.ireturn, 1) := by decide +kernel
theorem dX4_undo_19 : decode cX4_undo 19 = .ok (.aload_n 0, 1) := by decide +kernel
theorem dX4_undo_20 : decode cX4_undo 20 = .ok (.dup, 1) := by decide +kernel
theorem dX4_undo_21 : decode cX4_undo 21 = .ok (.getfield 37, 3) := by decide +kernel
theorem dX4_undo_24 : decode cX4_undo 24 = .ok (.iconst 1, 1) := by decide +kernel
theorem dX4_undo_25 : decode cX4_undo 25 = .ok (.isub, 1) := by decide +kernel
theorem dX4_undo_26 : decode cX4_undo 26 = .ok (.putfield 37, 3) := by decide +kernel
theorem dX4_undo_29 : decode cX4_undo 29 = .ok (.aload_n 0, 1) := by decide +kernel
theorem dX4_undo_30 : decode cX4_undo 30 = .ok (.getfield 10, 3) := by decide +kernel
theorem dX4_undo_33 : decode cX4_undo 33 = .ok (.aload_n 0, 1) := by decide +kernel
theorem dX4_undo_34 : decode cX4_undo 34 = .ok (.getfield 22, 3) := by decide +kernel
theorem dX4_undo_37 : decode cX4_undo 37 = .ok (.aload_n 0, 1) := by decide +kernel
theorem dX4_undo_38 : decode cX4_undo 38 = .ok (.getfield 37, 3) := by decide +kernel
theorem dX4_undo_41 : decode cX4_undo 41 = .ok (.aaload, 1) := by decide +kernel
theorem dX4_undo_42 : decode cX4_undo 42 = .ok (.invokevirtual 132, 3) := by decide +kernel
theorem dX4_undo_45 : decode cX4_undo 45 = .ok (.aload_n 0, 1) := by decide +kernel
theorem dX4_undo_46 : decode cX4_undo 46 = .ok (.getfield 37, 3) := by decide +kernel
theorem dX4_undo_49 : decode cX4_undo 49 = .ok (.ireturn, 1) := by decide +kernel
theorem dX4_keep_0 : decode cX4_keep 0 = .ok (.aload_n 0, 1) := by decide +kernel
theorem dX4_keep_1 : decode cX4_keep 1 = .ok (.getfield 19, 3) := by decide +kernel
theorem dX4_keep_4 : decode cX4_keep 4 = .ok (.aload_n 0, 1) := by decide +kernel
theorem dX4_keep_5 : decode cX4_keep 5 = .ok (.getfield 10, 3) := by decide +kernel
theorem dX4_keep_8 : decode cX4_keep 8 = .ok (.invokevirtual 132, 3) := by decide +kernel
theorem dX4_keep_11 : decode cX4_keep 11 = .ok (.aload_n 0, 1) := by decide +kernel
theorem dX4_keep_12 : decode cX4_keep 12 = .ok (.iconst 1, 1) := by decide +kernel
theorem dX4_keep_13 : decode cX4_keep 13 = .ok (.putfield 33, 3) := by decide +kernel
theorem dX4_keep_16 : decode cX4_keep 16 = .ok (.aload_n 0, 1) := by decide +kernel
theorem dX4_keep_17 : decode cX4_keep 17 = .ok (.getfield 10, 3) := by decide +kernel
theorem dX4_keep_20 : decode cX4_keep 20 = .ok (.getfield 136, 3) := by decide +kernel
theorem dX4_keep_23 : decode cX4_keep 23 = .ok (.ireturn, 1) := by decide +kernel
theorem dX4_restore_0 : decode cX4_restore 0 = .ok (.aload_n 0, 1) := by decide +kernel
theorem dX4_restore_1 : decode cX4_restore 1 = .ok (.getfield 33, 3) := by decide +kernel
theorem dX4_restore_4 : decode cX4_restore 4 = .ok (.ifCond .ne 6, 3) := by decide +kernel
theorem dX4_restore_7 : decode cX4_restore 7 = .ok (.ldc 52, 2) := by decide +kernel
theorem dX4_restore_9 : decode cX4_restore 9 = .ok (.ireturn, 1) := by decide +kernel
theorem dX4_restore_10 : decode cX4_restore 10 = .ok (.aload_n 0, 1) := by decide +kernel
theorem dX4_restore_11 : decode cX4_restore 11 = .ok (.invokevirtual 53, 3) := by decide +kernel
theorem dX4_restore_14 : decode cX4_restore 14 = .ok (.aload_n 0, 1) := by decide +kernel
theorem dX4_restore_15 : decode cX4_restore 15 = .ok (.getfield 10, 3) := by decide +kernel
theorem dX4_restore_18 : decode cX4_restore 18 = .ok (.aload_n 0, 1) := by decide +kernel
theorem dX4_restore_19 : decode cX4_restore 19 = .ok (.getfield 19, 3) := by decide +kernel
theorem dX4_restore_22 : decode cX4_restore 22 = .ok (.invokevirtual 132, 3) := by decide +kernel
theorem dX4_restore_25 : decode cX4_restore 25 = .ok (.aload_n 0, 1) := by decide +kernel
theorem dX4_restore_26 : decode cX4_restore 26 = .ok (.getfield 10, 3) := by decide +kernel
theorem dX4_restore_29 : decode cX4_restore 29 = .ok (.getfield 136, 3) := by decide +kernel
theorem dX4_restore_32 : decode cX4_restore 32 = .ok (.ireturn, 1) := by decide +kernel
theorem dX4_line_0 : decode cX4_line 0 = .ok (.iload_n 1, 1) := by decide +kernel
theorem dX4_line_1 : decode cX4_line 1 = .ok (.iconst 0, 1) := by decide +kernel
theorem dX4_line_2 : decode cX4_line 2 = .ok (.sipush 9999, 3) := by decide +kernel
theorem dX4_line_5 : decode cX4_line 5 = .ok (.invokestatic 41, 3) := by decide +kernel
theorem dX4_line_8 : decode cX4_line 8 = .ok (.ifCond .eq 6, 3) := by decide +kernel
theorem dX4_line_11 : decode cX4_line 11 = .ok (.ldc 84, 2) := by decide +kernel
theorem dX4_line_13 : decode cX4_line 13 = .ok (.ireturn, 1) := by decide +kernel
theorem dX4_line_14 : decode cX4_line 14 = .ok (.aload_n 0, 1) := by decide +kernel
theorem dX4_line_15 : decode cX4_line 15 = .ok (.getfield 10, 3) := by decide +kernel
theorem dX4_line_18 : decode cX4_line 18 = .ok (.iload_n 1, 1) := by decide +kernel
theorem dX4_line_19 : decode cX4_line 19 = .ok (.invokevirtual 139, 3) := by decide +kernel
theorem dX4_line_22 : decode cX4_line 22 = .ok (.astore_n 3, 1) := by decide +kernel
theorem dX4_line_23 : decode cX4_line 23 = .ok (.aload_n 3, 1) := by decide +kernel
theorem dX4_line_24 : decode cX4_line 24 = .ok (.iload_n 1, 1) := by decide +kernel
theorem dX4_line_25 : decode cX4_line 25 = .ok (.invokevirtual 143, 3) := by decide +kernel
theorem dX4_line_28 : decode cX4_line 28 = .ok (.istore 4, 2) := by decide +kernel
theorem dX4_line_30 : decode cX4_line 30 = .ok (.aload_n 0, 1) := by decide +kernel
theorem dX4_line_31 : decode cX4_line 31 = .ok (.getfield 10, 3) := by decide +kernel
theorem dX4_line_34 : decode cX4_line 34 = .ok (.getfield 60, 3) := by decide +kernel
theorem dX4_line_37 : decode cX4_line 37 = .ok (.iload_n 1, 1) := by decide +kernel
theorem dX4_line_38 : decode cX4_line 38 = .ok (.invokevirtual 143, 3) := by decide +kernel
theorem dX4_line_41 : decode cX4_line 41 = .ok (.istore 5, 2) := by decide +kernel
theorem dX4_line_43 : decode cX4_line 43 = .ok (.iload_n 2, 1) := by decide +kernel
theorem dX4_line_44 : decode cX4_line 44 = .ok (.tableswitch 101 0 5 #[40, 51, 73, 81, 84, 87], 40) := by decide +kernel
theorem dX4_line_84 : decode cX4_line 84 = .ok (.iload 4, 2) := by decide +kernel
theorem dX4_line_86 : decode cX4_line 86 = .ok (.ifCond .lt 7, 3) := by decide +kernel
theorem dX4_line_89 : decode cX4_line 89 = .ok (.iconst 1, 1) := by decide +kernel
theorem dX4_line_90 : decode cX4_line 90 = .ok (.goto 4, 3) := by decide +kernel
theorem dX4_line_93 : decode cX4_line 93 = .ok (.iconst 0, 1) := by decide +kernel
theorem dX4_line_94 : decode cX4_line 94 = .ok (.ireturn, 1) := by decide +kernel
theorem dX4_line_95 : decode cX4_line 95 = .ok (.iload 4, 2) := by decide +kernel
theorem dX4_line_97 : decode cX4_line 97 = .ok (.ifCond .lt 18, 3) := by decide +kernel
theorem dX4_line_100 : decode cX4_line 100 = .ok (.aload_n 3, 1) := by decide +kernel
theorem dX4_line_101 : decode cX4_line 101 = .ok (.iload 4, 2) := by decide +kernel
theorem dX4_line_103 : decode cX4_line 103 = .ok (.iconst 2, 1) := by decide +kernel
theorem dX4_line_104 : decode cX4_line 104 = .ok (.invokevirtual 147, 3) := by decide +kernel
theorem dX4_line_107 : decode cX4_line 107 = .ok (.iconst 1, 1) := by decide +kernel
theorem dX4_line_108 : decode cX4_line 108 = .ok (.if_icmp .ne 7, 3) := by decide +kernel
theorem dX4_line_111 : decode cX4_line 111 = .ok (.iconst 1, 1) := by decide +kernel
theorem dX4_line_112 : decode cX4_line 112 = .ok (.goto 4, 3) := by decide +kernel
theorem dX4_line_115 : decode cX4_line 115 = .ok (.iconst 0, 1) := by decide +kernel
theorem dX4_line_116 : decode cX4_line 116 = .ok (.ireturn, 1) := by decide +kernel
theorem dX4_line_117 : decode cX4_line 117 = .ok (.aload_n 3, 1) := by decide +kernel
theorem dX4_line_118 : decode cX4_line 118 = .ok (.iload 4, 2) := by decide +kernel
theorem dX4_line_120 : decode cX4_line 120 = .ok (.iconst 1, 1) := by decide +kernel
theorem dX4_line_121 : decode cX4_line 121 = .ok (.invokevirtual 147, 3) := by decide +kernel
theorem dX4_line_124 : decode cX4_line 124 = .ok (.ireturn, 1) := by decide +kernel
theorem dX4_line_125 : decode cX4_line 125 = .ok (.iload 4, 2) := by decide +kernel
theorem dX4_line_127 : decode cX4_line 127 = .ok (.ireturn, 1) := by decide +kernel
theorem dX4_line_128 : decode cX4_line 128 = .ok (.iload 5, 2) := by decide +kernel
theorem dX4_line_130 : decode cX4_line 130 = .ok (.ireturn, 1) := by decide +kernel
theorem dX4_line_131 : decode cX4_line 131 = .ok (.aload_n 0, 1) := by decide +kernel
theorem dX4_line_132 : decode cX4_line 132 = .ok (.getfield 10, 3) := by decide +kernel
theorem dX4_line_135 : decode cX4_line 135 = .ok (.getfield 60, 3) := by decide +kernel
theorem dX4_line_138 : decode cX4_line 138 = .ok (.iload 5, 2) := by decide +kernel
theorem dX4_line_140 : decode cX4_line 140 = .ok (.iconst 1, 1) := by decide +kernel
theorem dX4_line_141 : decode cX4_line 141 = .ok (.invokevirtual 147, 3) := by decide +kernel
theorem dX4_line_144 : decode cX4_line 144 = .ok (.ireturn, 1) := by decide +kernel
theorem dX4_line_145 : decode cX4_line 145 = .ok (.ldc 45, 2) := by decide +kernel
theorem dX4_line_147 : decode cX4_line 147 = .ok (.ireturn, 1) := by decide +kernel
theorem dX4_inSet_0 : decode cX4_inSet 0 = .ok (.iload_n 1, 1) := by decide +kernel
theorem dX4_inSet_1 : decode cX4_inSet 1 = .ok (.iconst 0, 1) := by decide +kernel
theorem dX4_inSet_2 : decode cX4_inSet 2 = .ok (.aload_n 0, 1) := by decide +kernel
theorem dX4_inSet_3 : decode cX4_inSet 3 = .ok (.getfield 10, 3) := by decide +kernel
theorem dX4_inSet_6 : decode cX4_inSet 6 = .ok (.getfield 46, 3) := by decide +kernel
theorem dX4_inSet_9 : decode cX4_inSet 9 = .ok (.iconst 1, 1) := by decide +kernel
theorem dX4_inSet_10 : decode cX4_inSet 10 = .ok (.isub, 1) := by decide +kernel
theorem dX4_inSet_11 : decode cX4_inSet 11 = .ok (.invokestatic 41, 3) := by decide +kernel
theorem dX4_inSet_14 : decode cX4_inSet 14 = .ok (.ifCond .eq 6, 3) := by decide +kernel
theorem dX4_inSet_17 : decode cX4_inSet 17 = .ok (.ldc 84, 2) := by decide +kernel
theorem dX4_inSet_19 : decode cX4_inSet 19 = .ok (.ireturn, 1) := by decide +kernel
theorem dX4_inSet_20 : decode cX4_inSet 20 = .ok (.iload_n 2, 1) := by decide +kernel
theorem dX4_inSet_21 : decode cX4_inSet 21 = .ok (.ifCond .ge 8, 3) := by decide +kernel
theorem dX4_inSet_24 : decode cX4_inSet 24 = .ok (.ldc 45, 2) := by decide +kernel
theorem dX4_inSet_26 : decode cX4_inSet 26 = .ok (.goto 16, 3) := by decide +kernel
theorem dX4_inSet_29 : decode cX4_inSet 29 = .ok (.aload_n 0, 1) := by decide +kernel
theorem dX4_inSet_30 : decode cX4_inSet 30 = .ok (.getfield 10, 3) := by decide +kernel
theorem dX4_inSet_33 : decode cX4_inSet 33 = .ok (.iload_n 1, 1) := by decide +kernel
theorem dX4_inSet_34 : decode cX4_inSet 34 = .ok (.invokevirtual 150, 3) := by decide +kernel
theorem dX4_inSet_37 : decode cX4_inSet 37 = .ok (.iload_n 2, 1) := by decide +kernel
theorem dX4_inSet_38 : decode cX4_inSet 38 = .ok (.iconst 0, 1) := by decide +kernel
theorem dX4_inSet_39 : decode cX4_inSet 39 = .ok (.invokevirtual 147, 3) := by decide +kernel
theorem dX4_inSet_42 : decode cX4_inSet 42 = .ok (.ireturn, 1) := by decide +kernel
theorem dX4_thrownOut_0 : decode cX4_thrownOut 0 = .ok (.iload_n 1, 1) := by decide +kernel
theorem dX4_thrownOut_1 : decode cX4_thrownOut 1 = .ok (.ifCond .ge 8, 3) := by decide +kernel
theorem dX4_thrownOut_4 : decode cX4_thrownOut 4 = .ok (.ldc 45, 2) := by decide +kernel
theorem dX4_thrownOut_6 : decode cX4_thrownOut 6 = .ok (.goto 15, 3) := by decide +kernel
theorem dX4_thrownOut_9 : decode cX4_thrownOut 9 = .ok (.aload_n 0, 1) := by decide +kernel
theorem dX4_thrownOut_10 : decode cX4_thrownOut 10 = .ok (.getfield 10, 3) := by decide +kernel
theorem dX4_thrownOut_13 : decode cX4_thrownOut 13 = .ok (.getfield 60, 3) := by decide +kernel
theorem dX4_thrownOut_16 : decode cX4_thrownOut 16 = .ok (.iload_n 1, 1) := by decide +kernel
theorem dX4_thrownOut_17 : decode cX4_thrownOut 17 = .ok (.iconst 0, 1) := by decide +kernel
theorem dX4_thrownOut_18 : decode cX4_thrownOut 18 = .ok (.invokevirtual 147, 3) := by decide +kernel
theorem dX4_thrownOut_21 : decode cX4_thrownOut 21 = .ok (.ireturn, 1) := by decide +kernel
theorem dX4_helper_0 : decode cX4_helper 0 = .ok (.aload_n 0, 1) := by decide +kernel
theorem dX4_helper_1 : decode cX4_helper 1 = .ok (.getfield 10, 3) := by decide +kernel
theorem dX4_helper_4 : decode cX4_helper 4 = .ok (.iload_n 1, 1) := by decide +kernel
theorem dX4_helper_5 : decode cX4_helper 5 = .ok (.invokevirtual 80, 3) := by decide +kernel
theorem dX4_helper_8 : decode cX4_helper 8 = .ok (.astore_n 3, 1) := by decide +kernel
theorem dX4_helper_9 : decode cX4_helper 9 = .ok (.aload_n 3, 1) := by decide +kernel
theorem dX4_helper_10 : decode cX4_helper 10 = .ok (.ifnonnull 6, 3) := by decide +kernel
theorem dX4_helper_13 : decode cX4_helper 13 = .ok (.ldc 84, 2) := by decide +kernel
theorem dX4_helper_15 : decode cX4_helper 15 = .ok (.ireturn, 1) := by decide +kernel
theorem dX4_helper_16 : decode cX4_helper 16 = .ok (.iload_n 2, 1) := by decide +kernel
theorem dX4_helper_17 : decode cX4_helper 17 = .ok (.tableswitch 166 0 15 #[79, 84, 89, 94, 99, 104, 109, 114, 119, 124, 129, 138, 143, 148, 153, 161], 79) := by decide +kernel
theorem dX4_helper_96 : decode cX4_helper 96 = .ok (.aload_n 3, 1) := by decide +kernel
theorem dX4_helper_97 : decode cX4_helper 97 = .ok (.getfield 99, 3) := by decide +kernel
theorem dX4_helper_100 : decode cX4_helper 100 = .ok (.ireturn, 1) := by decide +kernel
theorem dX4_helper_101 : decode cX4_helper 101 = .ok (.aload_n 3, 1) := by decide +kernel
theorem dX4_helper_102 : decode cX4_helper 102 = .ok (.getfield 85, 3) := by decide +kernel
theorem dX4_helper_105 : decode cX4_helper 105 = .ok (.ireturn, 1) := by decide +kernel
theorem dX4_helper_106 : decode cX4_helper 106 = .ok (.aload_n 3, 1) := by decide +kernel
theorem dX4_helper_107 : decode cX4_helper 107 = .ok (.getfield 153, 3) := by decide +kernel
theorem dX4_helper_110 : decode cX4_helper 110 = .ok (.ireturn, 1) := by decide +kernel
theorem dX4_helper_111 : decode cX4_helper 111 = .ok (.aload_n 3, 1) := by decide +kernel
theorem dX4_helper_112 : decode cX4_helper 112 = .ok (.getfield 93, 3) := by decide +kernel
theorem dX4_helper_115 : decode cX4_helper 115 = .ok (.ireturn, 1) := by decide +kernel
theorem dX4_helper_116 : decode cX4_helper 116 = .ok (.aload_n 3, 1) := by decide +kernel
theorem dX4_helper_117 : decode cX4_helper 117 = .ok (.getfield 156, 3) := by decide +kernel
theorem dX4_helper_120 : decode cX4_helper 120 = .ok (.ireturn, 1) := by decide +kernel
theorem dX4_helper_121 : decode cX4_helper 121 = .ok (.aload_n 3, 1) := by decide +kernel
theorem dX4_helper_122 : decode cX4_helper 122 = .ok (.getfield 159, 3) := by decide +kernel
theorem dX4_helper_125 : decode cX4_helper 125 = .ok (.ireturn, 1) := by decide +kernel
theorem dX4_helper_126 : decode cX4_helper 126 = .ok (.aload_n 3, 1) := by decide +kernel
theorem dX4_helper_127 : decode cX4_helper 127 = .ok (.invokevirtual 162, 3) := by decide +kernel
theorem dX4_helper_130 : decode cX4_helper 130 = .ok (.ireturn, 1) := by decide +kernel
theorem dX4_helper_131 : decode cX4_helper 131 = .ok (.aload_n 3, 1) := by decide +kernel
theorem dX4_helper_132 : decode cX4_helper 132 = .ok (.getfield 165, 3) := by decide +kernel
theorem dX4_helper_135 : decode cX4_helper 135 = .ok (.ireturn, 1) := by decide +kernel
theorem dX4_helper_136 : decode cX4_helper 136 = .ok (.aload_n 3, 1) := by decide +kernel
theorem dX4_helper_137 : decode cX4_helper 137 = .ok (.getfield 168, 3) := by decide +kernel
theorem dX4_helper_140 : decode cX4_helper 140 = .ok (.ireturn, 1) := by decide +kernel
theorem dX4_helper_141 : decode cX4_helper 141 = .ok (.aload_n 3, 1) := by decide +kernel
theorem dX4_helper_142 : decode cX4_helper 142 = .ok (.getfield 171, 3) := by decide +kernel
theorem dX4_helper_145 : decode cX4_helper 145 = .ok (.ireturn, 1) := by decide +kernel
theorem dX4_helper_146 : decode cX4_helper 146 = .ok (.aload_n 0, 1) := by decide +kernel
theorem dX4_helper_147 : decode cX4_helper 147 = .ok (.getfield 10, 3) := by decide +kernel
theorem dX4_helper_150 : decode cX4_helper 150 = .ok (.iload_n 1, 1) := by decide +kernel
theorem dX4_helper_151 : decode cX4_helper 151 = .ok (.invokevirtual 174, 3) := by decide +kernel
theorem dX4_helper_154 : decode cX4_helper 154 = .ok (.ireturn, 1) := by decide +kernel
theorem dX4_helper_155 : decode cX4_helper 155 = .ok (.aload_n 3, 1) := by decide +kernel
theorem dX4_helper_156 : decode cX4_helper 156 = .ok (.getfield 177, 3) := by decide +kernel
theorem dX4_helper_159 : decode cX4_helper 159 = .ok (.ireturn, 1) := by decide +kernel
theorem dX4_helper_160 : decode cX4_helper 160 = .ok (.aload_n 3, 1) := by decide +kernel
theorem dX4_helper_161 : decode cX4_helper 161 = .ok (.getfield 180, 3) := by decide +kernel
theorem dX4_helper_164 : decode cX4_helper 164 = .ok (.ireturn, 1) := by decide +kernel
theorem dX4_helper_165 : decode cX4_helper 165 = .ok (.aload_n 3, 1) := by decide +kernel
theorem dX4_helper_166 : decode cX4_helper 166 = .ok (.getfield 183, 3) := by decide +kernel
theorem dX4_helper_169 : decode cX4_helper 169 = .ok (.ireturn, 1) := by decide +kernel
theorem dX4_helper_170 : decode cX4_helper 170 = .ok (.aload_n 3, 1) := by decide +kernel
theorem dX4_helper_171 : decode cX4_helper 171 = .ok (.getfield 103, 3) := by decide +kernel
theorem dX4_helper_174 : decode cX4_helper 174 = .ok (.getfield 64, 3) := by decide +kernel
theorem dX4_helper_177 : decode cX4_helper 177 = .ok (.ireturn, 1) := by decide +kernel
theorem dX4_helper_178 : decode cX4_helper 178 = .ok (.aload_n 3, 1) := by decide +kernel
theorem dX4_helper_179 : decode cX4_helper 179 = .ok (.getfield 186, 3) := by decide +kernel
theorem dX4_helper_182 : decode cX4_helper 182 = .ok (.ireturn, 1) := by decide +kernel
theorem dX4_helper_183 : decode cX4_helper 183 = .ok (.ldc 45, 2) := by decide +kernel
theorem dX4_helper_185 : decode cX4_helper 185 = .ok (.ireturn, 1) := by decide +kernel
theorem dX4_table_0 : decode cX4_table 0 = .ok (.aload_n 0, 1) := by decide +kernel
theorem dX4_table_1 : decode cX4_table 1 = .ok (.getfield 10, 3) := by decide +kernel
theorem dX4_table_4 : decode cX4_table 4 = .ok (.iload_n 1, 1) := by decide +kernel
theorem dX4_table_5 : decode cX4_table 5 = .ok (.invokevirtual 80, 3) := by decide +kernel
theorem dX4_table_8 : decode cX4_table 8 = .ok (.astore 4, 2) := by decide +kernel
theorem dX4_table_10 : decode cX4_table 10 = .ok (.aload 4, 2) := by decide +kernel
theorem dX4_table_12 : decode cX4_table 12 = .ok (.ifnonnull 6, 3) := by decide +kernel
theorem dX4_table_15 : decode cX4_table 15 = .ok (.ldc 84, 2) := by decide +kernel
theorem dX4_table_17 : decode cX4_table 17 = .ok (.ireturn, 1) := by decide +kernel
theorem dX4_table_18 : decode cX4_table 18 = .ok (.iload_n 2, 1) := by decide +kernel
theorem dX4_table_19 : decode cX4_table 19 = .ok (.ifCond .lt 12, 3) := by decide +kernel
theorem dX4_table_22 : decode cX4_table 22 = .ok (.iload_n 3, 1) := by decide +kernel
theorem dX4_table_23 : decode cX4_table 23 = .ok (.iconst 0, 1) := by decide +kernel
theorem dX4_table_24 : decode cX4_table 24 = .ok (.iconst 3, 1) := by decide +kernel
theorem dX4_table_25 : decode cX4_table 25 = .ok (.invokestatic 41, 3) := by decide +kernel
theorem dX4_table_28 : decode cX4_table 28 = .ok (.ifCond .eq 6, 3) := by decide +kernel
theorem dX4_table_31 : decode cX4_table 31 = .ok (.ldc 45, 2) := by decide +kernel
theorem dX4_table_33 : decode cX4_table 33 = .ok (.ireturn, 1) := by decide +kernel
theorem dX4_table_34 : decode cX4_table 34 = .ok (.aload 4, 2) := by decide +kernel
theorem dX4_table_36 : decode cX4_table 36 = .ok (.getfield 103, 3) := by decide +kernel
theorem dX4_table_39 : decode cX4_table 39 = .ok (.iload_n 2, 1) := by decide +kernel
theorem dX4_table_40 : decode cX4_table 40 = .ok (.iload_n 3, 1) := by decide +kernel
theorem dX4_table_41 : decode cX4_table 41 = .ok (.invokevirtual 147, 3) := by decide +kernel
theorem dX4_table_44 : decode cX4_table 44 = .ok (.ireturn, 1) := by decide +kernel
theorem dX4_wouldAsk_0 : decode cX4_wouldAsk 0 = .ok (.aload_n 0, 1) := by decide +kernel
theorem dX4_wouldAsk_1 : decode cX4_wouldAsk 1 = .ok (.getfield 10, 3) := by decide +kernel
theorem dX4_wouldAsk_4 : decode cX4_wouldAsk 4 = .ok (.iload_n 1, 1) := by decide +kernel
theorem dX4_wouldAsk_5 : decode cX4_wouldAsk 5 = .ok (.invokevirtual 80, 3) := by decide +kernel
theorem dX4_wouldAsk_8 : decode cX4_wouldAsk 8 = .ok (.ifnonnull 6, 3) := by decide +kernel
theorem dX4_wouldAsk_11 : decode cX4_wouldAsk 11 = .ok (.ldc 84, 2) := by decide +kernel
theorem dX4_wouldAsk_13 : decode cX4_wouldAsk 13 = .ok (.ireturn, 1) := by decide +kernel
theorem dX4_wouldAsk_14 : decode cX4_wouldAsk 14 = .ok (.iload_n 2, 1) := by decide +kernel
theorem dX4_wouldAsk_15 : decode cX4_wouldAsk 15 = .ok (.iconst 0, 1) := by decide +kernel
theorem dX4_wouldAsk_16 : decode cX4_wouldAsk 16 = .ok (.bipush 15, 2) := by decide +kernel
theorem dX4_wouldAsk_18 : decode cX4_wouldAsk 18 = .ok (.invokestatic 41, 3) := by decide +kernel
theorem dX4_wouldAsk_21 : decode cX4_wouldAsk 21 = .ok (.ifCond .ne 19, 3) := by decide +kernel
theorem dX4_wouldAsk_24 : decode cX4_wouldAsk 24 = .ok (.iload_n 3, 1) := by decide +kernel
theorem dX4_wouldAsk_25 : decode cX4_wouldAsk 25 = .ok (.iconst 0, 1) := by decide +kernel
theorem dX4_wouldAsk_26 : decode cX4_wouldAsk 26 = .ok (.sipush 9999, 3) := by decide +kernel
theorem dX4_wouldAsk_29 : decode cX4_wouldAsk 29 = .ok (.invokestatic 41, 3) := by decide +kernel
theorem dX4_wouldAsk_32 : decode cX4_wouldAsk 32 = .ok (.ifCond .ne 8, 3) := by decide +kernel
theorem dX4_wouldAsk_35 : decode cX4_wouldAsk 35 = .ok (.iload 4, 2) := by decide +kernel
theorem dX4_wouldAsk_37 : decode cX4_wouldAsk 37 = .ok (.ifCond .ge 6, 3) := by decide +kernel
theorem dX4_wouldAsk_40 : decode cX4_wouldAsk 40 = .ok (.ldc 45, 2) := by decide +kernel
theorem dX4_wouldAsk_42 : decode cX4_wouldAsk 42 = .ok (.ireturn, 1) := by decide +kernel
theorem dX4_wouldAsk_43 : decode cX4_wouldAsk 43 = .ok (.aload_n 0, 1) := by decide +kernel
theorem dX4_wouldAsk_44 : decode cX4_wouldAsk 44 = .ok (.getfield 16, 3) := by decide +kernel
theorem dX4_wouldAsk_47 : decode cX4_wouldAsk 47 = .ok (.aload_n 0, 1) := by decide +kernel
theorem dX4_wouldAsk_48 : decode cX4_wouldAsk 48 = .ok (.getfield 10, 3) := by decide +kernel
theorem dX4_wouldAsk_51 : decode cX4_wouldAsk 51 = .ok (.invokevirtual 132, 3) := by decide +kernel
theorem dX4_wouldAsk_54 : decode cX4_wouldAsk 54 = .ok (.aload_n 0, 1) := by decide +kernel
theorem dX4_wouldAsk_55 : decode cX4_wouldAsk 55 = .ok (.getfield 16, 3) := by decide +kernel
theorem dX4_wouldAsk_58 : decode cX4_wouldAsk 58 = .ok (.iload_n 2, 1) := by decide +kernel
theorem dX4_wouldAsk_59 : decode cX4_wouldAsk 59 = .ok (.iload_n 3, 1) := by decide +kernel
theorem dX4_wouldAsk_60 : decode cX4_wouldAsk 60 = .ok (.invokevirtual 106, 3) := by decide +kernel
theorem dX4_wouldAsk_63 : decode cX4_wouldAsk 63 = .ok (.pop, 1) := by decide +kernel
theorem dX4_wouldAsk_64 : decode cX4_wouldAsk 64 = .ok (.aload_n 0, 1) := by decide +kernel
theorem dX4_wouldAsk_65 : decode cX4_wouldAsk 65 = .ok (.getfield 16, 3) := by decide +kernel
theorem dX4_wouldAsk_68 : decode cX4_wouldAsk 68 = .ok (.iload_n 1, 1) := by decide +kernel
theorem dX4_wouldAsk_69 : decode cX4_wouldAsk 69 = .ok (.invokevirtual 80, 3) := by decide +kernel
theorem dX4_wouldAsk_72 : decode cX4_wouldAsk 72 = .ok (.astore 5, 2) := by decide +kernel
theorem dX4_wouldAsk_74 : decode cX4_wouldAsk 74 = .ok (.aload 5, 2) := by decide +kernel
theorem dX4_wouldAsk_76 : decode cX4_wouldAsk 76 = .ok (.ifnonnull 8, 3) := by decide +kernel
theorem dX4_wouldAsk_79 : decode cX4_wouldAsk 79 = .ok (.ldc 52, 2) := by decide +kernel
theorem dX4_wouldAsk_81 : decode cX4_wouldAsk 81 = .ok (.goto 10, 3) := by decide +kernel
theorem dX4_wouldAsk_84 : decode cX4_wouldAsk 84 = .ok (.aload 5, 2) := by decide +kernel
theorem dX4_wouldAsk_86 : decode cX4_wouldAsk 86 = .ok (.iload 4, 2) := by decide +kernel
theorem dX4_wouldAsk_88 : decode cX4_wouldAsk 88 = .ok (.invokevirtual 189, 3) := by decide +kernel
theorem dX4_wouldAsk_91 : decode cX4_wouldAsk 91 = .ok (.ireturn, 1) := by decide +kernel
theorem dX4_wouldHit_0 : decode cX4_wouldHit 0 = .ok (.iload_n 1, 1) := by decide +kernel
theorem dX4_wouldHit_1 : decode cX4_wouldHit 1 = .ok (.iload_n 2, 1) := by decide +kernel
theorem dX4_wouldHit_2 : decode cX4_wouldHit 2 = .ok (.iload_n 3, 1) := by decide +kernel
theorem dX4_wouldHit_3 : decode cX4_wouldHit 3 = .ok (.iload 4, 2) := by decide +kernel
theorem dX4_wouldHit_5 : decode cX4_wouldHit 5 = .ok (.invokestatic 110, 3) := by decide +kernel
theorem dX4_wouldHit_8 : decode cX4_wouldHit 8 = .ok (.ifCond .ne 6, 3) := by decide +kernel
theorem dX4_wouldHit_11 : decode cX4_wouldHit 11 = .ok (.ldc 45, 2) := by decide +kernel
theorem dX4_wouldHit_13 : decode cX4_wouldHit 13 = .ok (.ireturn, 1) := by decide +kernel
theorem dX4_wouldHit_14 : decode cX4_wouldHit 14 = .ok (.aload_n 0, 1) := by decide +kernel
theorem dX4_wouldHit_15 : decode cX4_wouldHit 15 = .ok (.getfield 16, 3) := by decide +kernel
theorem dX4_wouldHit_18 : decode cX4_wouldHit 18 = .ok (.aload_n 0, 1) := by decide +kernel
theorem dX4_wouldHit_19 : decode cX4_wouldHit 19 = .ok (.getfield 10, 3) := by decide +kernel
theorem dX4_wouldHit_22 : decode cX4_wouldHit 22 = .ok (.invokevirtual 132, 3) := by decide +kernel
theorem dX4_wouldHit_25 : decode cX4_wouldHit 25 = .ok (.aload_n 0, 1) := by decide +kernel
theorem dX4_wouldHit_26 : decode cX4_wouldHit 26 = .ok (.getfield 16, 3) := by decide +kernel
theorem dX4_wouldHit_29 : decode cX4_wouldHit 29 = .ok (.iload_n 1, 1) := by decide +kernel
theorem dX4_wouldHit_30 : decode cX4_wouldHit 30 = .ok (.iload_n 2, 1) := by decide +kernel
theorem dX4_wouldHit_31 : decode cX4_wouldHit 31 = .ok (.iload_n 3, 1) := by decide +kernel
theorem dX4_wouldHit_32 : decode cX4_wouldHit 32 = .ok (.iload 4, 2) := by decide +kernel
theorem dX4_wouldHit_34 : decode cX4_wouldHit 34 = .ok (.invokevirtual 114, 3) := by decide +kernel
theorem dX4_wouldHit_37 : decode cX4_wouldHit 37 = .ok (.ireturn, 1) := by decide +kernel
theorem dX4_bestHelper_0 : decode cX4_bestHelper 0 = .ok (.ldc 52, 2) := by decide +kernel
theorem dX4_bestHelper_2 : decode cX4_bestHelper 2 = .ok (.istore_n 1, 1) := by decide +kernel
theorem dX4_bestHelper_3 : decode cX4_bestHelper 3 = .ok (.iconst 0, 1) := by decide +kernel
theorem dX4_bestHelper_4 : decode cX4_bestHelper 4 = .ok (.istore_n 2, 1) := by decide +kernel
theorem dX4_bestHelper_5 : decode cX4_bestHelper 5 = .ok (.iconst 0, 1) := by decide +kernel
theorem dX4_bestHelper_6 : decode cX4_bestHelper 6 = .ok (.istore_n 3, 1) := by decide +kernel
theorem dX4_bestHelper_7 : decode cX4_bestHelper 7 = .ok (.iload_n 3, 1) := by decide +kernel
theorem dX4_bestHelper_8 : decode cX4_bestHelper 8 = .ok (.aload_n 0, 1) := by decide +kernel
theorem dX4_bestHelper_9 : decode cX4_bestHelper 9 = .ok (.getfield 10, 3) := by decide +kernel
theorem dX4_bestHelper_12 : decode cX4_bestHelper 12 = .ok (.getfield 72, 3) := by decide +kernel
theorem dX4_bestHelper_15 : decode cX4_bestHelper 15 = .ok (.if_icmp .ge 53, 3) := by decide +kernel
theorem dX4_bestHelper_18 : decode cX4_bestHelper 18 = .ok (.aload_n 0, 1) := by decide +kernel
theorem dX4_bestHelper_19 : decode cX4_bestHelper 19 = .ok (.getfield 10, 3) := by decide +kernel
theorem dX4_bestHelper_22 : decode cX4_bestHelper 22 = .ok (.getfield 192, 3) := by decide +kernel
theorem dX4_bestHelper_25 : decode cX4_bestHelper 25 = .ok (.iload_n 3, 1) := by decide +kernel
theorem dX4_bestHelper_26 : decode cX4_bestHelper 26 = .ok (.aaload, 1) := by decide +kernel
theorem dX4_bestHelper_27 : decode cX4_bestHelper 27 = .ok (.getfield 168, 3) := by decide +kernel
theorem dX4_bestHelper_30 : decode cX4_bestHelper 30 = .ok (.aload_n 0, 1) := by decide +kernel
theorem dX4_bestHelper_31 : decode cX4_bestHelper 31 = .ok (.getfield 10, 3) := by decide +kernel
theorem dX4_bestHelper_34 : decode cX4_bestHelper 34 = .ok (.getfield 192, 3) := by decide +kernel
theorem dX4_bestHelper_37 : decode cX4_bestHelper 37 = .ok (.iload_n 3, 1) := by decide +kernel
theorem dX4_bestHelper_38 : decode cX4_bestHelper 38 = .ok (.aaload, 1) := by decide +kernel
theorem dX4_bestHelper_39 : decode cX4_bestHelper 39 = .ok (.getfield 171, 3) := by decide +kernel
theorem dX4_bestHelper_42 : decode cX4_bestHelper 42 = .ok (.isub, 1) := by decide +kernel
theorem dX4_bestHelper_43 : decode cX4_bestHelper 43 = .ok (.istore 4, 2) := by decide +kernel
theorem dX4_bestHelper_45 : decode cX4_bestHelper 45 = .ok (.iload_n 1, 1) := by decide +kernel
theorem dX4_bestHelper_46 : decode cX4_bestHelper 46 = .ok (.ldc 52, 2) := by decide +kernel
theorem dX4_bestHelper_48 : decode cX4_bestHelper 48 = .ok (.if_icmp .eq 9, 3) := by decide +kernel
theorem dX4_bestHelper_51 : decode cX4_bestHelper 51 = .ok (.iload 4, 2) := by decide +kernel
theorem dX4_bestHelper_53 : decode cX4_bestHelper 53 = .ok (.iload_n 2, 1) := by decide +kernel
theorem dX4_bestHelper_54 : decode cX4_bestHelper 54 = .ok (.if_icmp .le 8, 3) := by decide +kernel
theorem dX4_bestHelper_57 : decode cX4_bestHelper 57 = .ok (.iload_n 3, 1) := by decide +kernel
theorem dX4_bestHelper_58 : decode cX4_bestHelper 58 = .ok (.istore_n 1, 1) := by decide +kernel
theorem dX4_bestHelper_59 : decode cX4_bestHelper 59 = .ok (.iload 4, 2) := by decide +kernel
theorem dX4_bestHelper_61 : decode cX4_bestHelper 61 = .ok (.istore_n 2, 1) := by decide +kernel
theorem dX4_bestHelper_62 : decode cX4_bestHelper 62 = .ok (.iinc 3 1, 3) := by decide +kernel
theorem dX4_bestHelper_65 : decode cX4_bestHelper 65 = .ok (.goto (-58), 3) := by decide +kernel
theorem dX4_bestHelper_68 : decode cX4_bestHelper 68 = .ok (.iload_n 1, 1) := by decide +kernel
theorem dX4_bestHelper_69 : decode cX4_bestHelper 69 = .ok (.ireturn, 1) := by decide +kernel
theorem dX4_logged_0 : decode cX4_logged 0 = .ok (.iload_n 1, 1) := by decide +kernel
theorem dX4_logged_1 : decode cX4_logged 1 = .ok (.ifCond .lt 12, 3) := by decide +kernel
theorem dX4_logged_4 : decode cX4_logged 4 = .ok (.iload_n 2, 1) := by decide +kernel
theorem dX4_logged_5 : decode cX4_logged 5 = .ok (.iconst 0, 1) := by decide +kernel
theorem dX4_logged_6 : decode cX4_logged 6 = .ok (.iconst 4, 1) := by decide +kernel
theorem dX4_logged_7 : decode cX4_logged 7 = .ok (.invokestatic 41, 3) := by decide +kernel
theorem dX4_logged_10 : decode cX4_logged 10 = .ok (.ifCond .eq 6, 3) := by decide +kernel
theorem dX4_logged_13 : decode cX4_logged 13 = .ok (.ldc 45, 2) := by decide +kernel
theorem dX4_logged_15 : decode cX4_logged 15 = .ok (.ireturn, 1) := by decide +kernel
theorem dX4_logged_16 : decode cX4_logged 16 = .ok (.aload_n 0, 1) := by decide +kernel
theorem dX4_logged_17 : decode cX4_logged 17 = .ok (.getfield 10, 3) := by decide +kernel
theorem dX4_logged_20 : decode cX4_logged 20 = .ok (.getfield 196, 3) := by decide +kernel
theorem dX4_logged_23 : decode cX4_logged 23 = .ok (.aload_n 0, 1) := by decide +kernel
theorem dX4_logged_24 : decode cX4_logged 24 = .ok (.getfield 10, 3) := by decide +kernel
theorem dX4_logged_27 : decode cX4_logged 27 = .ok (.getfield 196, 3) := by decide +kernel
theorem dX4_logged_30 : decode cX4_logged 30 = .ok (.getfield 64, 3) := by decide +kernel
theorem dX4_logged_33 : decode cX4_logged 33 = .ok (.iconst 1, 1) := by decide +kernel
theorem dX4_logged_34 : decode cX4_logged 34 = .ok (.isub, 1) := by decide +kernel
theorem dX4_logged_35 : decode cX4_logged 35 = .ok (.iload_n 1, 1) := by decide +kernel
theorem dX4_logged_36 : decode cX4_logged 36 = .ok (.isub, 1) := by decide +kernel
theorem dX4_logged_37 : decode cX4_logged 37 = .ok (.iload_n 2, 1) := by decide +kernel
theorem dX4_logged_38 : decode cX4_logged 38 = .ok (.invokevirtual 147, 3) := by decide +kernel
theorem dX4_logged_41 : decode cX4_logged 41 = .ok (.ireturn, 1) := by decide +kernel
theorem dX4_count_0 : decode cX4_count 0 = .ok (.iload_n 1, 1) := by decide +kernel
theorem dX4_count_1 : decode cX4_count 1 = .ok (.tableswitch 227 0 16 #[83, 91, 99, 107, 123, 131, 139, 147, 155, 163, 171, 179, 187, 195, 206, 211, 219], 83) := by decide +kernel
theorem dX4_count_84 : decode cX4_count 84 = .ok (.aload_n 0, 1) := by decide +kernel
theorem dX4_count_85 : decode cX4_count 85 = .ok (.getfield 10, 3) := by decide +kernel
theorem dX4_count_88 : decode cX4_count 88 = .ok (.getfield 136, 3) := by decide +kernel
theorem dX4_count_91 : decode cX4_count 91 = .ok (.ireturn, 1) := by decide +kernel
theorem dX4_count_92 : decode cX4_count 92 = .ok (.aload_n 0, 1) := by decide +kernel
theorem dX4_count_93 : decode cX4_count 93 = .ok (.getfield 10, 3) := by decide +kernel
theorem dX4_count_96 : decode cX4_count 96 = .ok (.getfield 199, 3) := by decide +kernel
theorem dX4_count_99 : decode cX4_count 99 = .ok (.ireturn, 1) := by decide +kernel
theorem dX4_count_100 : decode cX4_count 100 = .ok (.aload_n 0, 1) := by decide +kernel
theorem dX4_count_101 : decode cX4_count 101 = .ok (.getfield 10, 3) := by decide +kernel
theorem dX4_count_104 : decode cX4_count 104 = .ok (.getfield 202, 3) := by decide +kernel
theorem dX4_count_107 : decode cX4_count 107 = .ok (.ireturn, 1) := by decide +kernel
theorem dX4_count_108 : decode cX4_count 108 = .ok (.aload_n 0, 1) := by decide +kernel
theorem dX4_count_109 : decode cX4_count 109 = .ok (.getfield 10, 3) := by decide +kernel
theorem dX4_count_112 : decode cX4_count 112 = .ok (.getfield 136, 3) := by decide +kernel
theorem dX4_count_115 : decode cX4_count 115 = .ok (.aload_n 0, 1) := by decide +kernel
theorem dX4_count_116 : decode cX4_count 116 = .ok (.getfield 10, 3) := by decide +kernel
theorem dX4_count_119 : decode cX4_count 119 = .ok (.getfield 199, 3) := by decide +kernel
theorem dX4_count_122 : decode cX4_count 122 = .ok (.isub, 1) := by decide +kernel
theorem dX4_count_123 : decode cX4_count 123 = .ok (.ireturn, 1) := by decide +kernel
theorem dX4_count_124 : decode cX4_count 124 = .ok (.aload_n 0, 1) := by decide +kernel
theorem dX4_count_125 : decode cX4_count 125 = .ok (.getfield 10, 3) := by decide +kernel
theorem dX4_count_128 : decode cX4_count 128 = .ok (.getfield 205, 3) := by decide +kernel
theorem dX4_count_131 : decode cX4_count 131 = .ok (.ireturn, 1) := by decide +kernel
theorem dX4_count_132 : decode cX4_count 132 = .ok (.aload_n 0, 1) := by decide +kernel
theorem dX4_count_133 : decode cX4_count 133 = .ok (.getfield 10, 3) := by decide +kernel
theorem dX4_count_136 : decode cX4_count 136 = .ok (.getfield 208, 3) := by decide +kernel
theorem dX4_count_139 : decode cX4_count 139 = .ok (.ireturn, 1) := by decide +kernel
theorem dX4_count_140 : decode cX4_count 140 = .ok (.aload_n 0, 1) := by decide +kernel
theorem dX4_count_141 : decode cX4_count 141 = .ok (.getfield 10, 3) := by decide +kernel
theorem dX4_count_144 : decode cX4_count 144 = .ok (.getfield 46, 3) := by decide +kernel
theorem dX4_count_147 : decode cX4_count 147 = .ok (.ireturn, 1) := by decide +kernel
theorem dX4_count_148 : decode cX4_count 148 = .ok (.aload_n 0, 1) := by decide +kernel
theorem dX4_count_149 : decode cX4_count 149 = .ok (.getfield 10, 3) := by decide +kernel
theorem dX4_count_152 : decode cX4_count 152 = .ok (.getfield 49, 3) := by decide +kernel
theorem dX4_count_155 : decode cX4_count 155 = .ok (.ireturn, 1) := by decide +kernel
theorem dX4_count_156 : decode cX4_count 156 = .ok (.aload_n 0, 1) := by decide +kernel
theorem dX4_count_157 : decode cX4_count 157 = .ok (.getfield 10, 3) := by decide +kernel
theorem dX4_count_160 : decode cX4_count 160 = .ok (.invokevirtual 69, 3) := by decide +kernel
theorem dX4_count_163 : decode cX4_count 163 = .ok (.ireturn, 1) := by decide +kernel
theorem dX4_count_164 : decode cX4_count 164 = .ok (.aload_n 0, 1) := by decide +kernel
theorem dX4_count_165 : decode cX4_count 165 = .ok (.getfield 10, 3) := by decide +kernel
theorem dX4_count_168 : decode cX4_count 168 = .ok (.invokevirtual 211, 3) := by decide +kernel
theorem dX4_count_171 : decode cX4_count 171 = .ok (.ireturn, 1) := by decide +kernel
theorem dX4_count_172 : decode cX4_count 172 = .ok (.aload_n 0, 1) := by decide +kernel
theorem dX4_count_173 : decode cX4_count 173 = .ok (.getfield 10, 3) := by decide +kernel
theorem dX4_count_176 : decode cX4_count 176 = .ok (.getfield 72, 3) := by decide +kernel
theorem dX4_count_179 : decode cX4_count 179 = .ok (.ireturn, 1) := by decide +kernel
theorem dX4_count_180 : decode cX4_count 180 = .ok (.aload_n 0, 1) := by decide +kernel
theorem dX4_count_181 : decode cX4_count 181 = .ok (.getfield 10, 3) := by decide +kernel
theorem dX4_count_184 : decode cX4_count 184 = .ok (.getfield 90, 3) := by decide +kernel
theorem dX4_count_187 : decode cX4_count 187 = .ok (.ireturn, 1) := by decide +kernel
theorem dX4_count_188 : decode cX4_count 188 = .ok (.aload_n 0, 1) := by decide +kernel
theorem dX4_count_189 : decode cX4_count 189 = .ok (.getfield 10, 3) := by decide +kernel
theorem dX4_count_192 : decode cX4_count 192 = .ok (.invokevirtual 214, 3) := by decide +kernel
theorem dX4_count_195 : decode cX4_count 195 = .ok (.ireturn, 1) := by decide +kernel
theorem dX4_count_196 : decode cX4_count 196 = .ok (.aload_n 0, 1) := by decide +kernel
theorem dX4_count_197 : decode cX4_count 197 = .ok (.getfield 10, 3) := by decide +kernel
theorem dX4_count_200 : decode cX4_count 200 = .ok (.getfield 60, 3) := by decide +kernel
theorem dX4_count_203 : decode cX4_count 203 = .ok (.getfield 64, 3) := by decide +kernel
theorem dX4_count_206 : decode cX4_count 206 = .ok (.ireturn, 1) := by decide +kernel
theorem dX4_count_207 : decode cX4_count 207 = .ok (.aload_n 0, 1) := by decide +kernel
theorem dX4_count_208 : decode cX4_count 208 = .ok (.getfield 37, 3) := by decide +kernel
theorem dX4_count_211 : decode cX4_count 211 = .ok (.ireturn, 1) := by decide +kernel
theorem dX4_count_212 : decode cX4_count 212 = .ok (.aload_n 0, 1) := by decide +kernel
theorem dX4_count_213 : decode cX4_count 213 = .ok (.getfield 29, 3) := by decide +kernel
theorem dX4_count_216 : decode cX4_count 216 = .ok (.getfield 122, 3) := by decide +kernel
theorem dX4_count_219 : decode cX4_count 219 = .ok (.ireturn, 1) := by decide +kernel
theorem dX4_count_220 : decode cX4_count 220 = .ok (.aload_n 0, 1) := by decide +kernel
theorem dX4_count_221 : decode cX4_count 221 = .ok (.getfield 10, 3) := by decide +kernel
theorem dX4_count_224 : decode cX4_count 224 = .ok (.invokevirtual 217, 3) := by decide +kernel
theorem dX4_count_227 : decode cX4_count 227 = .ok (.ireturn, 1) := by decide +kernel
theorem dX4_count_228 : decode cX4_count 228 = .ok (.ldc 45, 2) := by decide +kernel
theorem dX4_count_230 : decode cX4_count 230 = .ok (.ireturn, 1) := by decide +kernel
theorem dX4_isOutside_0 : decode cX4_isOutside 0 = .ok (.iload_n 0, 1) := by decide +kernel
theorem dX4_isOutside_1 : decode cX4_isOutside 1 = .ok (.iload_n 1, 1) := by decide +kernel
theorem dX4_isOutside_2 : decode cX4_isOutside 2 = .ok (.if_icmp .lt 8, 3) := by decide +kernel
theorem dX4_isOutside_5 : decode cX4_isOutside 5 = .ok (.iload_n 0, 1) := by decide +kernel
theorem dX4_isOutside_6 : decode cX4_isOutside 6 = .ok (.iload_n 2, 1) := by decide +kernel
theorem dX4_isOutside_7 : decode cX4_isOutside 7 = .ok (.if_icmp .le 7, 3) := by decide +kernel
theorem dX4_isOutside_10 : decode cX4_isOutside 10 = .ok (.iconst 1, 1) := by decide +kernel
theorem dX4_isOutside_11 : decode cX4_isOutside 11 = .ok (.goto 4, 3) := by decide +kernel
theorem dX4_isOutside_14 : decode cX4_isOutside 14 = .ok (.iconst 0, 1) := by decide +kernel
theorem dX4_isOutside_15 : decode cX4_isOutside 15 = .ok (.ireturn, 1) := by decide +kernel
theorem dX4_isWalk_0 : decode cX4_isWalk 0 = .ok (.iload_n 0, 1) := by decide +kernel
theorem dX4_isWalk_1 : decode cX4_isWalk 1 = .ok (.iconst 0, 1) := by decide +kernel
theorem dX4_isWalk_2 : decode cX4_isWalk 2 = .ok (.bipush 15, 2) := by decide +kernel
theorem dX4_isWalk_4 : decode cX4_isWalk 4 = .ok (.invokestatic 41, 3) := by decide +kernel
theorem dX4_isWalk_7 : decode cX4_isWalk 7 = .ok (.ifCond .ne 14, 3) := by decide +kernel
theorem dX4_isWalk_10 : decode cX4_isWalk 10 = .ok (.iload_n 1, 1) := by decide +kernel
theorem dX4_isWalk_11 : decode cX4_isWalk 11 = .ok (.iconst 0, 1) := by decide +kernel
theorem dX4_isWalk_12 : decode cX4_isWalk 12 = .ok (.sipush 9999, 3) := by decide +kernel
theorem dX4_isWalk_15 : decode cX4_isWalk 15 = .ok (.invokestatic 41, 3) := by decide +kernel
theorem dX4_isWalk_18 : decode cX4_isWalk 18 = .ok (.ifCond .eq 5, 3) := by decide +kernel
theorem dX4_isWalk_21 : decode cX4_isWalk 21 = .ok (.iconst 0, 1) := by decide +kernel
theorem dX4_isWalk_22 : decode cX4_isWalk 22 = .ok (.ireturn, 1) := by decide +kernel
theorem dX4_isWalk_23 : decode cX4_isWalk 23 = .ok (.iload_n 2, 1) := by decide +kernel
theorem dX4_isWalk_24 : decode cX4_isWalk 24 = .ok (.sipush (-999), 3) := by decide +kernel
theorem dX4_isWalk_27 : decode cX4_isWalk 27 = .ok (.sipush 999, 3) := by decide +kernel
theorem dX4_isWalk_30 : decode cX4_isWalk 30 = .ok (.invokestatic 41, 3) := by decide +kernel
theorem dX4_isWalk_33 : decode cX4_isWalk 33 = .ok (.ifCond .ne 13, 3) := by decide +kernel
theorem dX4_isWalk_36 : decode cX4_isWalk 36 = .ok (.iload_n 3, 1) := by decide +kernel
theorem dX4_isWalk_37 : decode cX4_isWalk 37 = .ok (.iconst 1, 1) := by decide +kernel
theorem dX4_isWalk_38 : decode cX4_isWalk 38 = .ok (.bipush 30, 2) := by decide +kernel
theorem dX4_isWalk_40 : decode cX4_isWalk 40 = .ok (.invokestatic 41, 3) := by decide +kernel
theorem dX4_isWalk_43 : decode cX4_isWalk 43 = .ok (.ifCond .eq 5, 3) := by decide +kernel
theorem dX4_isWalk_46 : decode cX4_isWalk 46 = .ok (.iconst 0, 1) := by decide +kernel
theorem dX4_isWalk_47 : decode cX4_isWalk 47 = .ok (.ireturn, 1) := by decide +kernel
theorem dX4_isWalk_48 : decode cX4_isWalk 48 = .ok (.iload_n 1, 1) := by decide +kernel
theorem dX4_isWalk_49 : decode cX4_isWalk 49 = .ok (.iload_n 2, 1) := by decide +kernel
theorem dX4_isWalk_50 : decode cX4_isWalk 50 = .ok (.iload_n 3, 1) := by decide +kernel
theorem dX4_isWalk_51 : decode cX4_isWalk 51 = .ok (.iconst 1, 1) := by decide +kernel
theorem dX4_isWalk_52 : decode cX4_isWalk 52 = .ok (.isub, 1) := by decide +kernel
theorem dX4_isWalk_53 : decode cX4_isWalk 53 = .ok (.imul, 1) := by decide +kernel
theorem dX4_isWalk_54 : decode cX4_isWalk 54 = .ok (.iadd, 1) := by decide +kernel
theorem dX4_isWalk_55 : decode cX4_isWalk 55 = .ok (.iconst 0, 1) := by decide +kernel
theorem dX4_isWalk_56 : decode cX4_isWalk 56 = .ok (.sipush 9999, 3) := by decide +kernel
theorem dX4_isWalk_59 : decode cX4_isWalk 59 = .ok (.invokestatic 41, 3) := by decide +kernel
theorem dX4_isWalk_62 : decode cX4_isWalk 62 = .ok (.ifCond .ne 7, 3) := by decide +kernel
theorem dX4_isWalk_65 : decode cX4_isWalk 65 = .ok (.iconst 1, 1) := by decide +kernel
theorem dX4_isWalk_66 : decode cX4_isWalk 66 = .ok (.goto 4, 3) := by decide +kernel
theorem dX4_isWalk_69 : decode cX4_isWalk 69 = .ok (.iconst 0, 1) := by decide +kernel
theorem dX4_isWalk_70 : decode cX4_isWalk 70 = .ok (.ireturn, 1) := by decide +kernel
theorem dX4_remember_0 : decode cX4_remember 0 = .ok (.aload_n 0, 1) := by decide +kernel
theorem dX4_remember_1 : decode cX4_remember 1 = .ok (.getfield 37, 3) := by decide +kernel
theorem dX4_remember_4 : decode cX4_remember 4 = .ok (.iconst 4, 1) := by decide +kernel
theorem dX4_remember_5 : decode cX4_remember 5 = .ok (.if_icmp .lt 51, 3) := by decide +kernel
theorem dX4_remember_8 : decode cX4_remember 8 = .ok (.aload_n 0, 1) := by decide +kernel
theorem dX4_remember_9 : decode cX4_remember 9 = .ok (.getfield 22, 3) := by decide +kernel
theorem dX4_remember_12 : decode cX4_remember 12 = .ok (.iconst 0, 1) := by decide +kernel
theorem dX4_remember_13 : decode cX4_remember 13 = .ok (.aaload, 1) := by decide +kernel
theorem dX4_remember_14 : decode cX4_remember 14 = .ok (.astore_n 1, 1) := by decide +kernel
theorem dX4_remember_15 : decode cX4_remember 15 = .ok (.iconst 0, 1) := by decide +kernel
theorem dX4_remember_16 : decode cX4_remember 16 = .ok (.istore_n 2, 1) := by decide +kernel
theorem dX4_remember_17 : decode cX4_remember 17 = .ok (.iload_n 2, 1) := by decide +kernel
theorem dX4_remember_18 : decode cX4_remember 18 = .ok (.iconst 1, 1) := by decide +kernel
theorem dX4_remember_19 : decode cX4_remember 19 = .ok (.iadd, 1) := by decide +kernel
theorem dX4_remember_20 : decode cX4_remember 20 = .ok (.iconst 4, 1) := by decide +kernel
theorem dX4_remember_21 : decode cX4_remember 21 = .ok (.if_icmp .ge 23, 3) := by decide +kernel
theorem dX4_remember_24 : decode cX4_remember 24 = .ok (.aload_n 0, 1) := by decide +kernel
theorem dX4_remember_25 : decode cX4_remember 25 = .ok (.getfield 22, 3) := by decide +kernel
theorem dX4_remember_28 : decode cX4_remember 28 = .ok (.iload_n 2, 1) := by decide +kernel
theorem dX4_remember_29 : decode cX4_remember 29 = .ok (.aload_n 0, 1) := by decide +kernel
theorem dX4_remember_30 : decode cX4_remember 30 = .ok (.getfield 22, 3) := by decide +kernel
theorem dX4_remember_33 : decode cX4_remember 33 = .ok (.iload_n 2, 1) := by decide +kernel
theorem dX4_remember_34 : decode cX4_remember 34 = .ok (.iconst 1, 1) := by decide +kernel
theorem dX4_remember_35 : decode cX4_remember 35 = .ok (.iadd, 1) := by decide +kernel
theorem dX4_remember_36 : decode cX4_remember 36 = .ok (.aaload, 1) := by decide +kernel
theorem dX4_remember_37 : decode cX4_remember 37 = .ok (.aastore, 1) := by decide +kernel
theorem dX4_remember_38 : decode cX4_remember 38 = .ok (.iinc 2 1, 3) := by decide +kernel
theorem dX4_remember_41 : decode cX4_remember 41 = .ok (.goto (-24), 3) := by decide +kernel
theorem dX4_remember_44 : decode cX4_remember 44 = .ok (.aload_n 0, 1) := by decide +kernel
theorem dX4_remember_45 : decode cX4_remember 45 = .ok (.getfield 22, 3) := by decide +kernel
theorem dX4_remember_48 : decode cX4_remember 48 = .ok (.iconst 3, 1) := by decide +kernel
theorem dX4_remember_49 : decode cX4_remember 49 = .ok (.aload_n 1, 1) := by decide +kernel
theorem dX4_remember_50 : decode cX4_remember 50 = .ok (.aastore, 1) := by decide +kernel
theorem dX4_remember_51 : decode cX4_remember 51 = .ok (.aload_n 0, 1) := by decide +kernel
theorem dX4_remember_52 : decode cX4_remember 52 = .ok (.iconst 3, 1) := by decide +kernel
theorem dX4_remember_53 : decode cX4_remember 53 = .ok (.putfield 37, 3) := by decide +kernel
theorem dX4_remember_56 : decode cX4_remember 56 = .ok (.aload_n 0, 1) := by decide +kernel
theorem dX4_remember_57 : decode cX4_remember 57 = .ok (.getfield 22, 3) := by decide +kernel
theorem dX4_remember_60 : decode cX4_remember 60 = .ok (.aload_n 0, 1) := by decide +kernel
theorem dX4_remember_61 : decode cX4_remember 61 = .ok (.getfield 37, 3) := by decide +kernel
theorem dX4_remember_64 : decode cX4_remember 64 = .ok (.aaload, 1) := by decide +kernel
theorem dX4_remember_65 : decode cX4_remember 65 = .ok (.aload_n 0, 1) := by decide +kernel
theorem dX4_remember_66 : decode cX4_remember 66 = .ok (.getfield 10, 3) := by decide +kernel
theorem dX4_remember_69 : decode cX4_remember 69 = .ok (.invokevirtual 132, 3) := by decide +kernel
theorem dX4_remember_72 : decode cX4_remember 72 = .ok (.aload_n 0, 1) := by decide +kernel
theorem dX4_remember_73 : decode cX4_remember 73 = .ok (.dup, 1) := by decide +kernel
theorem dX4_remember_74 : decode cX4_remember 74 = .ok (.getfield 37, 3) := by decide +kernel
theorem dX4_remember_77 : decode cX4_remember 77 = .ok (.iconst 1, 1) := by decide +kernel
theorem dX4_remember_78 : decode cX4_remember 78 = .ok (.iadd, 1) := by decide +kernel
theorem dX4_remember_79 : decode cX4_remember 79 = .ok (.putfield 37, 3) := by decide +kernel
theorem dX4_remember_82 : decode cX4_remember 82 = .ok (.return_, 1) := by decide +kernel
theorem dX5_init_0 : decode cX5_init 0 = .ok (.aload_n 0, 1) := by decide +kernel
theorem dX5_init_1 : decode cX5_init 1 = .ok (.invokespecial 1, 3) := by decide +kernel
theorem dX5_init_4 : decode cX5_init 4 = .ok (.aload_n 0, 1) := by decide +kernel
theorem dX5_init_5 : decode cX5_init 5 = .ok (.sipush 2506, 3) := by decide +kernel
theorem dX5_init_8 : decode cX5_init 8 = .ok (.newarray .int, 2) := by decide +kernel
theorem dX5_init_10 : decode cX5_init 10 = .ok (.putfield 7, 3) := by decide +kernel
theorem dX5_init_13 : decode cX5_init 13 = .ok (.aload_n 0, 1) := by decide +kernel
theorem dX5_init_14 : decode cX5_init 14 = .ok (.bipush 80, 2) := by decide +kernel
theorem dX5_init_16 : decode cX5_init 16 = .ok (.newarray .int, 2) := by decide +kernel
theorem dX5_init_18 : decode cX5_init 18 = .ok (.putfield 13, 3) := by decide +kernel
theorem dX5_init_21 : decode cX5_init 21 = .ok (.aload_n 0, 1) := by decide +kernel
theorem dX5_init_22 : decode cX5_init 22 = .ok (.iconst (-1), 1) := by decide +kernel
theorem dX5_init_23 : decode cX5_init 23 = .ok (.putfield 16, 3) := by decide +kernel
theorem dX5_init_26 : decode cX5_init 26 = .ok (.aload_n 0, 1) := by decide +kernel
theorem dX5_init_27 : decode cX5_init 27 = .ok (.iconst 4, 1) := by decide +kernel
theorem dX5_init_28 : decode cX5_init 28 = .ok (.newarray .int, 2) := by decide +kernel
theorem dX5_init_30 : decode cX5_init 30 = .ok (.putfield 20, 3) := by decide +kernel
theorem dX5_init_33 : decode cX5_init 33 = .ok (.aload_n 0, 1) := by decide +kernel
theorem dX5_init_34 : decode cX5_init 34 = .ok (.getfield 7, 3) := by decide +kernel
theorem dX5_init_37 : decode cX5_init 37 = .ok (.sipush 349, 3) := by decide +kernel
theorem dX5_init_40 : decode cX5_init 40 = .ok (.iconst 4, 1) := by decide +kernel
theorem dX5_init_41 : decode cX5_init 41 = .ok (.iastore, 1) := by decide +kernel
theorem dX5_init_42 : decode cX5_init 42 = .ok (.aload_n 0, 1) := by decide +kernel
theorem dX5_init_43 : decode cX5_init 43 = .ok (.getfield 7, 3) := by decide +kernel
theorem dX5_init_46 : decode cX5_init 46 = .ok (.sipush 350, 3) := by decide +kernel
theorem dX5_init_49 : decode cX5_init 49 = .ok (.iconst 2, 1) := by decide +kernel
theorem dX5_init_50 : decode cX5_init 50 = .ok (.iastore, 1) := by decide +kernel
theorem dX5_init_51 : decode cX5_init 51 = .ok (.aload_n 0, 1) := by decide +kernel
theorem dX5_init_52 : decode cX5_init 52 = .ok (.getfield 7, 3) := by decide +kernel
theorem dX5_init_55 : decode cX5_init 55 = .ok (.sipush 352, 3) := by decide +kernel
theorem dX5_init_58 : decode cX5_init 58 = .ok (.iconst 3, 1) := by decide +kernel
theorem dX5_init_59 : decode cX5_init 59 = .ok (.iastore, 1) := by decide +kernel
theorem dX5_init_60 : decode cX5_init 60 = .ok (.return_, 1) := by decide +kernel
theorem dX5_in_0 : decode cX5_in 0 = .ok (.iload_n 0, 1) := by decide +kernel
theorem dX5_in_1 : decode cX5_in 1 = .ok (.iload_n 1, 1) := by decide +kernel
theorem dX5_in_2 : decode cX5_in 2 = .ok (.if_icmp .lt 12, 3) := by decide +kernel
theorem dX5_in_5 : decode cX5_in 5 = .ok (.iload_n 0, 1) := by decide +kernel
theorem dX5_in_6 : decode cX5_in 6 = .ok (.iload_n 2, 1) := by decide +kernel
theorem dX5_in_7 : decode cX5_in 7 = .ok (.if_icmp .gt 7, 3) := by decide +kernel
theorem dX5_in_10 : decode cX5_in 10 = .ok (.iconst 1, 1) := by decide +kernel
theorem dX5_in_11 : decode cX5_in 11 = .ok (.goto 4, 3) := by decide +kernel
theorem dX5_in_14 : decode cX5_in 14 = .ok (.iconst 0, 1) := by decide +kernel
theorem dX5_in_15 : decode cX5_in 15 = .ok (.ireturn, 1) := by decide +kernel
theorem dX5_isLine_0 : decode cX5_isLine 0 = .ok (.iload_n 0, 1) := by decide +kernel
theorem dX5_isLine_1 : decode cX5_isLine 1 = .ok (.iconst 0, 1) := by decide +kernel
theorem dX5_isLine_2 : decode cX5_isLine 2 = .ok (.sipush 9999, 3) := by decide +kernel
theorem dX5_isLine_5 : decode cX5_isLine 5 = .ok (.invokestatic 23, 3) := by decide +kernel
theorem dX5_isLine_8 : decode cX5_isLine 8 = .ok (.ireturn, 1) := by decide +kernel
theorem dX5_isHelper_0 : decode cX5_isHelper 0 = .ok (.iload_n 1, 1) := by decide +kernel
theorem dX5_isHelper_1 : decode cX5_isHelper 1 = .ok (.iconst 0, 1) := by decide +kernel
theorem dX5_isHelper_2 : decode cX5_isHelper 2 = .ok (.aload_n 0, 1) := by decide +kernel
theorem dX5_isHelper_3 : decode cX5_isHelper 3 = .ok (.getfield 7, 3) := by decide +kernel
theorem dX5_isHelper_6 : decode cX5_isHelper 6 = .ok (.sipush 351, 3) := by decide +kernel
theorem dX5_isHelper_9 : decode cX5_isHelper 9 = .ok (.iaload, 1) := by decide +kernel
theorem dX5_isHelper_10 : decode cX5_isHelper 10 = .ok (.iconst 1, 1) := by decide +kernel
theorem dX5_isHelper_11 : decode cX5_isHelper 11 = .ok (.isub, 1) := by decide +kernel
theorem dX5_isHelper_12 : decode cX5_isHelper 12 = .ok (.invokestatic 23, 3) := by decide +kernel
theorem dX5_isHelper_15 : decode cX5_isHelper 15 = .ok (.ireturn, 1) := by decide +kernel
theorem dX5_of_0 : decode cX5_of 0 = .ok (.bipush 120, 2) := by decide +kernel
theorem dX5_of_2 : decode cX5_of 2 = .ok (.bipush 14, 2) := by decide +kernel
theorem dX5_of_4 : decode cX5_of 4 = .ok (.iload_n 0, 1) := by decide +kernel
theorem dX5_of_5 : decode cX5_of 5 = .ok (.imul, 1) := by decide +kernel
theorem dX5_of_6 : decode cX5_of 6 = .ok (.iadd, 1) := by decide +kernel
theorem dX5_of_7 : decode cX5_of 7 = .ok (.iload_n 1, 1) := by decide +kernel
theorem dX5_of_8 : decode cX5_of 8 = .ok (.iadd, 1) := by decide +kernel
theorem dX5_of_9 : decode cX5_of 9 = .ok (.ireturn, 1) := by decide +kernel
theorem dX5_copy_0 : decode cX5_copy 0 = .ok (.iconst 0, 1) := by decide +kernel
theorem dX5_copy_1 : decode cX5_copy 1 = .ok (.istore_n 3, 1) := by decide +kernel
theorem dX5_copy_2 : decode cX5_copy 2 = .ok (.iload_n 3, 1) := by decide +kernel
theorem dX5_copy_3 : decode cX5_copy 3 = .ok (.sipush 358, 3) := by decide +kernel
theorem dX5_copy_6 : decode cX5_copy 6 = .ok (.if_icmp .ge 25, 3) := by decide +kernel
theorem dX5_copy_9 : decode cX5_copy 9 = .ok (.aload_n 0, 1) := by decide +kernel
theorem dX5_copy_10 : decode cX5_copy 10 = .ok (.getfield 7, 3) := by decide +kernel
theorem dX5_copy_13 : decode cX5_copy 13 = .ok (.iload_n 2, 1) := by decide +kernel
theorem dX5_copy_14 : decode cX5_copy 14 = .ok (.iload_n 3, 1) := by decide +kernel
theorem dX5_copy_15 : decode cX5_copy 15 = .ok (.iadd, 1) := by decide +kernel
theorem dX5_copy_16 : decode cX5_copy 16 = .ok (.aload_n 0, 1) := by decide +kernel
theorem dX5_copy_17 : decode cX5_copy 17 = .ok (.getfield 7, 3) := by decide +kernel
theorem dX5_copy_20 : decode cX5_copy 20 = .ok (.iload_n 1, 1) := by decide +kernel
theorem dX5_copy_21 : decode cX5_copy 21 = .ok (.iload_n 3, 1) := by decide +kernel
theorem dX5_copy_22 : decode cX5_copy 22 = .ok (.iadd, 1) := by decide +kernel
theorem dX5_copy_23 : decode cX5_copy 23 = .ok (.iaload, 1) := by decide +kernel
theorem dX5_copy_24 : decode cX5_copy 24 = .ok (.iastore, 1) := by decide +kernel
theorem dX5_copy_25 : decode cX5_copy 25 = .ok (.iinc 3 1, 3) := by decide +kernel
theorem dX5_copy_28 : decode cX5_copy 28 = .ok (.goto (-26), 3) := by decide +kernel
theorem dX5_copy_31 : decode cX5_copy 31 = .ok (.return_, 1) := by decide +kernel
theorem dX5_record_0 : decode cX5_record 0 = .ok (.aload_n 0, 1) := by decide +kernel
theorem dX5_record_1 : decode cX5_record 1 = .ok (.getfield 27, 3) := by decide +kernel
theorem dX5_record_4 : decode cX5_record 4 = .ok (.iconst 4, 1) := by decide +kernel
theorem dX5_record_5 : decode cX5_record 5 = .ok (.if_icmp .ne 44, 3) := by decide +kernel
theorem dX5_record_8 : decode cX5_record 8 = .ok (.iconst 1, 1) := by decide +kernel
theorem dX5_record_9 : decode cX5_record 9 = .ok (.istore_n 1, 1) := by decide +kernel
theorem dX5_record_10 : decode cX5_record 10 = .ok (.iload_n 1, 1) := by decide +kernel
theorem dX5_record_11 : decode cX5_record 11 = .ok (.iconst 4, 1) := by decide +kernel
theorem dX5_record_12 : decode cX5_record 12 = .ok (.if_icmp .ge 27, 3) := by decide +kernel
theorem dX5_record_15 : decode cX5_record 15 = .ok (.aload_n 0, 1) := by decide +kernel
theorem dX5_record_16 : decode cX5_record 16 = .ok (.sipush 358, 3) := by decide +kernel
theorem dX5_record_19 : decode cX5_record 19 = .ok (.sipush 358, 3) := by decide +kernel
theorem dX5_record_22 : decode cX5_record 22 = .ok (.iload_n 1, 1) := by decide +kernel
theorem dX5_record_23 : decode cX5_record 23 = .ok (.imul, 1) := by decide +kernel
theorem dX5_record_24 : decode cX5_record 24 = .ok (.iadd, 1) := by decide +kernel
theorem dX5_record_25 : decode cX5_record 25 = .ok (.sipush 358, 3) := by decide +kernel
theorem dX5_record_28 : decode cX5_record 28 = .ok (.iload_n 1, 1) := by decide +kernel
theorem dX5_record_29 : decode cX5_record 29 = .ok (.imul, 1) := by decide +kernel
theorem dX5_record_30 : decode cX5_record 30 = .ok (.invokevirtual 30, 3) := by decide +kernel
theorem dX5_record_33 : decode cX5_record 33 = .ok (.iinc 1 1, 3) := by decide +kernel
theorem dX5_record_36 : decode cX5_record 36 = .ok (.goto (-26), 3) := by decide +kernel
theorem dX5_record_39 : decode cX5_record 39 = .ok (.aload_n 0, 1) := by decide +kernel
theorem dX5_record_40 : decode cX5_record 40 = .ok (.dup, 1) := by decide +kernel
theorem dX5_record_41 : decode cX5_record 41 = .ok (.getfield 27, 3) := by decide +kernel
theorem dX5_record_44 : decode cX5_record 44 = .ok (.iconst 1, 1) := by decide +kernel
theorem dX5_record_45 : decode cX5_record 45 = .ok (.isub, 1) := by decide +kernel
theorem dX5_record_46 : decode cX5_record 46 = .ok (.putfield 27, 3) := by decide +kernel
theorem dX5_record_49 : decode cX5_record 49 = .ok (.aload_n 0, 1) := by decide +kernel
theorem dX5_record_50 : decode cX5_record 50 = .ok (.iconst 0, 1) := by decide +kernel
theorem dX5_record_51 : decode cX5_record 51 = .ok (.sipush 358, 3) := by decide +kernel
theorem dX5_record_54 : decode cX5_record 54 = .ok (.sipush 358, 3) := by decide +kernel
theorem dX5_record_57 : decode cX5_record 57 = .ok (.aload_n 0, 1) := by decide +kernel
theorem dX5_record_58 : decode cX5_record 58 = .ok (.getfield 27, 3) := by decide +kernel
theorem dX5_record_61 : decode cX5_record 61 = .ok (.imul, 1) := by decide +kernel
theorem dX5_record_62 : decode cX5_record 62 = .ok (.iadd, 1) := by decide +kernel
theorem dX5_record_63 : decode cX5_record 63 = .ok (.invokevirtual 30, 3) := by decide +kernel
theorem dX5_record_66 : decode cX5_record 66 = .ok (.aload_n 0, 1) := by decide +kernel
theorem dX5_record_67 : decode cX5_record 67 = .ok (.dup, 1) := by decide +kernel
theorem dX5_record_68 : decode cX5_record 68 = .ok (.getfield 27, 3) := by decide +kernel
theorem dX5_record_71 : decode cX5_record 71 = .ok (.iconst 1, 1) := by decide +kernel
theorem dX5_record_72 : decode cX5_record 72 = .ok (.iadd, 1) := by decide +kernel
theorem dX5_record_73 : decode cX5_record 73 = .ok (.putfield 27, 3) := by decide +kernel
theorem dX5_record_76 : decode cX5_record 76 = .ok (.return_, 1) := by decide +kernel
theorem dX5_undo_0 : decode cX5_undo 0 = .ok (.aload_n 0, 1) := by decide +kernel
theorem dX5_undo_1 : decode cX5_undo 1 = .ok (.getfield 27, 3) := by decide +kernel
theorem dX5_undo_4 : decode cX5_undo 4 = .ok (.ifCond .ne 6, 3) := by decide +kernel
theorem dX5_undo_7 : decode cX5_undo 7 = .ok (.ldc 34, 2) := by decide +kernel
theorem dX5_undo_9 : decode cX5_undo 9 = .ok (.ireturn, 1) := by decide +kernel
theorem dX5_undo_10 : decode cX5_undo 10 = .ok (.aload_n 0, 1) := by decide +kernel
theorem dX5_undo_11 : decode cX5_undo 11 = .ok (.dup, 1) := by decide +kernel
theorem dX5_undo_12 : decode cX5_undo 12 = .ok (.getfield 27, 3) := by decide +kernel
theorem dX5_undo_15 : decode cX5_undo 15 = .ok (.iconst 1, 1) := by decide +kernel
theorem dX5_undo_16 : decode cX5_undo 16 = .ok (.isub, 1) := by decide +kernel
theorem dX5_undo_17 : decode cX5_undo 17 = .ok (.putfield 27, 3) := by decide +kernel
theorem dX5_undo_20 : decode cX5_undo 20 = .ok (.aload_n 0, 1) := by decide +kernel
theorem dX5_undo_21 : decode cX5_undo 21 = .ok (.sipush 358, 3) := by decide +kernel
theorem dX5_undo_24 : decode cX5_undo 24 = .ok (.sipush 358, 3) := by decide +kernel
theorem dX5_undo_27 : decode cX5_undo 27 = .ok (.aload_n 0, 1) := by decide +kernel
theorem dX5_undo_28 : decode cX5_undo 28 = .ok (.getfield 27, 3) := by decide +kernel
theorem dX5_undo_31 : decode cX5_undo 31 = .ok (.imul, 1) := by decide +kernel
theorem dX5_undo_32 : decode cX5_undo 32 = .ok (.iadd, 1) := by decide +kernel
theorem dX5_undo_33 : decode cX5_undo 33 = .ok (.iconst 0, 1) := by decide +kernel
theorem dX5_undo_34 : decode cX5_undo 34 = .ok (.invokevirtual 30, 3) := by decide +kernel
theorem dX5_undo_37 : decode cX5_undo 37 = .ok (.aload_n 0, 1) := by decide +kernel
theorem dX5_undo_38 : decode cX5_undo 38 = .ok (.getfield 27, 3) := by decide +kernel
theorem dX5_undo_41 : decode cX5_undo 41 = .ok (.ireturn, 1) := by decide +kernel
theorem dX5_keep_0 : decode cX5_keep 0 = .ok (.aload_n 0, 1) := by decide +kernel
theorem dX5_keep_1 : decode cX5_keep 1 = .ok (.iconst 0, 1) := by decide +kernel
theorem dX5_keep_2 : decode cX5_keep 2 = .ok (.sipush 1790, 3) := by decide +kernel
theorem dX5_keep_5 : decode cX5_keep 5 = .ok (.invokevirtual 30, 3) := by decide +kernel
theorem dX5_keep_8 : decode cX5_keep 8 = .ok (.aload_n 0, 1) := by decide +kernel
theorem dX5_keep_9 : decode cX5_keep 9 = .ok (.iconst 1, 1) := by decide +kernel
theorem dX5_keep_10 : decode cX5_keep 10 = .ok (.putfield 35, 3) := by decide +kernel
theorem dX5_keep_13 : decode cX5_keep 13 = .ok (.aload_n 0, 1) := by decide +kernel
theorem dX5_keep_14 : decode cX5_keep 14 = .ok (.getfield 7, 3) := by decide +kernel
theorem dX5_keep_17 : decode cX5_keep 17 = .ok (.sipush 353, 3) := by decide +kernel
theorem dX5_keep_20 : decode cX5_keep 20 = .ok (.iaload, 1) := by decide +kernel
theorem dX5_keep_21 : decode cX5_keep 21 = .ok (.ireturn, 1) := by decide +kernel
theorem dX5_restore_0 : decode cX5_restore 0 = .ok (.aload_n 0, 1) := by decide +kernel
theorem dX5_restore_1 : decode cX5_restore 1 = .ok (.getfield 35, 3) := by decide +kernel
theorem dX5_restore_4 : decode cX5_restore 4 = .ok (.ifCond .ne 6, 3) := by decide +kernel
theorem dX5_restore_7 : decode cX5_restore 7 = .ok (.ldc 34, 2) := by decide +kernel
theorem dX5_restore_9 : decode cX5_restore 9 = .ok (.ireturn, 1) := by decide +kernel
theorem dX5_restore_10 : decode cX5_restore 10 = .ok (.aload_n 0, 1) := by decide +kernel
theorem dX5_restore_11 : decode cX5_restore 11 = .ok (.invokevirtual 39, 3) := by decide +kernel
theorem dX5_restore_14 : decode cX5_restore 14 = .ok (.aload_n 0, 1) := by decide +kernel
theorem dX5_restore_15 : decode cX5_restore 15 = .ok (.sipush 1790, 3) := by decide +kernel
theorem dX5_restore_18 : decode cX5_restore 18 = .ok (.iconst 0, 1) := by decide +kernel
theorem dX5_restore_19 : decode cX5_restore 19 = .ok (.invokevirtual 30, 3) := by decide +kernel
theorem dX5_restore_22 : decode cX5_restore 22 = .ok (.aload_n 0, 1) := by decide +kernel
theorem dX5_restore_23 : decode cX5_restore 23 = .ok (.getfield 7, 3) := by decide +kernel
theorem dX5_restore_26 : decode cX5_restore 26 = .ok (.sipush 353, 3) := by decide +kernel
theorem dX5_restore_29 : decode cX5_restore 29 = .ok (.iaload, 1) := by decide +kernel
theorem dX5_restore_30 : decode cX5_restore 30 = .ok (.ireturn, 1) := by decide +kernel
theorem dX5_cellOf_0 : decode cX5_cellOf 0 = .ok (.bipush 8, 2) := by decide +kernel
theorem dX5_cellOf_2 : decode cX5_cellOf 2 = .ok (.iconst 3, 1) := by decide +kernel
theorem dX5_cellOf_3 : decode cX5_cellOf 3 = .ok (.iconst 4, 1) := by decide +kernel
theorem dX5_cellOf_4 : decode cX5_cellOf 4 = .ok (.iload_n 0, 1) := by decide +kernel
theorem dX5_cellOf_5 : decode cX5_cellOf 5 = .ok (.imul, 1) := by decide +kernel
theorem dX5_cellOf_6 : decode cX5_cellOf 6 = .ok (.iload_n 1, 1) := by decide +kernel
theorem dX5_cellOf_7 : decode cX5_cellOf 7 = .ok (.iadd, 1) := by decide +kernel
theorem dX5_cellOf_8 : decode cX5_cellOf 8 = .ok (.imul, 1) := by decide +kernel
theorem dX5_cellOf_9 : decode cX5_cellOf 9 = .ok (.iadd, 1) := by decide +kernel
theorem dX5_cellOf_10 : decode cX5_cellOf 10 = .ok (.ireturn, 1) := by decide +kernel
theorem dX5_placeOf_0 : decode cX5_placeOf 0 = .ok (.iload_n 1, 1) := by decide +kernel
theorem dX5_placeOf_1 : decode cX5_placeOf 1 = .ok (.aload_n 0, 1) := by decide +kernel
theorem dX5_placeOf_2 : decode cX5_placeOf 2 = .ok (.getfield 7, 3) := by decide +kernel
theorem dX5_placeOf_5 : decode cX5_placeOf 5 = .ok (.sipush 349, 3) := by decide +kernel
theorem dX5_placeOf_8 : decode cX5_placeOf 8 = .ok (.iaload, 1) := by decide +kernel
theorem dX5_placeOf_9 : decode cX5_placeOf 9 = .ok (.irem, 1) := by decide +kernel
theorem dX5_placeOf_10 : decode cX5_placeOf 10 = .ok (.istore_n 2, 1) := by decide +kernel
theorem dX5_placeOf_11 : decode cX5_placeOf 11 = .ok (.iconst (-1), 1) := by decide +kernel
theorem dX5_placeOf_12 : decode cX5_placeOf 12 = .ok (.istore_n 3, 1) := by decide +kernel
theorem dX5_placeOf_13 : decode cX5_placeOf 13 = .ok (.iconst 0, 1) := by decide +kernel
theorem dX5_placeOf_14 : decode cX5_placeOf 14 = .ok (.istore 4, 2) := by decide +kernel
theorem dX5_placeOf_16 : decode cX5_placeOf 16 = .ok (.iload 4, 2) := by decide +kernel
theorem dX5_placeOf_18 : decode cX5_placeOf 18 = .ok (.aload_n 0, 1) := by decide +kernel
theorem dX5_placeOf_19 : decode cX5_placeOf 19 = .ok (.getfield 7, 3) := by decide +kernel
theorem dX5_placeOf_22 : decode cX5_placeOf 22 = .ok (.iconst 0, 1) := by decide +kernel
theorem dX5_placeOf_23 : decode cX5_placeOf 23 = .ok (.iload_n 2, 1) := by decide +kernel
theorem dX5_placeOf_24 : decode cX5_placeOf 24 = .ok (.iadd, 1) := by decide +kernel
theorem dX5_placeOf_25 : decode cX5_placeOf 25 = .ok (.iaload, 1) := by decide +kernel
theorem dX5_placeOf_26 : decode cX5_placeOf 26 = .ok (.if_icmp .ge 31, 3) := by decide +kernel
theorem dX5_placeOf_29 : decode cX5_placeOf 29 = .ok (.aload_n 0, 1) := by decide +kernel
theorem dX5_placeOf_30 : decode cX5_placeOf 30 = .ok (.getfield 7, 3) := by decide +kernel
theorem dX5_placeOf_33 : decode cX5_placeOf 33 = .ok (.iload_n 2, 1) := by decide +kernel
theorem dX5_placeOf_34 : decode cX5_placeOf 34 = .ok (.iload 4, 2) := by decide +kernel
theorem dX5_placeOf_36 : decode cX5_placeOf 36 = .ok (.invokestatic 42, 3) := by decide +kernel
theorem dX5_placeOf_39 : decode cX5_placeOf 39 = .ok (.iaload, 1) := by decide +kernel
theorem dX5_placeOf_40 : decode cX5_placeOf 40 = .ok (.iload_n 1, 1) := by decide +kernel
theorem dX5_placeOf_41 : decode cX5_placeOf 41 = .ok (.if_icmp .ne 8, 3) := by decide +kernel
theorem dX5_placeOf_44 : decode cX5_placeOf 44 = .ok (.iload 4, 2) := by decide +kernel
theorem dX5_placeOf_46 : decode cX5_placeOf 46 = .ok (.goto 4, 3) := by decide +kernel
theorem dX5_placeOf_49 : decode cX5_placeOf 49 = .ok (.iload_n 3, 1) := by decide +kernel
theorem dX5_placeOf_50 : decode cX5_placeOf 50 = .ok (.istore_n 3, 1) := by decide +kernel
theorem dX5_placeOf_51 : decode cX5_placeOf 51 = .ok (.iinc 4 1, 3) := by decide +kernel
theorem dX5_placeOf_54 : decode cX5_placeOf 54 = .ok (.goto (-38), 3) := by decide +kernel
theorem dX5_placeOf_57 : decode cX5_placeOf 57 = .ok (.iload_n 3, 1) := by decide +kernel
theorem dX5_placeOf_58 : decode cX5_placeOf 58 = .ok (.ireturn, 1) := by decide +kernel
theorem dX5_outPlaceOf_0 : decode cX5_outPlaceOf 0 = .ok (.iconst (-1), 1) := by decide +kernel
theorem dX5_outPlaceOf_1 : decode cX5_outPlaceOf 1 = .ok (.istore_n 2, 1) := by decide +kernel
theorem dX5_outPlaceOf_2 : decode cX5_outPlaceOf 2 = .ok (.iconst 0, 1) := by decide +kernel
theorem dX5_outPlaceOf_3 : decode cX5_outPlaceOf 3 = .ok (.istore_n 3, 1) := by decide +kernel
theorem dX5_outPlaceOf_4 : decode cX5_outPlaceOf 4 = .ok (.iload_n 3, 1) := by decide +kernel
theorem dX5_outPlaceOf_5 : decode cX5_outPlaceOf 5 = .ok (.aload_n 0, 1) := by decide +kernel
theorem dX5_outPlaceOf_6 : decode cX5_outPlaceOf 6 = .ok (.getfield 7, 3) := by decide +kernel
theorem dX5_outPlaceOf_9 : decode cX5_outPlaceOf 9 = .ok (.sipush 348, 3) := by decide +kernel
theorem dX5_outPlaceOf_12 : decode cX5_outPlaceOf 12 = .ok (.iaload, 1) := by decide +kernel
theorem dX5_outPlaceOf_13 : decode cX5_outPlaceOf 13 = .ok (.if_icmp .ge 30, 3) := by decide +kernel
theorem dX5_outPlaceOf_16 : decode cX5_outPlaceOf 16 = .ok (.aload_n 0, 1) := by decide +kernel
theorem dX5_outPlaceOf_17 : decode cX5_outPlaceOf 17 = .ok (.getfield 7, 3) := by decide +kernel
theorem dX5_outPlaceOf_20 : decode cX5_outPlaceOf 20 = .ok (.bipush 104, 2) := by decide +kernel
theorem dX5_outPlaceOf_22 : decode cX5_outPlaceOf 22 = .ok (.iconst 2, 1) := by decide +kernel
theorem dX5_outPlaceOf_23 : decode cX5_outPlaceOf 23 = .ok (.iload_n 3, 1) := by decide +kernel
theorem dX5_outPlaceOf_24 : decode cX5_outPlaceOf 24 = .ok (.imul, 1) := by decide +kernel
theorem dX5_outPlaceOf_25 : decode cX5_outPlaceOf 25 = .ok (.iadd, 1) := by decide +kernel
theorem dX5_outPlaceOf_26 : decode cX5_outPlaceOf 26 = .ok (.iaload, 1) := by decide +kernel
theorem dX5_outPlaceOf_27 : decode cX5_outPlaceOf 27 = .ok (.iload_n 1, 1) := by decide +kernel
theorem dX5_outPlaceOf_28 : decode cX5_outPlaceOf 28 = .ok (.if_icmp .ne 7, 3) := by decide +kernel
theorem dX5_outPlaceOf_31 : decode cX5_outPlaceOf 31 = .ok (.iload_n 3, 1) := by decide +kernel
theorem dX5_outPlaceOf_32 : decode cX5_outPlaceOf 32 = .ok (.goto 4, 3) := by decide +kernel
theorem dX5_outPlaceOf_35 : decode cX5_outPlaceOf 35 = .ok (.iload_n 2, 1) := by decide +kernel
theorem dX5_outPlaceOf_36 : decode cX5_outPlaceOf 36 = .ok (.istore_n 2, 1) := by decide +kernel
theorem dX5_outPlaceOf_37 : decode cX5_outPlaceOf 37 = .ok (.iinc 3 1, 3) := by decide +kernel
theorem dX5_outPlaceOf_40 : decode cX5_outPlaceOf 40 = .ok (.goto (-36), 3) := by decide +kernel
theorem dX5_outPlaceOf_43 : decode cX5_outPlaceOf 43 = .ok (.iload_n 2, 1) := by decide +kernel
theorem dX5_outPlaceOf_44 : decode cX5_outPlaceOf 44 = .ok (.ireturn, 1) := by decide +kernel
theorem dX5_forgetOut_0 : decode cX5_forgetOut 0 = .ok (.iconst 2, 1) := by decide +kernel
theorem dX5_forgetOut_1 : decode cX5_forgetOut 1 = .ok (.iload_n 1, 1) := by decide +kernel
theorem dX5_forgetOut_2 : decode cX5_forgetOut 2 = .ok (.imul, 1) := by decide +kernel
theorem dX5_forgetOut_3 : decode cX5_forgetOut 3 = .ok (.istore_n 2, 1) := by decide +kernel
theorem dX5_forgetOut_4 : decode cX5_forgetOut 4 = .ok (.iload_n 2, 1) := by decide +kernel
theorem dX5_forgetOut_5 : decode cX5_forgetOut 5 = .ok (.iconst 2, 1) := by decide +kernel
theorem dX5_forgetOut_6 : decode cX5_forgetOut 6 = .ok (.aload_n 0, 1) := by decide +kernel
theorem dX5_forgetOut_7 : decode cX5_forgetOut 7 = .ok (.getfield 7, 3) := by decide +kernel
theorem dX5_forgetOut_10 : decode cX5_forgetOut 10 = .ok (.sipush 348, 3) := by decide +kernel
theorem dX5_forgetOut_13 : decode cX5_forgetOut 13 = .ok (.iaload, 1) := by decide +kernel
theorem dX5_forgetOut_14 : decode cX5_forgetOut 14 = .ok (.imul, 1) := by decide +kernel
theorem dX5_forgetOut_15 : decode cX5_forgetOut 15 = .ok (.iconst 2, 1) := by decide +kernel
theorem dX5_forgetOut_16 : decode cX5_forgetOut 16 = .ok (.isub, 1) := by decide +kernel
theorem dX5_forgetOut_17 : decode cX5_forgetOut 17 = .ok (.if_icmp .ge 29, 3) := by decide +kernel
theorem dX5_forgetOut_20 : decode cX5_forgetOut 20 = .ok (.aload_n 0, 1) := by decide +kernel
theorem dX5_forgetOut_21 : decode cX5_forgetOut 21 = .ok (.getfield 7, 3) := by decide +kernel
theorem dX5_forgetOut_24 : decode cX5_forgetOut 24 = .ok (.bipush 104, 2) := by decide +kernel
theorem dX5_forgetOut_26 : decode cX5_forgetOut 26 = .ok (.iload_n 2, 1) := by decide +kernel
theorem dX5_forgetOut_27 : decode cX5_forgetOut 27 = .ok (.iadd, 1) := by decide +kernel
theorem dX5_forgetOut_28 : decode cX5_forgetOut 28 = .ok (.aload_n 0, 1) := by decide +kernel
theorem dX5_forgetOut_29 : decode cX5_forgetOut 29 = .ok (.getfield 7, 3) := by decide +kernel
theorem dX5_forgetOut_32 : decode cX5_forgetOut 32 = .ok (.bipush 104, 2) := by decide +kernel
theorem dX5_forgetOut_34 : decode cX5_forgetOut 34 = .ok (.iload_n 2, 1) := by decide +kernel
theorem dX5_forgetOut_35 : decode cX5_forgetOut 35 = .ok (.iadd, 1) := by decide +kernel
theorem dX5_forgetOut_36 : decode cX5_forgetOut 36 = .ok (.iconst 2, 1) := by decide +kernel
theorem dX5_forgetOut_37 : decode cX5_forgetOut 37 = .ok (.iadd, 1) := by decide +kernel
theorem dX5_forgetOut_38 : decode cX5_forgetOut 38 = .ok (.iaload, 1) := by decide +kernel
theorem dX5_forgetOut_39 : decode cX5_forgetOut 39 = .ok (.iastore, 1) := by decide +kernel
theorem dX5_forgetOut_40 : decode cX5_forgetOut 40 = .ok (.iinc 2 1, 3) := by decide +kernel
theorem dX5_forgetOut_43 : decode cX5_forgetOut 43 = .ok (.goto (-39), 3) := by decide +kernel
theorem dX5_forgetOut_46 : decode cX5_forgetOut 46 = .ok (.aload_n 0, 1) := by decide +kernel
theorem dX5_forgetOut_47 : decode cX5_forgetOut 47 = .ok (.getfield 7, 3) := by decide +kernel
theorem dX5_forgetOut_50 : decode cX5_forgetOut 50 = .ok (.sipush 348, 3) := by decide +kernel
theorem dX5_forgetOut_53 : decode cX5_forgetOut 53 = .ok (.dup2, 1) := by decide +kernel
theorem dX5_forgetOut_54 : decode cX5_forgetOut 54 = .ok (.iaload, 1) := by decide +kernel
theorem dX5_forgetOut_55 : decode cX5_forgetOut 55 = .ok (.iconst 1, 1) := by decide +kernel
theorem dX5_forgetOut_56 : decode cX5_forgetOut 56 = .ok (.isub, 1) := by decide +kernel
theorem dX5_forgetOut_57 : decode cX5_forgetOut 57 = .ok (.iastore, 1) := by decide +kernel
theorem dX5_forgetOut_58 : decode cX5_forgetOut 58 = .ok (.return_, 1) := by decide +kernel
theorem dX5_forgetLine_0 : decode cX5_forgetLine 0 = .ok (.aload_n 0, 1) := by decide +kernel
theorem dX5_forgetLine_1 : decode cX5_forgetLine 1 = .ok (.iload_n 1, 1) := by decide +kernel
theorem dX5_forgetLine_2 : decode cX5_forgetLine 2 = .ok (.invokevirtual 46, 3) := by decide +kernel
theorem dX5_forgetLine_5 : decode cX5_forgetLine 5 = .ok (.ifCond .lt 12, 3) := by decide +kernel
theorem dX5_forgetLine_8 : decode cX5_forgetLine 8 = .ok (.aload_n 0, 1) := by decide +kernel
theorem dX5_forgetLine_9 : decode cX5_forgetLine 9 = .ok (.aload_n 0, 1) := by decide +kernel
theorem dX5_forgetLine_10 : decode cX5_forgetLine 10 = .ok (.iload_n 1, 1) := by decide +kernel
theorem dX5_forgetLine_11 : decode cX5_forgetLine 11 = .ok (.invokevirtual 46, 3) := by decide +kernel
theorem dX5_forgetLine_14 : decode cX5_forgetLine 14 = .ok (.invokevirtual 50, 3) := by decide +kernel
theorem dX5_forgetLine_17 : decode cX5_forgetLine 17 = .ok (.return_, 1) := by decide +kernel
theorem dX5_giveHours_0 : decode cX5_giveHours 0 = .ok (.aload_n 0, 1) := by decide +kernel
theorem dX5_giveHours_1 : decode cX5_giveHours 1 = .ok (.getfield 7, 3) := by decide +kernel
theorem dX5_giveHours_4 : decode cX5_giveHours 4 = .ok (.iload_n 1, 1) := by decide +kernel
theorem dX5_giveHours_5 : decode cX5_giveHours 5 = .ok (.iconst 4, 1) := by decide +kernel
theorem dX5_giveHours_6 : decode cX5_giveHours 6 = .ok (.invokestatic 54, 3) := by decide +kernel
theorem dX5_giveHours_9 : decode cX5_giveHours 9 = .ok (.dup2, 1) := by decide +kernel
theorem dX5_giveHours_10 : decode cX5_giveHours 10 = .ok (.iaload, 1) := by decide +kernel
theorem dX5_giveHours_11 : decode cX5_giveHours 11 = .ok (.iload_n 2, 1) := by decide +kernel
theorem dX5_giveHours_12 : decode cX5_giveHours 12 = .ok (.iadd, 1) := by decide +kernel
theorem dX5_giveHours_13 : decode cX5_giveHours 13 = .ok (.iastore, 1) := by decide +kernel
theorem dX5_giveHours_14 : decode cX5_giveHours 14 = .ok (.aload_n 0, 1) := by decide +kernel
theorem dX5_giveHours_15 : decode cX5_giveHours 15 = .ok (.getfield 7, 3) := by decide +kernel
theorem dX5_giveHours_18 : decode cX5_giveHours 18 = .ok (.iload_n 1, 1) := by decide +kernel
theorem dX5_giveHours_19 : decode cX5_giveHours 19 = .ok (.iconst 3, 1) := by decide +kernel
theorem dX5_giveHours_20 : decode cX5_giveHours 20 = .ok (.invokestatic 54, 3) := by decide +kernel
theorem dX5_giveHours_23 : decode cX5_giveHours 23 = .ok (.iconst 2, 1) := by decide +kernel
theorem dX5_giveHours_24 : decode cX5_giveHours 24 = .ok (.iastore, 1) := by decide +kernel
theorem dX5_giveHours_25 : decode cX5_giveHours 25 = .ok (.aload_n 0, 1) := by decide +kernel
theorem dX5_giveHours_26 : decode cX5_giveHours 26 = .ok (.getfield 7, 3) := by decide +kernel
theorem dX5_giveHours_29 : decode cX5_giveHours 29 = .ok (.iload_n 1, 1) := by decide +kernel
theorem dX5_giveHours_30 : decode cX5_giveHours 30 = .ok (.iconst 5, 1) := by decide +kernel
theorem dX5_giveHours_31 : decode cX5_giveHours 31 = .ok (.invokestatic 54, 3) := by decide +kernel
theorem dX5_giveHours_34 : decode cX5_giveHours 34 = .ok (.iconst 0, 1) := by decide +kernel
theorem dX5_giveHours_35 : decode cX5_giveHours 35 = .ok (.iastore, 1) := by decide +kernel
theorem dX5_giveHours_36 : decode cX5_giveHours 36 = .ok (.return_, 1) := by decide +kernel
theorem dX5_closeUp_0 : decode cX5_closeUp 0 = .ok (.aload_n 0, 1) := by decide +kernel
theorem dX5_closeUp_1 : decode cX5_closeUp 1 = .ok (.getfield 7, 3) := by decide +kernel
theorem dX5_closeUp_4 : decode cX5_closeUp 4 = .ok (.iconst 0, 1) := by decide +kernel
theorem dX5_closeUp_5 : decode cX5_closeUp 5 = .ok (.iload_n 1, 1) := by decide +kernel
theorem dX5_closeUp_6 : decode cX5_closeUp 6 = .ok (.iadd, 1) := by decide +kernel
theorem dX5_closeUp_7 : decode cX5_closeUp 7 = .ok (.dup2, 1) := by decide +kernel
theorem dX5_closeUp_8 : decode cX5_closeUp 8 = .ok (.iaload, 1) := by decide +kernel
theorem dX5_closeUp_9 : decode cX5_closeUp 9 = .ok (.iconst 1, 1) := by decide +kernel
theorem dX5_closeUp_10 : decode cX5_closeUp 10 = .ok (.isub, 1) := by decide +kernel
theorem dX5_closeUp_11 : decode cX5_closeUp 11 = .ok (.iastore, 1) := by decide +kernel
theorem dX5_closeUp_12 : decode cX5_closeUp 12 = .ok (.iload_n 1, 1) := by decide +kernel
theorem dX5_closeUp_13 : decode cX5_closeUp 13 = .ok (.iload_n 2, 1) := by decide +kernel
theorem dX5_closeUp_14 : decode cX5_closeUp 14 = .ok (.invokestatic 42, 3) := by decide +kernel
theorem dX5_closeUp_17 : decode cX5_closeUp 17 = .ok (.istore_n 3, 1) := by decide +kernel
theorem dX5_closeUp_18 : decode cX5_closeUp 18 = .ok (.iload_n 3, 1) := by decide +kernel
theorem dX5_closeUp_19 : decode cX5_closeUp 19 = .ok (.iload_n 1, 1) := by decide +kernel
theorem dX5_closeUp_20 : decode cX5_closeUp 20 = .ok (.aload_n 0, 1) := by decide +kernel
theorem dX5_closeUp_21 : decode cX5_closeUp 21 = .ok (.getfield 7, 3) := by decide +kernel
theorem dX5_closeUp_24 : decode cX5_closeUp 24 = .ok (.iconst 0, 1) := by decide +kernel
theorem dX5_closeUp_25 : decode cX5_closeUp 25 = .ok (.iload_n 1, 1) := by decide +kernel
theorem dX5_closeUp_26 : decode cX5_closeUp 26 = .ok (.iadd, 1) := by decide +kernel
theorem dX5_closeUp_27 : decode cX5_closeUp 27 = .ok (.iaload, 1) := by decide +kernel
theorem dX5_closeUp_28 : decode cX5_closeUp 28 = .ok (.invokestatic 42, 3) := by decide +kernel
theorem dX5_closeUp_31 : decode cX5_closeUp 31 = .ok (.if_icmp .ge 23, 3) := by decide +kernel
theorem dX5_closeUp_34 : decode cX5_closeUp 34 = .ok (.aload_n 0, 1) := by decide +kernel
theorem dX5_closeUp_35 : decode cX5_closeUp 35 = .ok (.getfield 7, 3) := by decide +kernel
theorem dX5_closeUp_38 : decode cX5_closeUp 38 = .ok (.iload_n 3, 1) := by decide +kernel
theorem dX5_closeUp_39 : decode cX5_closeUp 39 = .ok (.aload_n 0, 1) := by decide +kernel
theorem dX5_closeUp_40 : decode cX5_closeUp 40 = .ok (.getfield 7, 3) := by decide +kernel
theorem dX5_closeUp_43 : decode cX5_closeUp 43 = .ok (.iload_n 3, 1) := by decide +kernel
theorem dX5_closeUp_44 : decode cX5_closeUp 44 = .ok (.iconst 3, 1) := by decide +kernel
theorem dX5_closeUp_45 : decode cX5_closeUp 45 = .ok (.iadd, 1) := by decide +kernel
theorem dX5_closeUp_46 : decode cX5_closeUp 46 = .ok (.iaload, 1) := by decide +kernel
theorem dX5_closeUp_47 : decode cX5_closeUp 47 = .ok (.iastore, 1) := by decide +kernel
theorem dX5_closeUp_48 : decode cX5_closeUp 48 = .ok (.iinc 3 1, 3) := by decide +kernel
theorem dX5_closeUp_51 : decode cX5_closeUp 51 = .ok (.goto (-33), 3) := by decide +kernel
theorem dX5_closeUp_54 : decode cX5_closeUp 54 = .ok (.return_, 1) := by decide +kernel
theorem dX5_append_0 : decode cX5_append 0 = .ok (.iload_n 1, 1) := by decide +kernel
theorem dX5_append_1 : decode cX5_append 1 = .ok (.aload_n 0, 1) := by decide +kernel
theorem dX5_append_2 : decode cX5_append 2 = .ok (.getfield 7, 3) := by decide +kernel
theorem dX5_append_5 : decode cX5_append 5 = .ok (.iconst 0, 1) := by decide +kernel
theorem dX5_append_6 : decode cX5_append 6 = .ok (.iload_n 1, 1) := by decide +kernel
theorem dX5_append_7 : decode cX5_append 7 = .ok (.iadd, 1) := by decide +kernel
theorem dX5_append_8 : decode cX5_append 8 = .ok (.iaload, 1) := by decide +kernel
theorem dX5_append_9 : decode cX5_append 9 = .ok (.invokestatic 42, 3) := by decide +kernel
theorem dX5_append_12 : decode cX5_append 12 = .ok (.istore 5, 2) := by decide +kernel
theorem dX5_append_14 : decode cX5_append 14 = .ok (.aload_n 0, 1) := by decide +kernel
theorem dX5_append_15 : decode cX5_append 15 = .ok (.getfield 7, 3) := by decide +kernel
theorem dX5_append_18 : decode cX5_append 18 = .ok (.iload 5, 2) := by decide +kernel
theorem dX5_append_20 : decode cX5_append 20 = .ok (.iload_n 2, 1) := by decide +kernel
theorem dX5_append_21 : decode cX5_append 21 = .ok (.iastore, 1) := by decide +kernel
theorem dX5_append_22 : decode cX5_append 22 = .ok (.aload_n 0, 1) := by decide +kernel
theorem dX5_append_23 : decode cX5_append 23 = .ok (.getfield 7, 3) := by decide +kernel
theorem dX5_append_26 : decode cX5_append 26 = .ok (.iload 5, 2) := by decide +kernel
theorem dX5_append_28 : decode cX5_append 28 = .ok (.iconst 1, 1) := by decide +kernel
theorem dX5_append_29 : decode cX5_append 29 = .ok (.iadd, 1) := by decide +kernel
theorem dX5_append_30 : decode cX5_append 30 = .ok (.iload_n 3, 1) := by decide +kernel
theorem dX5_append_31 : decode cX5_append 31 = .ok (.iastore, 1) := by decide +kernel
theorem dX5_append_32 : decode cX5_append 32 = .ok (.aload_n 0, 1) := by decide +kernel
theorem dX5_append_33 : decode cX5_append 33 = .ok (.getfield 7, 3) := by decide +kernel
theorem dX5_append_36 : decode cX5_append 36 = .ok (.iload 5, 2) := by decide +kernel
theorem dX5_append_38 : decode cX5_append 38 = .ok (.iconst 2, 1) := by decide +kernel
theorem dX5_append_39 : decode cX5_append 39 = .ok (.iadd, 1) := by decide +kernel
theorem dX5_append_40 : decode cX5_append 40 = .ok (.iload 4, 2) := by decide +kernel
theorem dX5_append_42 : decode cX5_append 42 = .ok (.iastore, 1) := by decide +kernel
theorem dX5_append_43 : decode cX5_append 43 = .ok (.aload_n 0, 1) := by decide +kernel
theorem dX5_append_44 : decode cX5_append 44 = .ok (.getfield 7, 3) := by decide +kernel
theorem dX5_append_47 : decode cX5_append 47 = .ok (.iconst 0, 1) := by decide +kernel
theorem dX5_append_48 : decode cX5_append 48 = .ok (.iload_n 1, 1) := by decide +kernel
theorem dX5_append_49 : decode cX5_append 49 = .ok (.iadd, 1) := by decide +kernel
theorem dX5_append_50 : decode cX5_append 50 = .ok (.dup2, 1) := by decide +kernel
theorem dX5_append_51 : decode cX5_append 51 = .ok (.iaload, 1) := by decide +kernel
theorem dX5_append_52 : decode cX5_append 52 = .ok (.iconst 1, 1) := by decide +kernel
theorem dX5_append_53 : decode cX5_append 53 = .ok (.iadd, 1) := by decide +kernel
theorem dX5_append_54 : decode cX5_append 54 = .ok (.iastore, 1) := by decide +kernel
theorem dX5_append_55 : decode cX5_append 55 = .ok (.return_, 1) := by decide +kernel
theorem dX5_throwOut_0 : decode cX5_throwOut 0 = .ok (.iload_n 1, 1) := by decide +kernel
theorem dX5_throwOut_1 : decode cX5_throwOut 1 = .ok (.iconst 0, 1) := by decide +kernel
theorem dX5_throwOut_2 : decode cX5_throwOut 2 = .ok (.invokestatic 42, 3) := by decide +kernel
theorem dX5_throwOut_5 : decode cX5_throwOut 5 = .ok (.istore_n 3, 1) := by decide +kernel
theorem dX5_throwOut_6 : decode cX5_throwOut 6 = .ok (.aload_n 0, 1) := by decide +kernel
theorem dX5_throwOut_7 : decode cX5_throwOut 7 = .ok (.getfield 7, 3) := by decide +kernel
theorem dX5_throwOut_10 : decode cX5_throwOut 10 = .ok (.iload_n 3, 1) := by decide +kernel
theorem dX5_throwOut_11 : decode cX5_throwOut 11 = .ok (.iaload, 1) := by decide +kernel
theorem dX5_throwOut_12 : decode cX5_throwOut 12 = .ok (.istore 4, 2) := by decide +kernel
theorem dX5_throwOut_14 : decode cX5_throwOut 14 = .ok (.aload_n 0, 1) := by decide +kernel
theorem dX5_throwOut_15 : decode cX5_throwOut 15 = .ok (.getfield 7, 3) := by decide +kernel
theorem dX5_throwOut_18 : decode cX5_throwOut 18 = .ok (.iload_n 3, 1) := by decide +kernel
theorem dX5_throwOut_19 : decode cX5_throwOut 19 = .ok (.iconst 1, 1) := by decide +kernel
theorem dX5_throwOut_20 : decode cX5_throwOut 20 = .ok (.iadd, 1) := by decide +kernel
theorem dX5_throwOut_21 : decode cX5_throwOut 21 = .ok (.iaload, 1) := by decide +kernel
theorem dX5_throwOut_22 : decode cX5_throwOut 22 = .ok (.istore 5, 2) := by decide +kernel
theorem dX5_throwOut_24 : decode cX5_throwOut 24 = .ok (.aload_n 0, 1) := by decide +kernel
theorem dX5_throwOut_25 : decode cX5_throwOut 25 = .ok (.getfield 7, 3) := by decide +kernel
theorem dX5_throwOut_28 : decode cX5_throwOut 28 = .ok (.iload_n 3, 1) := by decide +kernel
theorem dX5_throwOut_29 : decode cX5_throwOut 29 = .ok (.iconst 2, 1) := by decide +kernel
theorem dX5_throwOut_30 : decode cX5_throwOut 30 = .ok (.iadd, 1) := by decide +kernel
theorem dX5_throwOut_31 : decode cX5_throwOut 31 = .ok (.iaload, 1) := by decide +kernel
theorem dX5_throwOut_32 : decode cX5_throwOut 32 = .ok (.iconst 1, 1) := by decide +kernel
theorem dX5_throwOut_33 : decode cX5_throwOut 33 = .ok (.if_icmp .ne 36, 3) := by decide +kernel
theorem dX5_throwOut_36 : decode cX5_throwOut 36 = .ok (.aload_n 0, 1) := by decide +kernel
theorem dX5_throwOut_37 : decode cX5_throwOut 37 = .ok (.getfield 7, 3) := by decide +kernel
theorem dX5_throwOut_40 : decode cX5_throwOut 40 = .ok (.iload 5, 2) := by decide +kernel
theorem dX5_throwOut_42 : decode cX5_throwOut 42 = .ok (.bipush 8, 2) := by decide +kernel
theorem dX5_throwOut_44 : decode cX5_throwOut 44 = .ok (.invokestatic 54, 3) := by decide +kernel
theorem dX5_throwOut_47 : decode cX5_throwOut 47 = .ok (.dup2, 1) := by decide +kernel
theorem dX5_throwOut_48 : decode cX5_throwOut 48 = .ok (.iaload, 1) := by decide +kernel
theorem dX5_throwOut_49 : decode cX5_throwOut 49 = .ok (.iconst 1, 1) := by decide +kernel
theorem dX5_throwOut_50 : decode cX5_throwOut 50 = .ok (.iadd, 1) := by decide +kernel
theorem dX5_throwOut_51 : decode cX5_throwOut 51 = .ok (.iastore, 1) := by decide +kernel
theorem dX5_throwOut_52 : decode cX5_throwOut 52 = .ok (.aload_n 0, 1) := by decide +kernel
theorem dX5_throwOut_53 : decode cX5_throwOut 53 = .ok (.iload 5, 2) := by decide +kernel
theorem dX5_throwOut_55 : decode cX5_throwOut 55 = .ok (.aload_n 0, 1) := by decide +kernel
theorem dX5_throwOut_56 : decode cX5_throwOut 56 = .ok (.getfield 7, 3) := by decide +kernel
theorem dX5_throwOut_59 : decode cX5_throwOut 59 = .ok (.iload 5, 2) := by decide +kernel
theorem dX5_throwOut_61 : decode cX5_throwOut 61 = .ok (.iconst 2, 1) := by decide +kernel
theorem dX5_throwOut_62 : decode cX5_throwOut 62 = .ok (.invokestatic 54, 3) := by decide +kernel
theorem dX5_throwOut_65 : decode cX5_throwOut 65 = .ok (.iaload, 1) := by decide +kernel
theorem dX5_throwOut_66 : decode cX5_throwOut 66 = .ok (.invokevirtual 57, 3) := by decide +kernel
theorem dX5_throwOut_69 : decode cX5_throwOut 69 = .ok (.aload_n 0, 1) := by decide +kernel
theorem dX5_throwOut_70 : decode cX5_throwOut 70 = .ok (.iload_n 1, 1) := by decide +kernel
theorem dX5_throwOut_71 : decode cX5_throwOut 71 = .ok (.iconst 0, 1) := by decide +kernel
theorem dX5_throwOut_72 : decode cX5_throwOut 72 = .ok (.invokevirtual 60, 3) := by decide +kernel
theorem dX5_throwOut_75 : decode cX5_throwOut 75 = .ok (.aload_n 0, 1) := by decide +kernel
theorem dX5_throwOut_76 : decode cX5_throwOut 76 = .ok (.iload 4, 2) := by decide +kernel
theorem dX5_throwOut_78 : decode cX5_throwOut 78 = .ok (.invokevirtual 63, 3) := by decide +kernel
theorem dX5_throwOut_81 : decode cX5_throwOut 81 = .ok (.aload_n 0, 1) := by decide +kernel
theorem dX5_throwOut_82 : decode cX5_throwOut 82 = .ok (.getfield 7, 3) := by decide +kernel
theorem dX5_throwOut_85 : decode cX5_throwOut 85 = .ok (.sipush 348, 3) := by decide +kernel
theorem dX5_throwOut_88 : decode cX5_throwOut 88 = .ok (.iaload, 1) := by decide +kernel
theorem dX5_throwOut_89 : decode cX5_throwOut 89 = .ok (.bipush 8, 2) := by decide +kernel
theorem dX5_throwOut_91 : decode cX5_throwOut 91 = .ok (.if_icmp .ne 8, 3) := by decide +kernel
theorem dX5_throwOut_94 : decode cX5_throwOut 94 = .ok (.aload_n 0, 1) := by decide +kernel
theorem dX5_throwOut_95 : decode cX5_throwOut 95 = .ok (.iconst 0, 1) := by decide +kernel
theorem dX5_throwOut_96 : decode cX5_throwOut 96 = .ok (.invokevirtual 50, 3) := by decide +kernel
theorem dX5_throwOut_99 : decode cX5_throwOut 99 = .ok (.aload_n 0, 1) := by decide +kernel
theorem dX5_throwOut_100 : decode cX5_throwOut 100 = .ok (.getfield 7, 3) := by decide +kernel
theorem dX5_throwOut_103 : decode cX5_throwOut 103 = .ok (.bipush 104, 2) := by decide +kernel
theorem dX5_throwOut_105 : decode cX5_throwOut 105 = .ok (.iconst 2, 1) := by decide +kernel
theorem dX5_throwOut_106 : decode cX5_throwOut 106 = .ok (.aload_n 0, 1) := by decide +kernel
theorem dX5_throwOut_107 : decode cX5_throwOut 107 = .ok (.getfield 7, 3) := by decide +kernel
theorem dX5_throwOut_110 : decode cX5_throwOut 110 = .ok (.sipush 348, 3) := by decide +kernel
theorem dX5_throwOut_113 : decode cX5_throwOut 113 = .ok (.iaload, 1) := by decide +kernel
theorem dX5_throwOut_114 : decode cX5_throwOut 114 = .ok (.imul, 1) := by decide +kernel
theorem dX5_throwOut_115 : decode cX5_throwOut 115 = .ok (.iadd, 1) := by decide +kernel
theorem dX5_throwOut_116 : decode cX5_throwOut 116 = .ok (.iload 4, 2) := by decide +kernel
theorem dX5_throwOut_118 : decode cX5_throwOut 118 = .ok (.iastore, 1) := by decide +kernel
theorem dX5_throwOut_119 : decode cX5_throwOut 119 = .ok (.aload_n 0, 1) := by decide +kernel
theorem dX5_throwOut_120 : decode cX5_throwOut 120 = .ok (.getfield 7, 3) := by decide +kernel
theorem dX5_throwOut_123 : decode cX5_throwOut 123 = .ok (.bipush 104, 2) := by decide +kernel
theorem dX5_throwOut_125 : decode cX5_throwOut 125 = .ok (.iconst 2, 1) := by decide +kernel
theorem dX5_throwOut_126 : decode cX5_throwOut 126 = .ok (.aload_n 0, 1) := by decide +kernel
theorem dX5_throwOut_127 : decode cX5_throwOut 127 = .ok (.getfield 7, 3) := by decide +kernel
theorem dX5_throwOut_130 : decode cX5_throwOut 130 = .ok (.sipush 348, 3) := by decide +kernel
theorem dX5_throwOut_133 : decode cX5_throwOut 133 = .ok (.iaload, 1) := by decide +kernel
theorem dX5_throwOut_134 : decode cX5_throwOut 134 = .ok (.imul, 1) := by decide +kernel
theorem dX5_throwOut_135 : decode cX5_throwOut 135 = .ok (.iadd, 1) := by decide +kernel
theorem dX5_throwOut_136 : decode cX5_throwOut 136 = .ok (.iconst 1, 1) := by decide +kernel
theorem dX5_throwOut_137 : decode cX5_throwOut 137 = .ok (.iadd, 1) := by decide +kernel
theorem dX5_throwOut_138 : decode cX5_throwOut 138 = .ok (.iload_n 2, 1) := by decide +kernel
theorem dX5_throwOut_139 : decode cX5_throwOut 139 = .ok (.iastore, 1) := by decide +kernel
theorem dX5_throwOut_140 : decode cX5_throwOut 140 = .ok (.aload_n 0, 1) := by decide +kernel
theorem dX5_throwOut_141 : decode cX5_throwOut 141 = .ok (.getfield 7, 3) := by decide +kernel
theorem dX5_throwOut_144 : decode cX5_throwOut 144 = .ok (.sipush 348, 3) := by decide +kernel
theorem dX5_throwOut_147 : decode cX5_throwOut 147 = .ok (.dup2, 1) := by decide +kernel
theorem dX5_throwOut_148 : decode cX5_throwOut 148 = .ok (.iaload, 1) := by decide +kernel
theorem dX5_throwOut_149 : decode cX5_throwOut 149 = .ok (.iconst 1, 1) := by decide +kernel
theorem dX5_throwOut_150 : decode cX5_throwOut 150 = .ok (.iadd, 1) := by decide +kernel
theorem dX5_throwOut_151 : decode cX5_throwOut 151 = .ok (.iastore, 1) := by decide +kernel
theorem dX5_throwOut_152 : decode cX5_throwOut 152 = .ok (.aload_n 0, 1) := by decide +kernel
theorem dX5_throwOut_153 : decode cX5_throwOut 153 = .ok (.getfield 7, 3) := by decide +kernel
theorem dX5_throwOut_156 : decode cX5_throwOut 156 = .ok (.sipush 357, 3) := by decide +kernel
theorem dX5_throwOut_159 : decode cX5_throwOut 159 = .ok (.dup2, 1) := by decide +kernel
theorem dX5_throwOut_160 : decode cX5_throwOut 160 = .ok (.iaload, 1) := by decide +kernel
theorem dX5_throwOut_161 : decode cX5_throwOut 161 = .ok (.iconst 1, 1) := by decide +kernel
theorem dX5_throwOut_162 : decode cX5_throwOut 162 = .ok (.iadd, 1) := by decide +kernel
theorem dX5_throwOut_163 : decode cX5_throwOut 163 = .ok (.iastore, 1) := by decide +kernel
theorem dX5_throwOut_164 : decode cX5_throwOut 164 = .ok (.return_, 1) := by decide +kernel
theorem dX5_fetch_0 : decode cX5_fetch 0 = .ok (.iload_n 1, 1) := by decide +kernel
theorem dX5_fetch_1 : decode cX5_fetch 1 = .ok (.aload_n 0, 1) := by decide +kernel
theorem dX5_fetch_2 : decode cX5_fetch 2 = .ok (.getfield 7, 3) := by decide +kernel
theorem dX5_fetch_5 : decode cX5_fetch 5 = .ok (.sipush 349, 3) := by decide +kernel
theorem dX5_fetch_8 : decode cX5_fetch 8 = .ok (.iaload, 1) := by decide +kernel
theorem dX5_fetch_9 : decode cX5_fetch 9 = .ok (.irem, 1) := by decide +kernel
theorem dX5_fetch_10 : decode cX5_fetch 10 = .ok (.istore_n 3, 1) := by decide +kernel
theorem dX5_fetch_11 : decode cX5_fetch 11 = .ok (.aload_n 0, 1) := by decide +kernel
theorem dX5_fetch_12 : decode cX5_fetch 12 = .ok (.iload_n 1, 1) := by decide +kernel
theorem dX5_fetch_13 : decode cX5_fetch 13 = .ok (.invokevirtual 63, 3) := by decide +kernel
theorem dX5_fetch_16 : decode cX5_fetch 16 = .ok (.aload_n 0, 1) := by decide +kernel
theorem dX5_fetch_17 : decode cX5_fetch 17 = .ok (.getfield 7, 3) := by decide +kernel
theorem dX5_fetch_20 : decode cX5_fetch 20 = .ok (.iconst 0, 1) := by decide +kernel
theorem dX5_fetch_21 : decode cX5_fetch 21 = .ok (.iload_n 3, 1) := by decide +kernel
theorem dX5_fetch_22 : decode cX5_fetch 22 = .ok (.iadd, 1) := by decide +kernel
theorem dX5_fetch_23 : decode cX5_fetch 23 = .ok (.iaload, 1) := by decide +kernel
theorem dX5_fetch_24 : decode cX5_fetch 24 = .ok (.aload_n 0, 1) := by decide +kernel
theorem dX5_fetch_25 : decode cX5_fetch 25 = .ok (.getfield 7, 3) := by decide +kernel
theorem dX5_fetch_28 : decode cX5_fetch 28 = .ok (.sipush 350, 3) := by decide +kernel
theorem dX5_fetch_31 : decode cX5_fetch 31 = .ok (.iaload, 1) := by decide +kernel
theorem dX5_fetch_32 : decode cX5_fetch 32 = .ok (.if_icmp .ne 9, 3) := by decide +kernel
theorem dX5_fetch_35 : decode cX5_fetch 35 = .ok (.aload_n 0, 1) := by decide +kernel
theorem dX5_fetch_36 : decode cX5_fetch 36 = .ok (.iload_n 3, 1) := by decide +kernel
theorem dX5_fetch_37 : decode cX5_fetch 37 = .ok (.iload_n 2, 1) := by decide +kernel
theorem dX5_fetch_38 : decode cX5_fetch 38 = .ok (.invokevirtual 66, 3) := by decide +kernel
theorem dX5_fetch_41 : decode cX5_fetch 41 = .ok (.aload_n 0, 1) := by decide +kernel
theorem dX5_fetch_42 : decode cX5_fetch 42 = .ok (.iload_n 3, 1) := by decide +kernel
theorem dX5_fetch_43 : decode cX5_fetch 43 = .ok (.iload_n 1, 1) := by decide +kernel
theorem dX5_fetch_44 : decode cX5_fetch 44 = .ok (.iload_n 2, 1) := by decide +kernel
theorem dX5_fetch_45 : decode cX5_fetch 45 = .ok (.iload_n 2, 1) := by decide +kernel
theorem dX5_fetch_46 : decode cX5_fetch 46 = .ok (.iconst (-1), 1) := by decide +kernel
theorem dX5_fetch_47 : decode cX5_fetch 47 = .ok (.if_icmp .ne 7, 3) := by decide +kernel
theorem dX5_fetch_50 : decode cX5_fetch 50 = .ok (.iconst 0, 1) := by decide +kernel
theorem dX5_fetch_51 : decode cX5_fetch 51 = .ok (.goto 4, 3) := by decide +kernel
theorem dX5_fetch_54 : decode cX5_fetch 54 = .ok (.iconst 1, 1) := by decide +kernel
theorem dX5_fetch_55 : decode cX5_fetch 55 = .ok (.invokevirtual 69, 3) := by decide +kernel
theorem dX5_fetch_58 : decode cX5_fetch 58 = .ok (.return_, 1) := by decide +kernel
theorem dX5_linesIn_0 : decode cX5_linesIn 0 = .ok (.iconst 0, 1) := by decide +kernel
theorem dX5_linesIn_1 : decode cX5_linesIn 1 = .ok (.istore_n 1, 1) := by decide +kernel
theorem dX5_linesIn_2 : decode cX5_linesIn 2 = .ok (.iconst 0, 1) := by decide +kernel
theorem dX5_linesIn_3 : decode cX5_linesIn 3 = .ok (.istore_n 2, 1) := by decide +kernel
theorem dX5_linesIn_4 : decode cX5_linesIn 4 = .ok (.iload_n 2, 1) := by decide +kernel
theorem dX5_linesIn_5 : decode cX5_linesIn 5 = .ok (.bipush 8, 2) := by decide +kernel
theorem dX5_linesIn_7 : decode cX5_linesIn 7 = .ok (.if_icmp .ge 20, 3) := by decide +kernel
theorem dX5_linesIn_10 : decode cX5_linesIn 10 = .ok (.iload_n 1, 1) := by decide +kernel
theorem dX5_linesIn_11 : decode cX5_linesIn 11 = .ok (.aload_n 0, 1) := by decide +kernel
theorem dX5_linesIn_12 : decode cX5_linesIn 12 = .ok (.getfield 7, 3) := by decide +kernel
theorem dX5_linesIn_15 : decode cX5_linesIn 15 = .ok (.iconst 0, 1) := by decide +kernel
theorem dX5_linesIn_16 : decode cX5_linesIn 16 = .ok (.iload_n 2, 1) := by decide +kernel
theorem dX5_linesIn_17 : decode cX5_linesIn 17 = .ok (.iadd, 1) := by decide +kernel
theorem dX5_linesIn_18 : decode cX5_linesIn 18 = .ok (.iaload, 1) := by decide +kernel
theorem dX5_linesIn_19 : decode cX5_linesIn 19 = .ok (.iadd, 1) := by decide +kernel
theorem dX5_linesIn_20 : decode cX5_linesIn 20 = .ok (.istore_n 1, 1) := by decide +kernel
theorem dX5_linesIn_21 : decode cX5_linesIn 21 = .ok (.iinc 2 1, 3) := by decide +kernel
theorem dX5_linesIn_24 : decode cX5_linesIn 24 = .ok (.goto (-20), 3) := by decide +kernel
theorem dX5_linesIn_27 : decode cX5_linesIn 27 = .ok (.iload_n 1, 1) := by decide +kernel
theorem dX5_linesIn_28 : decode cX5_linesIn 28 = .ok (.ireturn, 1) := by decide +kernel
theorem dX5_empty_0 : decode cX5_empty 0 = .ok (.aload_n 0, 1) := by decide +kernel
theorem dX5_empty_1 : decode cX5_empty 1 = .ok (.invokevirtual 73, 3) := by decide +kernel
theorem dX5_empty_4 : decode cX5_empty 4 = .ok (.istore_n 1, 1) := by decide +kernel
theorem dX5_empty_5 : decode cX5_empty 5 = .ok (.iconst 0, 1) := by decide +kernel
theorem dX5_empty_6 : decode cX5_empty 6 = .ok (.istore_n 2, 1) := by decide +kernel
theorem dX5_empty_7 : decode cX5_empty 7 = .ok (.iload_n 2, 1) := by decide +kernel
theorem dX5_empty_8 : decode cX5_empty 8 = .ok (.aload_n 0, 1) := by decide +kernel
theorem dX5_empty_9 : decode cX5_empty 9 = .ok (.getfield 7, 3) := by decide +kernel
theorem dX5_empty_12 : decode cX5_empty 12 = .ok (.sipush 349, 3) := by decide +kernel
theorem dX5_empty_15 : decode cX5_empty 15 = .ok (.iaload, 1) := by decide +kernel
theorem dX5_empty_16 : decode cX5_empty 16 = .ok (.if_icmp .ge 29, 3) := by decide +kernel
theorem dX5_empty_19 : decode cX5_empty 19 = .ok (.aload_n 0, 1) := by decide +kernel
theorem dX5_empty_20 : decode cX5_empty 20 = .ok (.getfield 7, 3) := by decide +kernel
theorem dX5_empty_23 : decode cX5_empty 23 = .ok (.iconst 0, 1) := by decide +kernel
theorem dX5_empty_24 : decode cX5_empty 24 = .ok (.iload_n 2, 1) := by decide +kernel
theorem dX5_empty_25 : decode cX5_empty 25 = .ok (.iadd, 1) := by decide +kernel
theorem dX5_empty_26 : decode cX5_empty 26 = .ok (.iaload, 1) := by decide +kernel
theorem dX5_empty_27 : decode cX5_empty 27 = .ok (.ifCond .le 12, 3) := by decide +kernel
theorem dX5_empty_30 : decode cX5_empty 30 = .ok (.aload_n 0, 1) := by decide +kernel
theorem dX5_empty_31 : decode cX5_empty 31 = .ok (.iload_n 2, 1) := by decide +kernel
theorem dX5_empty_32 : decode cX5_empty 32 = .ok (.iconst (-1), 1) := by decide +kernel
theorem dX5_empty_33 : decode cX5_empty 33 = .ok (.invokevirtual 66, 3) := by decide +kernel
theorem dX5_empty_36 : decode cX5_empty 36 = .ok (.goto (-17), 3) := by decide +kernel
theorem dX5_empty_39 : decode cX5_empty 39 = .ok (.iinc 2 1, 3) := by decide +kernel
theorem dX5_empty_42 : decode cX5_empty 42 = .ok (.goto (-35), 3) := by decide +kernel
theorem dX5_empty_45 : decode cX5_empty 45 = .ok (.iload_n 1, 1) := by decide +kernel
theorem dX5_empty_46 : decode cX5_empty 46 = .ok (.ireturn, 1) := by decide +kernel
theorem dX5_shape_0 : decode cX5_shape 0 = .ok (.iload_n 1, 1) := by decide +kernel
theorem dX5_shape_1 : decode cX5_shape 1 = .ok (.iconst 1, 1) := by decide +kernel
theorem dX5_shape_2 : decode cX5_shape 2 = .ok (.bipush 8, 2) := by decide +kernel
theorem dX5_shape_4 : decode cX5_shape 4 = .ok (.invokestatic 23, 3) := by decide +kernel
theorem dX5_shape_7 : decode cX5_shape 7 = .ok (.ifCond .eq 12, 3) := by decide +kernel
theorem dX5_shape_10 : decode cX5_shape 10 = .ok (.iload_n 2, 1) := by decide +kernel
theorem dX5_shape_11 : decode cX5_shape 11 = .ok (.iconst 1, 1) := by decide +kernel
theorem dX5_shape_12 : decode cX5_shape 12 = .ok (.iconst 4, 1) := by decide +kernel
theorem dX5_shape_13 : decode cX5_shape 13 = .ok (.invokestatic 23, 3) := by decide +kernel
theorem dX5_shape_16 : decode cX5_shape 16 = .ok (.ifCond .ne 6, 3) := by decide +kernel
theorem dX5_shape_19 : decode cX5_shape 19 = .ok (.ldc 77, 2) := by decide +kernel
theorem dX5_shape_21 : decode cX5_shape 21 = .ok (.ireturn, 1) := by decide +kernel
theorem dX5_shape_22 : decode cX5_shape 22 = .ok (.aload_n 0, 1) := by decide +kernel
theorem dX5_shape_23 : decode cX5_shape 23 = .ok (.getfield 7, 3) := by decide +kernel
theorem dX5_shape_26 : decode cX5_shape 26 = .ok (.sipush 349, 3) := by decide +kernel
theorem dX5_shape_29 : decode cX5_shape 29 = .ok (.iaload, 1) := by decide +kernel
theorem dX5_shape_30 : decode cX5_shape 30 = .ok (.iload_n 1, 1) := by decide +kernel
theorem dX5_shape_31 : decode cX5_shape 31 = .ok (.if_icmp .ne 18, 3) := by decide +kernel
theorem dX5_shape_34 : decode cX5_shape 34 = .ok (.aload_n 0, 1) := by decide +kernel
theorem dX5_shape_35 : decode cX5_shape 35 = .ok (.getfield 7, 3) := by decide +kernel
theorem dX5_shape_38 : decode cX5_shape 38 = .ok (.sipush 350, 3) := by decide +kernel
theorem dX5_shape_41 : decode cX5_shape 41 = .ok (.iaload, 1) := by decide +kernel
theorem dX5_shape_42 : decode cX5_shape 42 = .ok (.iload_n 2, 1) := by decide +kernel
theorem dX5_shape_43 : decode cX5_shape 43 = .ok (.if_icmp .ne 6, 3) := by decide +kernel
theorem dX5_shape_46 : decode cX5_shape 46 = .ok (.ldc 34, 2) := by decide +kernel
theorem dX5_shape_48 : decode cX5_shape 48 = .ok (.ireturn, 1) := by decide +kernel
theorem dX5_shape_49 : decode cX5_shape 49 = .ok (.aload_n 0, 1) := by decide +kernel
theorem dX5_shape_50 : decode cX5_shape 50 = .ok (.invokevirtual 39, 3) := by decide +kernel
theorem dX5_shape_53 : decode cX5_shape 53 = .ok (.aload_n 0, 1) := by decide +kernel
theorem dX5_shape_54 : decode cX5_shape 54 = .ok (.invokevirtual 78, 3) := by decide +kernel
theorem dX5_shape_57 : decode cX5_shape 57 = .ok (.istore_n 3, 1) := by decide +kernel
theorem dX5_shape_58 : decode cX5_shape 58 = .ok (.aload_n 0, 1) := by decide +kernel
theorem dX5_shape_59 : decode cX5_shape 59 = .ok (.getfield 7, 3) := by decide +kernel
theorem dX5_shape_62 : decode cX5_shape 62 = .ok (.sipush 348, 3) := by decide +kernel
theorem dX5_shape_65 : decode cX5_shape 65 = .ok (.iconst 0, 1) := by decide +kernel
theorem dX5_shape_66 : decode cX5_shape 66 = .ok (.iastore, 1) := by decide +kernel
theorem dX5_shape_67 : decode cX5_shape 67 = .ok (.aload_n 0, 1) := by decide +kernel
theorem dX5_shape_68 : decode cX5_shape 68 = .ok (.getfield 7, 3) := by decide +kernel
theorem dX5_shape_71 : decode cX5_shape 71 = .ok (.sipush 349, 3) := by decide +kernel
theorem dX5_shape_74 : decode cX5_shape 74 = .ok (.iload_n 1, 1) := by decide +kernel
theorem dX5_shape_75 : decode cX5_shape 75 = .ok (.iastore, 1) := by decide +kernel
theorem dX5_shape_76 : decode cX5_shape 76 = .ok (.aload_n 0, 1) := by decide +kernel
theorem dX5_shape_77 : decode cX5_shape 77 = .ok (.getfield 7, 3) := by decide +kernel
theorem dX5_shape_80 : decode cX5_shape 80 = .ok (.sipush 350, 3) := by decide +kernel
theorem dX5_shape_83 : decode cX5_shape 83 = .ok (.iload_n 2, 1) := by decide +kernel
theorem dX5_shape_84 : decode cX5_shape 84 = .ok (.iastore, 1) := by decide +kernel
theorem dX5_shape_85 : decode cX5_shape 85 = .ok (.iload_n 3, 1) := by decide +kernel
theorem dX5_shape_86 : decode cX5_shape 86 = .ok (.ireturn, 1) := by decide +kernel
theorem dX5_flush_0 : decode cX5_flush 0 = .ok (.aload_n 0, 1) := by decide +kernel
theorem dX5_flush_1 : decode cX5_flush 1 = .ok (.invokevirtual 73, 3) := by decide +kernel
theorem dX5_flush_4 : decode cX5_flush 4 = .ok (.ifCond .ne 6, 3) := by decide +kernel
theorem dX5_flush_7 : decode cX5_flush 7 = .ok (.ldc 34, 2) := by decide +kernel
theorem dX5_flush_9 : decode cX5_flush 9 = .ok (.ireturn, 1) := by decide +kernel
theorem dX5_flush_10 : decode cX5_flush 10 = .ok (.aload_n 0, 1) := by decide +kernel
theorem dX5_flush_11 : decode cX5_flush 11 = .ok (.invokevirtual 39, 3) := by decide +kernel
theorem dX5_flush_14 : decode cX5_flush 14 = .ok (.aload_n 0, 1) := by decide +kernel
theorem dX5_flush_15 : decode cX5_flush 15 = .ok (.invokevirtual 78, 3) := by decide +kernel
theorem dX5_flush_18 : decode cX5_flush 18 = .ok (.ireturn, 1) := by decide +kernel
theorem dX5_addHelper_0 : decode cX5_addHelper 0 = .ok (.iload_n 1, 1) := by decide +kernel
theorem dX5_addHelper_1 : decode cX5_addHelper 1 = .ok (.iconst 0, 1) := by decide +kernel
theorem dX5_addHelper_2 : decode cX5_addHelper 2 = .ok (.iconst 2, 1) := by decide +kernel
theorem dX5_addHelper_3 : decode cX5_addHelper 3 = .ok (.invokestatic 23, 3) := by decide +kernel
theorem dX5_addHelper_6 : decode cX5_addHelper 6 = .ok (.ifCond .eq 22, 3) := by decide +kernel
theorem dX5_addHelper_9 : decode cX5_addHelper 9 = .ok (.iload_n 2, 1) := by decide +kernel
theorem dX5_addHelper_10 : decode cX5_addHelper 10 = .ok (.iconst 1, 1) := by decide +kernel
theorem dX5_addHelper_11 : decode cX5_addHelper 11 = .ok (.iconst 4, 1) := by decide +kernel
theorem dX5_addHelper_12 : decode cX5_addHelper 12 = .ok (.invokestatic 23, 3) := by decide +kernel
theorem dX5_addHelper_15 : decode cX5_addHelper 15 = .ok (.ifCond .eq 13, 3) := by decide +kernel
theorem dX5_addHelper_18 : decode cX5_addHelper 18 = .ok (.iload_n 3, 1) := by decide +kernel
theorem dX5_addHelper_19 : decode cX5_addHelper 19 = .ok (.iconst 1, 1) := by decide +kernel
theorem dX5_addHelper_20 : decode cX5_addHelper 20 = .ok (.bipush 9, 2) := by decide +kernel
theorem dX5_addHelper_22 : decode cX5_addHelper 22 = .ok (.invokestatic 23, 3) := by decide +kernel
theorem dX5_addHelper_25 : decode cX5_addHelper 25 = .ok (.ifCond .ne 6, 3) := by decide +kernel
theorem dX5_addHelper_28 : decode cX5_addHelper 28 = .ok (.ldc 77, 2) := by decide +kernel
theorem dX5_addHelper_30 : decode cX5_addHelper 30 = .ok (.ireturn, 1) := by decide +kernel
theorem dX5_addHelper_31 : decode cX5_addHelper 31 = .ok (.aload_n 0, 1) := by decide +kernel
theorem dX5_addHelper_32 : decode cX5_addHelper 32 = .ok (.getfield 7, 3) := by decide +kernel
theorem dX5_addHelper_35 : decode cX5_addHelper 35 = .ok (.sipush 351, 3) := by decide +kernel
theorem dX5_addHelper_38 : decode cX5_addHelper 38 = .ok (.iaload, 1) := by decide +kernel
theorem dX5_addHelper_39 : decode cX5_addHelper 39 = .ok (.bipush 6, 2) := by decide +kernel
theorem dX5_addHelper_41 : decode cX5_addHelper 41 = .ok (.if_icmp .ne 6, 3) := by decide +kernel
theorem dX5_addHelper_44 : decode cX5_addHelper 44 = .ok (.ldc 81, 2) := by decide +kernel
theorem dX5_addHelper_46 : decode cX5_addHelper 46 = .ok (.ireturn, 1) := by decide +kernel
theorem dX5_addHelper_47 : decode cX5_addHelper 47 = .ok (.aload_n 0, 1) := by decide +kernel
theorem dX5_addHelper_48 : decode cX5_addHelper 48 = .ok (.invokevirtual 39, 3) := by decide +kernel
theorem dX5_addHelper_51 : decode cX5_addHelper 51 = .ok (.aload_n 0, 1) := by decide +kernel
theorem dX5_addHelper_52 : decode cX5_addHelper 52 = .ok (.getfield 7, 3) := by decide +kernel
theorem dX5_addHelper_55 : decode cX5_addHelper 55 = .ok (.sipush 351, 3) := by decide +kernel
theorem dX5_addHelper_58 : decode cX5_addHelper 58 = .ok (.iaload, 1) := by decide +kernel
theorem dX5_addHelper_59 : decode cX5_addHelper 59 = .ok (.istore 4, 2) := by decide +kernel
theorem dX5_addHelper_61 : decode cX5_addHelper 61 = .ok (.iconst 0, 1) := by decide +kernel
theorem dX5_addHelper_62 : decode cX5_addHelper 62 = .ok (.istore 5, 2) := by decide +kernel
theorem dX5_addHelper_64 : decode cX5_addHelper 64 = .ok (.iload 5, 2) := by decide +kernel
theorem dX5_addHelper_66 : decode cX5_addHelper 66 = .ok (.bipush 14, 2) := by decide +kernel
theorem dX5_addHelper_68 : decode cX5_addHelper 68 = .ok (.if_icmp .ge 22, 3) := by decide +kernel
theorem dX5_addHelper_71 : decode cX5_addHelper 71 = .ok (.aload_n 0, 1) := by decide +kernel
theorem dX5_addHelper_72 : decode cX5_addHelper 72 = .ok (.getfield 7, 3) := by decide +kernel
theorem dX5_addHelper_75 : decode cX5_addHelper 75 = .ok (.iload 4, 2) := by decide +kernel
theorem dX5_addHelper_77 : decode cX5_addHelper 77 = .ok (.iload 5, 2) := by decide +kernel
theorem dX5_addHelper_79 : decode cX5_addHelper 79 = .ok (.invokestatic 54, 3) := by decide +kernel
theorem dX5_addHelper_82 : decode cX5_addHelper 82 = .ok (.iconst 0, 1) := by decide +kernel
theorem dX5_addHelper_83 : decode cX5_addHelper 83 = .ok (.iastore, 1) := by decide +kernel
theorem dX5_addHelper_84 : decode cX5_addHelper 84 = .ok (.iinc 5 1, 3) := by decide +kernel
theorem dX5_addHelper_87 : decode cX5_addHelper 87 = .ok (.goto (-23), 3) := by decide +kernel
theorem dX5_addHelper_90 : decode cX5_addHelper 90 = .ok (.aload_n 0, 1) := by decide +kernel
theorem dX5_addHelper_91 : decode cX5_addHelper 91 = .ok (.getfield 7, 3) := by decide +kernel
theorem dX5_addHelper_94 : decode cX5_addHelper 94 = .ok (.iload 4, 2) := by decide +kernel
theorem dX5_addHelper_96 : decode cX5_addHelper 96 = .ok (.iconst 0, 1) := by decide +kernel
theorem dX5_addHelper_97 : decode cX5_addHelper 97 = .ok (.invokestatic 54, 3) := by decide +kernel
theorem dX5_addHelper_100 : decode cX5_addHelper 100 = .ok (.iload_n 1, 1) := by decide +kernel
theorem dX5_addHelper_101 : decode cX5_addHelper 101 = .ok (.iastore, 1) := by decide +kernel
theorem dX5_addHelper_102 : decode cX5_addHelper 102 = .ok (.aload_n 0, 1) := by decide +kernel
theorem dX5_addHelper_103 : decode cX5_addHelper 103 = .ok (.getfield 7, 3) := by decide +kernel
theorem dX5_addHelper_106 : decode cX5_addHelper 106 = .ok (.iload 4, 2) := by decide +kernel
theorem dX5_addHelper_108 : decode cX5_addHelper 108 = .ok (.iconst 1, 1) := by decide +kernel
theorem dX5_addHelper_109 : decode cX5_addHelper 109 = .ok (.invokestatic 54, 3) := by decide +kernel
theorem dX5_addHelper_112 : decode cX5_addHelper 112 = .ok (.iload_n 2, 1) := by decide +kernel
theorem dX5_addHelper_113 : decode cX5_addHelper 113 = .ok (.iastore, 1) := by decide +kernel
theorem dX5_addHelper_114 : decode cX5_addHelper 114 = .ok (.aload_n 0, 1) := by decide +kernel
theorem dX5_addHelper_115 : decode cX5_addHelper 115 = .ok (.getfield 7, 3) := by decide +kernel
theorem dX5_addHelper_118 : decode cX5_addHelper 118 = .ok (.iload 4, 2) := by decide +kernel
theorem dX5_addHelper_120 : decode cX5_addHelper 120 = .ok (.iconst 2, 1) := by decide +kernel
theorem dX5_addHelper_121 : decode cX5_addHelper 121 = .ok (.invokestatic 54, 3) := by decide +kernel
theorem dX5_addHelper_124 : decode cX5_addHelper 124 = .ok (.iload_n 3, 1) := by decide +kernel
theorem dX5_addHelper_125 : decode cX5_addHelper 125 = .ok (.iastore, 1) := by decide +kernel
theorem dX5_addHelper_126 : decode cX5_addHelper 126 = .ok (.aload_n 0, 1) := by decide +kernel
theorem dX5_addHelper_127 : decode cX5_addHelper 127 = .ok (.getfield 7, 3) := by decide +kernel
theorem dX5_addHelper_130 : decode cX5_addHelper 130 = .ok (.sipush 351, 3) := by decide +kernel
theorem dX5_addHelper_133 : decode cX5_addHelper 133 = .ok (.dup2, 1) := by decide +kernel
theorem dX5_addHelper_134 : decode cX5_addHelper 134 = .ok (.iaload, 1) := by decide +kernel
theorem dX5_addHelper_135 : decode cX5_addHelper 135 = .ok (.iconst 1, 1) := by decide +kernel
theorem dX5_addHelper_136 : decode cX5_addHelper 136 = .ok (.iadd, 1) := by decide +kernel
theorem dX5_addHelper_137 : decode cX5_addHelper 137 = .ok (.iastore, 1) := by decide +kernel
theorem dX5_addHelper_138 : decode cX5_addHelper 138 = .ok (.iload 4, 2) := by decide +kernel
theorem dX5_addHelper_140 : decode cX5_addHelper 140 = .ok (.ireturn, 1) := by decide +kernel
theorem dX5_setDegree_0 : decode cX5_setDegree 0 = .ok (.aload_n 0, 1) := by decide +kernel
theorem dX5_setDegree_1 : decode cX5_setDegree 1 = .ok (.iload_n 1, 1) := by decide +kernel
theorem dX5_setDegree_2 : decode cX5_setDegree 2 = .ok (.invokevirtual 82, 3) := by decide +kernel
theorem dX5_setDegree_5 : decode cX5_setDegree 5 = .ok (.ifCond .ne 6, 3) := by decide +kernel
theorem dX5_setDegree_8 : decode cX5_setDegree 8 = .ok (.ldc 86, 2) := by decide +kernel
theorem dX5_setDegree_10 : decode cX5_setDegree 10 = .ok (.ireturn, 1) := by decide +kernel
theorem dX5_setDegree_11 : decode cX5_setDegree 11 = .ok (.iload_n 2, 1) := by decide +kernel
theorem dX5_setDegree_12 : decode cX5_setDegree 12 = .ok (.iconst 1, 1) := by decide +kernel
theorem dX5_setDegree_13 : decode cX5_setDegree 13 = .ok (.iconst 4, 1) := by decide +kernel
theorem dX5_setDegree_14 : decode cX5_setDegree 14 = .ok (.invokestatic 23, 3) := by decide +kernel
theorem dX5_setDegree_17 : decode cX5_setDegree 17 = .ok (.ifCond .ne 6, 3) := by decide +kernel
theorem dX5_setDegree_20 : decode cX5_setDegree 20 = .ok (.ldc 77, 2) := by decide +kernel
theorem dX5_setDegree_22 : decode cX5_setDegree 22 = .ok (.ireturn, 1) := by decide +kernel
theorem dX5_setDegree_23 : decode cX5_setDegree 23 = .ok (.aload_n 0, 1) := by decide +kernel
theorem dX5_setDegree_24 : decode cX5_setDegree 24 = .ok (.getfield 7, 3) := by decide +kernel
theorem dX5_setDegree_27 : decode cX5_setDegree 27 = .ok (.iload_n 1, 1) := by decide +kernel
theorem dX5_setDegree_28 : decode cX5_setDegree 28 = .ok (.iconst 1, 1) := by decide +kernel
theorem dX5_setDegree_29 : decode cX5_setDegree 29 = .ok (.invokestatic 54, 3) := by decide +kernel
theorem dX5_setDegree_32 : decode cX5_setDegree 32 = .ok (.iaload, 1) := by decide +kernel
theorem dX5_setDegree_33 : decode cX5_setDegree 33 = .ok (.istore_n 3, 1) := by decide +kernel
theorem dX5_setDegree_34 : decode cX5_setDegree 34 = .ok (.iload_n 3, 1) := by decide +kernel
theorem dX5_setDegree_35 : decode cX5_setDegree 35 = .ok (.iload_n 2, 1) := by decide +kernel
theorem dX5_setDegree_36 : decode cX5_setDegree 36 = .ok (.if_icmp .ne 6, 3) := by decide +kernel
theorem dX5_setDegree_39 : decode cX5_setDegree 39 = .ok (.ldc 34, 2) := by decide +kernel
theorem dX5_setDegree_41 : decode cX5_setDegree 41 = .ok (.ireturn, 1) := by decide +kernel
theorem dX5_setDegree_42 : decode cX5_setDegree 42 = .ok (.aload_n 0, 1) := by decide +kernel
theorem dX5_setDegree_43 : decode cX5_setDegree 43 = .ok (.invokevirtual 39, 3) := by decide +kernel
theorem dX5_setDegree_46 : decode cX5_setDegree 46 = .ok (.aload_n 0, 1) := by decide +kernel
theorem dX5_setDegree_47 : decode cX5_setDegree 47 = .ok (.getfield 7, 3) := by decide +kernel
theorem dX5_setDegree_50 : decode cX5_setDegree 50 = .ok (.iload_n 1, 1) := by decide +kernel
theorem dX5_setDegree_51 : decode cX5_setDegree 51 = .ok (.iconst 1, 1) := by decide +kernel
theorem dX5_setDegree_52 : decode cX5_setDegree 52 = .ok (.invokestatic 54, 3) := by decide +kernel
theorem dX5_setDegree_55 : decode cX5_setDegree 55 = .ok (.iload_n 2, 1) := by decide +kernel
theorem dX5_setDegree_56 : decode cX5_setDegree 56 = .ok (.iastore, 1) := by decide +kernel
theorem dX5_setDegree_57 : decode cX5_setDegree 57 = .ok (.iload_n 3, 1) := by decide +kernel
theorem dX5_setDegree_58 : decode cX5_setDegree 58 = .ok (.ireturn, 1) := by decide +kernel
theorem dX5_setTrial_0 : decode cX5_setTrial 0 = .ok (.iload_n 1, 1) := by decide +kernel
theorem dX5_setTrial_1 : decode cX5_setTrial 1 = .ok (.iconst 1, 1) := by decide +kernel
theorem dX5_setTrial_2 : decode cX5_setTrial 2 = .ok (.bipush 9, 2) := by decide +kernel
theorem dX5_setTrial_4 : decode cX5_setTrial 4 = .ok (.invokestatic 23, 3) := by decide +kernel
theorem dX5_setTrial_7 : decode cX5_setTrial 7 = .ok (.ifCond .ne 6, 3) := by decide +kernel
theorem dX5_setTrial_10 : decode cX5_setTrial 10 = .ok (.ldc 77, 2) := by decide +kernel
theorem dX5_setTrial_12 : decode cX5_setTrial 12 = .ok (.ireturn, 1) := by decide +kernel
theorem dX5_setTrial_13 : decode cX5_setTrial 13 = .ok (.aload_n 0, 1) := by decide +kernel
theorem dX5_setTrial_14 : decode cX5_setTrial 14 = .ok (.getfield 7, 3) := by decide +kernel
theorem dX5_setTrial_17 : decode cX5_setTrial 17 = .ok (.sipush 352, 3) := by decide +kernel
theorem dX5_setTrial_20 : decode cX5_setTrial 20 = .ok (.iaload, 1) := by decide +kernel
theorem dX5_setTrial_21 : decode cX5_setTrial 21 = .ok (.istore_n 2, 1) := by decide +kernel
theorem dX5_setTrial_22 : decode cX5_setTrial 22 = .ok (.iload_n 2, 1) := by decide +kernel
theorem dX5_setTrial_23 : decode cX5_setTrial 23 = .ok (.iload_n 1, 1) := by decide +kernel
theorem dX5_setTrial_24 : decode cX5_setTrial 24 = .ok (.if_icmp .ne 6, 3) := by decide +kernel
theorem dX5_setTrial_27 : decode cX5_setTrial 27 = .ok (.ldc 34, 2) := by decide +kernel
theorem dX5_setTrial_29 : decode cX5_setTrial 29 = .ok (.ireturn, 1) := by decide +kernel
theorem dX5_setTrial_30 : decode cX5_setTrial 30 = .ok (.aload_n 0, 1) := by decide +kernel
theorem dX5_setTrial_31 : decode cX5_setTrial 31 = .ok (.invokevirtual 39, 3) := by decide +kernel
theorem dX5_setTrial_34 : decode cX5_setTrial 34 = .ok (.aload_n 0, 1) := by decide +kernel
theorem dX5_setTrial_35 : decode cX5_setTrial 35 = .ok (.getfield 7, 3) := by decide +kernel
theorem dX5_setTrial_38 : decode cX5_setTrial 38 = .ok (.sipush 352, 3) := by decide +kernel
theorem dX5_setTrial_41 : decode cX5_setTrial 41 = .ok (.iload_n 1, 1) := by decide +kernel
theorem dX5_setTrial_42 : decode cX5_setTrial 42 = .ok (.iastore, 1) := by decide +kernel
theorem dX5_setTrial_43 : decode cX5_setTrial 43 = .ok (.iload_n 2, 1) := by decide +kernel
theorem dX5_setTrial_44 : decode cX5_setTrial 44 = .ok (.ireturn, 1) := by decide +kernel
theorem dX5_pardon_0 : decode cX5_pardon 0 = .ok (.aload_n 0, 1) := by decide +kernel
theorem dX5_pardon_1 : decode cX5_pardon 1 = .ok (.iload_n 1, 1) := by decide +kernel
theorem dX5_pardon_2 : decode cX5_pardon 2 = .ok (.invokevirtual 82, 3) := by decide +kernel
theorem dX5_pardon_5 : decode cX5_pardon 5 = .ok (.ifCond .ne 6, 3) := by decide +kernel
theorem dX5_pardon_8 : decode cX5_pardon 8 = .ok (.ldc 86, 2) := by decide +kernel
theorem dX5_pardon_10 : decode cX5_pardon 10 = .ok (.ireturn, 1) := by decide +kernel
theorem dX5_pardon_11 : decode cX5_pardon 11 = .ok (.aload_n 0, 1) := by decide +kernel
theorem dX5_pardon_12 : decode cX5_pardon 12 = .ok (.getfield 7, 3) := by decide +kernel
theorem dX5_pardon_15 : decode cX5_pardon 15 = .ok (.iload_n 1, 1) := by decide +kernel
theorem dX5_pardon_16 : decode cX5_pardon 16 = .ok (.iconst 3, 1) := by decide +kernel
theorem dX5_pardon_17 : decode cX5_pardon 17 = .ok (.invokestatic 54, 3) := by decide +kernel
theorem dX5_pardon_20 : decode cX5_pardon 20 = .ok (.iaload, 1) := by decide +kernel
theorem dX5_pardon_21 : decode cX5_pardon 21 = .ok (.ifCond .ne 6, 3) := by decide +kernel
theorem dX5_pardon_24 : decode cX5_pardon 24 = .ok (.ldc 34, 2) := by decide +kernel
theorem dX5_pardon_26 : decode cX5_pardon 26 = .ok (.ireturn, 1) := by decide +kernel
theorem dX5_pardon_27 : decode cX5_pardon 27 = .ok (.aload_n 0, 1) := by decide +kernel
theorem dX5_pardon_28 : decode cX5_pardon 28 = .ok (.invokevirtual 39, 3) := by decide +kernel
theorem dX5_pardon_31 : decode cX5_pardon 31 = .ok (.aload_n 0, 1) := by decide +kernel
theorem dX5_pardon_32 : decode cX5_pardon 32 = .ok (.getfield 7, 3) := by decide +kernel
theorem dX5_pardon_35 : decode cX5_pardon 35 = .ok (.iload_n 1, 1) := by decide +kernel
theorem dX5_pardon_36 : decode cX5_pardon 36 = .ok (.iconst 4, 1) := by decide +kernel
theorem dX5_pardon_37 : decode cX5_pardon 37 = .ok (.invokestatic 54, 3) := by decide +kernel
theorem dX5_pardon_40 : decode cX5_pardon 40 = .ok (.iaload, 1) := by decide +kernel
theorem dX5_pardon_41 : decode cX5_pardon 41 = .ok (.istore_n 2, 1) := by decide +kernel
theorem dX5_pardon_42 : decode cX5_pardon 42 = .ok (.aload_n 0, 1) := by decide +kernel
theorem dX5_pardon_43 : decode cX5_pardon 43 = .ok (.getfield 7, 3) := by decide +kernel
theorem dX5_pardon_46 : decode cX5_pardon 46 = .ok (.iload_n 1, 1) := by decide +kernel
theorem dX5_pardon_47 : decode cX5_pardon 47 = .ok (.bipush 11, 2) := by decide +kernel
theorem dX5_pardon_49 : decode cX5_pardon 49 = .ok (.invokestatic 54, 3) := by decide +kernel
theorem dX5_pardon_52 : decode cX5_pardon 52 = .ok (.dup2, 1) := by decide +kernel
theorem dX5_pardon_53 : decode cX5_pardon 53 = .ok (.iaload, 1) := by decide +kernel
theorem dX5_pardon_54 : decode cX5_pardon 54 = .ok (.iload_n 2, 1) := by decide +kernel
theorem dX5_pardon_55 : decode cX5_pardon 55 = .ok (.iadd, 1) := by decide +kernel
theorem dX5_pardon_56 : decode cX5_pardon 56 = .ok (.iastore, 1) := by decide +kernel
theorem dX5_pardon_57 : decode cX5_pardon 57 = .ok (.aload_n 0, 1) := by decide +kernel
theorem dX5_pardon_58 : decode cX5_pardon 58 = .ok (.getfield 7, 3) := by decide +kernel
theorem dX5_pardon_61 : decode cX5_pardon 61 = .ok (.iload_n 1, 1) := by decide +kernel
theorem dX5_pardon_62 : decode cX5_pardon 62 = .ok (.iconst 4, 1) := by decide +kernel
theorem dX5_pardon_63 : decode cX5_pardon 63 = .ok (.invokestatic 54, 3) := by decide +kernel
theorem dX5_pardon_66 : decode cX5_pardon 66 = .ok (.iconst 0, 1) := by decide +kernel
theorem dX5_pardon_67 : decode cX5_pardon 67 = .ok (.iastore, 1) := by decide +kernel
theorem dX5_pardon_68 : decode cX5_pardon 68 = .ok (.aload_n 0, 1) := by decide +kernel
theorem dX5_pardon_69 : decode cX5_pardon 69 = .ok (.getfield 7, 3) := by decide +kernel
theorem dX5_pardon_72 : decode cX5_pardon 72 = .ok (.iload_n 1, 1) := by decide +kernel
theorem dX5_pardon_73 : decode cX5_pardon 73 = .ok (.iconst 5, 1) := by decide +kernel
theorem dX5_pardon_74 : decode cX5_pardon 74 = .ok (.invokestatic 54, 3) := by decide +kernel
theorem dX5_pardon_77 : decode cX5_pardon 77 = .ok (.iconst 0, 1) := by decide +kernel
theorem dX5_pardon_78 : decode cX5_pardon 78 = .ok (.iastore, 1) := by decide +kernel
theorem dX5_pardon_79 : decode cX5_pardon 79 = .ok (.aload_n 0, 1) := by decide +kernel
theorem dX5_pardon_80 : decode cX5_pardon 80 = .ok (.getfield 7, 3) := by decide +kernel
theorem dX5_pardon_83 : decode cX5_pardon 83 = .ok (.iload_n 1, 1) := by decide +kernel
theorem dX5_pardon_84 : decode cX5_pardon 84 = .ok (.iconst 3, 1) := by decide +kernel
theorem dX5_pardon_85 : decode cX5_pardon 85 = .ok (.invokestatic 54, 3) := by decide +kernel
theorem dX5_pardon_88 : decode cX5_pardon 88 = .ok (.iconst 0, 1) := by decide +kernel
theorem dX5_pardon_89 : decode cX5_pardon 89 = .ok (.iastore, 1) := by decide +kernel
theorem dX5_pardon_90 : decode cX5_pardon 90 = .ok (.iload_n 2, 1) := by decide +kernel
theorem dX5_pardon_91 : decode cX5_pardon 91 = .ok (.ireturn, 1) := by decide +kernel
theorem dX5_forget_0 : decode cX5_forget 0 = .ok (.aload_n 0, 1) := by decide +kernel
theorem dX5_forget_1 : decode cX5_forget 1 = .ok (.iload_n 1, 1) := by decide +kernel
theorem dX5_forget_2 : decode cX5_forget 2 = .ok (.invokevirtual 82, 3) := by decide +kernel
theorem dX5_forget_5 : decode cX5_forget 5 = .ok (.ifCond .ne 6, 3) := by decide +kernel
theorem dX5_forget_8 : decode cX5_forget 8 = .ok (.ldc 86, 2) := by decide +kernel
theorem dX5_forget_10 : decode cX5_forget 10 = .ok (.ireturn, 1) := by decide +kernel
theorem dX5_forget_11 : decode cX5_forget 11 = .ok (.aload_n 0, 1) := by decide +kernel
theorem dX5_forget_12 : decode cX5_forget 12 = .ok (.getfield 7, 3) := by decide +kernel
theorem dX5_forget_15 : decode cX5_forget 15 = .ok (.iload_n 1, 1) := by decide +kernel
theorem dX5_forget_16 : decode cX5_forget 16 = .ok (.iconst 0, 1) := by decide +kernel
theorem dX5_forget_17 : decode cX5_forget 17 = .ok (.invokestatic 54, 3) := by decide +kernel
theorem dX5_forget_20 : decode cX5_forget 20 = .ok (.iaload, 1) := by decide +kernel
theorem dX5_forget_21 : decode cX5_forget 21 = .ok (.iconst 2, 1) := by decide +kernel
theorem dX5_forget_22 : decode cX5_forget 22 = .ok (.if_icmp .ne 6, 3) := by decide +kernel
theorem dX5_forget_25 : decode cX5_forget 25 = .ok (.ldc 87, 2) := by decide +kernel
theorem dX5_forget_27 : decode cX5_forget 27 = .ok (.ireturn, 1) := by decide +kernel
theorem dX5_forget_28 : decode cX5_forget 28 = .ok (.aload_n 0, 1) := by decide +kernel
theorem dX5_forget_29 : decode cX5_forget 29 = .ok (.getfield 7, 3) := by decide +kernel
theorem dX5_forget_32 : decode cX5_forget 32 = .ok (.iload_n 1, 1) := by decide +kernel
theorem dX5_forget_33 : decode cX5_forget 33 = .ok (.bipush 13, 2) := by decide +kernel
theorem dX5_forget_35 : decode cX5_forget 35 = .ok (.invokestatic 54, 3) := by decide +kernel
theorem dX5_forget_38 : decode cX5_forget 38 = .ok (.iaload, 1) := by decide +kernel
theorem dX5_forget_39 : decode cX5_forget 39 = .ok (.istore_n 2, 1) := by decide +kernel
theorem dX5_forget_40 : decode cX5_forget 40 = .ok (.iload_n 2, 1) := by decide +kernel
theorem dX5_forget_41 : decode cX5_forget 41 = .ok (.ifCond .ne 6, 3) := by decide +kernel
theorem dX5_forget_44 : decode cX5_forget 44 = .ok (.ldc 34, 2) := by decide +kernel
theorem dX5_forget_46 : decode cX5_forget 46 = .ok (.ireturn, 1) := by decide +kernel
theorem dX5_forget_47 : decode cX5_forget 47 = .ok (.aload_n 0, 1) := by decide +kernel
theorem dX5_forget_48 : decode cX5_forget 48 = .ok (.invokevirtual 39, 3) := by decide +kernel
theorem dX5_forget_51 : decode cX5_forget 51 = .ok (.aload_n 0, 1) := by decide +kernel
theorem dX5_forget_52 : decode cX5_forget 52 = .ok (.getfield 7, 3) := by decide +kernel
theorem dX5_forget_55 : decode cX5_forget 55 = .ok (.iload_n 1, 1) := by decide +kernel
theorem dX5_forget_56 : decode cX5_forget 56 = .ok (.bipush 13, 2) := by decide +kernel
theorem dX5_forget_58 : decode cX5_forget 58 = .ok (.invokestatic 54, 3) := by decide +kernel
theorem dX5_forget_61 : decode cX5_forget 61 = .ok (.iconst 0, 1) := by decide +kernel
theorem dX5_forget_62 : decode cX5_forget 62 = .ok (.iastore, 1) := by decide +kernel
theorem dX5_forget_63 : decode cX5_forget 63 = .ok (.iload_n 2, 1) := by decide +kernel
theorem dX5_forget_64 : decode cX5_forget 64 = .ok (.ireturn, 1) := by decide +kernel
theorem dX5_reachOf_0 : decode cX5_reachOf 0 = .ok (.aload_n 0, 1) := by decide +kernel
theorem dX5_reachOf_1 : decode cX5_reachOf 1 = .ok (.getfield 7, 3) := by decide +kernel
theorem dX5_reachOf_4 : decode cX5_reachOf 4 = .ok (.iload_n 1, 1) := by decide +kernel
theorem dX5_reachOf_5 : decode cX5_reachOf 5 = .ok (.iconst 3, 1) := by decide +kernel
theorem dX5_reachOf_6 : decode cX5_reachOf 6 = .ok (.invokestatic 54, 3) := by decide +kernel
theorem dX5_reachOf_9 : decode cX5_reachOf 9 = .ok (.iaload, 1) := by decide +kernel
theorem dX5_reachOf_10 : decode cX5_reachOf 10 = .ok (.istore_n 2, 1) := by decide +kernel
theorem dX5_reachOf_11 : decode cX5_reachOf 11 = .ok (.iload_n 2, 1) := by decide +kernel
theorem dX5_reachOf_12 : decode cX5_reachOf 12 = .ok (.ifCond .ne 16, 3) := by decide +kernel
theorem dX5_reachOf_15 : decode cX5_reachOf 15 = .ok (.aload_n 0, 1) := by decide +kernel
theorem dX5_reachOf_16 : decode cX5_reachOf 16 = .ok (.getfield 7, 3) := by decide +kernel
theorem dX5_reachOf_19 : decode cX5_reachOf 19 = .ok (.iload_n 1, 1) := by decide +kernel
theorem dX5_reachOf_20 : decode cX5_reachOf 20 = .ok (.iconst 1, 1) := by decide +kernel
theorem dX5_reachOf_21 : decode cX5_reachOf 21 = .ok (.invokestatic 54, 3) := by decide +kernel
theorem dX5_reachOf_24 : decode cX5_reachOf 24 = .ok (.iaload, 1) := by decide +kernel
theorem dX5_reachOf_25 : decode cX5_reachOf 25 = .ok (.goto 13, 3) := by decide +kernel
theorem dX5_reachOf_28 : decode cX5_reachOf 28 = .ok (.iload_n 2, 1) := by decide +kernel
theorem dX5_reachOf_29 : decode cX5_reachOf 29 = .ok (.iconst 1, 1) := by decide +kernel
theorem dX5_reachOf_30 : decode cX5_reachOf 30 = .ok (.if_icmp .ne 7, 3) := by decide +kernel
theorem dX5_reachOf_33 : decode cX5_reachOf 33 = .ok (.iconst 1, 1) := by decide +kernel
theorem dX5_reachOf_34 : decode cX5_reachOf 34 = .ok (.goto 4, 3) := by decide +kernel
theorem dX5_reachOf_37 : decode cX5_reachOf 37 = .ok (.iconst 0, 1) := by decide +kernel
theorem dX5_reachOf_38 : decode cX5_reachOf 38 = .ok (.ireturn, 1) := by decide +kernel
theorem dX5_rowOf_0 : decode cX5_rowOf 0 = .ok (.sipush 204, 3) := by decide +kernel
theorem dX5_rowOf_3 : decode cX5_rowOf 3 = .ok (.bipush 16, 2) := by decide +kernel
theorem dX5_rowOf_5 : decode cX5_rowOf 5 = .ok (.iload_n 0, 1) := by decide +kernel
theorem dX5_rowOf_6 : decode cX5_rowOf 6 = .ok (.imul, 1) := by decide +kernel
theorem dX5_rowOf_7 : decode cX5_rowOf 7 = .ok (.iadd, 1) := by decide +kernel
theorem dX5_rowOf_8 : decode cX5_rowOf 8 = .ok (.iconst 4, 1) := by decide +kernel
theorem dX5_rowOf_9 : decode cX5_rowOf 9 = .ok (.iload_n 1, 1) := by decide +kernel
theorem dX5_rowOf_10 : decode cX5_rowOf 10 = .ok (.imul, 1) := by decide +kernel
theorem dX5_rowOf_11 : decode cX5_rowOf 11 = .ok (.iadd, 1) := by decide +kernel
theorem dX5_rowOf_12 : decode cX5_rowOf 12 = .ok (.ireturn, 1) := by decide +kernel
theorem dX5_dropRow_0 : decode cX5_dropRow 0 = .ok (.aload_n 0, 1) := by decide +kernel
theorem dX5_dropRow_1 : decode cX5_dropRow 1 = .ok (.getfield 7, 3) := by decide +kernel
theorem dX5_dropRow_4 : decode cX5_dropRow 4 = .ok (.iload_n 1, 1) := by decide +kernel
theorem dX5_dropRow_5 : decode cX5_dropRow 5 = .ok (.bipush 13, 2) := by decide +kernel
theorem dX5_dropRow_7 : decode cX5_dropRow 7 = .ok (.invokestatic 54, 3) := by decide +kernel
theorem dX5_dropRow_10 : decode cX5_dropRow 10 = .ok (.dup2, 1) := by decide +kernel
theorem dX5_dropRow_11 : decode cX5_dropRow 11 = .ok (.iaload, 1) := by decide +kernel
theorem dX5_dropRow_12 : decode cX5_dropRow 12 = .ok (.iconst 1, 1) := by decide +kernel
theorem dX5_dropRow_13 : decode cX5_dropRow 13 = .ok (.isub, 1) := by decide +kernel
theorem dX5_dropRow_14 : decode cX5_dropRow 14 = .ok (.iastore, 1) := by decide +kernel
theorem dX5_dropRow_15 : decode cX5_dropRow 15 = .ok (.iload_n 1, 1) := by decide +kernel
theorem dX5_dropRow_16 : decode cX5_dropRow 16 = .ok (.iload_n 2, 1) := by decide +kernel
theorem dX5_dropRow_17 : decode cX5_dropRow 17 = .ok (.invokestatic 88, 3) := by decide +kernel
theorem dX5_dropRow_20 : decode cX5_dropRow 20 = .ok (.istore_n 3, 1) := by decide +kernel
theorem dX5_dropRow_21 : decode cX5_dropRow 21 = .ok (.iload_n 3, 1) := by decide +kernel
theorem dX5_dropRow_22 : decode cX5_dropRow 22 = .ok (.iload_n 1, 1) := by decide +kernel
theorem dX5_dropRow_23 : decode cX5_dropRow 23 = .ok (.aload_n 0, 1) := by decide +kernel
theorem dX5_dropRow_24 : decode cX5_dropRow 24 = .ok (.getfield 7, 3) := by decide +kernel
theorem dX5_dropRow_27 : decode cX5_dropRow 27 = .ok (.iload_n 1, 1) := by decide +kernel
theorem dX5_dropRow_28 : decode cX5_dropRow 28 = .ok (.bipush 13, 2) := by decide +kernel
theorem dX5_dropRow_30 : decode cX5_dropRow 30 = .ok (.invokestatic 54, 3) := by decide +kernel
theorem dX5_dropRow_33 : decode cX5_dropRow 33 = .ok (.iaload, 1) := by decide +kernel
theorem dX5_dropRow_34 : decode cX5_dropRow 34 = .ok (.invokestatic 88, 3) := by decide +kernel
theorem dX5_dropRow_37 : decode cX5_dropRow 37 = .ok (.if_icmp .ge 23, 3) := by decide +kernel
theorem dX5_dropRow_40 : decode cX5_dropRow 40 = .ok (.aload_n 0, 1) := by decide +kernel
theorem dX5_dropRow_41 : decode cX5_dropRow 41 = .ok (.getfield 7, 3) := by decide +kernel
theorem dX5_dropRow_44 : decode cX5_dropRow 44 = .ok (.iload_n 3, 1) := by decide +kernel
theorem dX5_dropRow_45 : decode cX5_dropRow 45 = .ok (.aload_n 0, 1) := by decide +kernel
theorem dX5_dropRow_46 : decode cX5_dropRow 46 = .ok (.getfield 7, 3) := by decide +kernel
theorem dX5_dropRow_49 : decode cX5_dropRow 49 = .ok (.iload_n 3, 1) := by decide +kernel
theorem dX5_dropRow_50 : decode cX5_dropRow 50 = .ok (.iconst 4, 1) := by decide +kernel
theorem dX5_dropRow_51 : decode cX5_dropRow 51 = .ok (.iadd, 1) := by decide +kernel
theorem dX5_dropRow_52 : decode cX5_dropRow 52 = .ok (.iaload, 1) := by decide +kernel
theorem dX5_dropRow_53 : decode cX5_dropRow 53 = .ok (.iastore, 1) := by decide +kernel
theorem dX5_dropRow_54 : decode cX5_dropRow 54 = .ok (.iinc 3 1, 3) := by decide +kernel
theorem dX5_dropRow_57 : decode cX5_dropRow 57 = .ok (.goto (-36), 3) := by decide +kernel
theorem dX5_dropRow_60 : decode cX5_dropRow 60 = .ok (.return_, 1) := by decide +kernel
theorem dX5_addRow_0 : decode cX5_addRow 0 = .ok (.iload_n 1, 1) := by decide +kernel
theorem dX5_addRow_1 : decode cX5_addRow 1 = .ok (.aload_n 0, 1) := by decide +kernel
theorem dX5_addRow_2 : decode cX5_addRow 2 = .ok (.getfield 7, 3) := by decide +kernel
theorem dX5_addRow_5 : decode cX5_addRow 5 = .ok (.iload_n 1, 1) := by decide +kernel
theorem dX5_addRow_6 : decode cX5_addRow 6 = .ok (.bipush 13, 2) := by decide +kernel
theorem dX5_addRow_8 : decode cX5_addRow 8 = .ok (.invokestatic 54, 3) := by decide +kernel
theorem dX5_addRow_11 : decode cX5_addRow 11 = .ok (.iaload, 1) := by decide +kernel
theorem dX5_addRow_12 : decode cX5_addRow 12 = .ok (.invokestatic 88, 3) := by decide +kernel
theorem dX5_addRow_15 : decode cX5_addRow 15 = .ok (.istore 6, 2) := by decide +kernel
theorem dX5_addRow_17 : decode cX5_addRow 17 = .ok (.aload_n 0, 1) := by decide +kernel
theorem dX5_addRow_18 : decode cX5_addRow 18 = .ok (.getfield 7, 3) := by decide +kernel
theorem dX5_addRow_21 : decode cX5_addRow 21 = .ok (.iload 6, 2) := by decide +kernel
theorem dX5_addRow_23 : decode cX5_addRow 23 = .ok (.iload_n 2, 1) := by decide +kernel
theorem dX5_addRow_24 : decode cX5_addRow 24 = .ok (.iastore, 1) := by decide +kernel
theorem dX5_addRow_25 : decode cX5_addRow 25 = .ok (.aload_n 0, 1) := by decide +kernel
theorem dX5_addRow_26 : decode cX5_addRow 26 = .ok (.getfield 7, 3) := by decide +kernel
theorem dX5_addRow_29 : decode cX5_addRow 29 = .ok (.iload 6, 2) := by decide +kernel
theorem dX5_addRow_31 : decode cX5_addRow 31 = .ok (.iconst 1, 1) := by decide +kernel
theorem dX5_addRow_32 : decode cX5_addRow 32 = .ok (.iadd, 1) := by decide +kernel
theorem dX5_addRow_33 : decode cX5_addRow 33 = .ok (.iload_n 3, 1) := by decide +kernel
theorem dX5_addRow_34 : decode cX5_addRow 34 = .ok (.iastore, 1) := by decide +kernel
theorem dX5_addRow_35 : decode cX5_addRow 35 = .ok (.aload_n 0, 1) := by decide +kernel
theorem dX5_addRow_36 : decode cX5_addRow 36 = .ok (.getfield 7, 3) := by decide +kernel
theorem dX5_addRow_39 : decode cX5_addRow 39 = .ok (.iload 6, 2) := by decide +kernel
theorem dX5_addRow_41 : decode cX5_addRow 41 = .ok (.iconst 2, 1) := by decide +kernel
theorem dX5_addRow_42 : decode cX5_addRow 42 = .ok (.iadd, 1) := by decide +kernel
theorem dX5_addRow_43 : decode cX5_addRow 43 = .ok (.iload 4, 2) := by decide +kernel
theorem dX5_addRow_45 : decode cX5_addRow 45 = .ok (.iastore, 1) := by decide +kernel
theorem dX5_addRow_46 : decode cX5_addRow 46 = .ok (.aload_n 0, 1) := by decide +kernel
theorem dX5_addRow_47 : decode cX5_addRow 47 = .ok (.getfield 7, 3) := by decide +kernel
theorem dX5_addRow_50 : decode cX5_addRow 50 = .ok (.iload 6, 2) := by decide +kernel
theorem dX5_addRow_52 : decode cX5_addRow 52 = .ok (.iconst 3, 1) := by decide +kernel
theorem dX5_addRow_53 : decode cX5_addRow 53 = .ok (.iadd, 1) := by decide +kernel
theorem dX5_addRow_54 : decode cX5_addRow 54 = .ok (.iload 5, 2) := by decide +kernel
theorem dX5_addRow_56 : decode cX5_addRow 56 = .ok (.iastore, 1) := by decide +kernel
theorem dX5_addRow_57 : decode cX5_addRow 57 = .ok (.aload_n 0, 1) := by decide +kernel
theorem dX5_addRow_58 : decode cX5_addRow 58 = .ok (.getfield 7, 3) := by decide +kernel
theorem dX5_addRow_61 : decode cX5_addRow 61 = .ok (.iload_n 1, 1) := by decide +kernel
theorem dX5_addRow_62 : decode cX5_addRow 62 = .ok (.bipush 13, 2) := by decide +kernel
theorem dX5_addRow_64 : decode cX5_addRow 64 = .ok (.invokestatic 54, 3) := by decide +kernel
theorem dX5_addRow_67 : decode cX5_addRow 67 = .ok (.dup2, 1) := by decide +kernel
theorem dX5_addRow_68 : decode cX5_addRow 68 = .ok (.iaload, 1) := by decide +kernel
theorem dX5_addRow_69 : decode cX5_addRow 69 = .ok (.iconst 1, 1) := by decide +kernel
theorem dX5_addRow_70 : decode cX5_addRow 70 = .ok (.iadd, 1) := by decide +kernel
theorem dX5_addRow_71 : decode cX5_addRow 71 = .ok (.iastore, 1) := by decide +kernel
theorem dX5_addRow_72 : decode cX5_addRow 72 = .ok (.return_, 1) := by decide +kernel
theorem dX5_learnStride_0 : decode cX5_learnStride 0 = .ok (.iconst (-1), 1) := by decide +kernel
theorem dX5_learnStride_1 : decode cX5_learnStride 1 = .ok (.istore 4, 2) := by decide +kernel
theorem dX5_learnStride_3 : decode cX5_learnStride 3 = .ok (.iconst 0, 1) := by decide +kernel
theorem dX5_learnStride_4 : decode cX5_learnStride 4 = .ok (.istore 5, 2) := by decide +kernel
theorem dX5_learnStride_6 : decode cX5_learnStride 6 = .ok (.iload 5, 2) := by decide +kernel
theorem dX5_learnStride_8 : decode cX5_learnStride 8 = .ok (.aload_n 0, 1) := by decide +kernel
theorem dX5_learnStride_9 : decode cX5_learnStride 9 = .ok (.getfield 7, 3) := by decide +kernel
theorem dX5_learnStride_12 : decode cX5_learnStride 12 = .ok (.iload_n 1, 1) := by decide +kernel
theorem dX5_learnStride_13 : decode cX5_learnStride 13 = .ok (.bipush 13, 2) := by decide +kernel
theorem dX5_learnStride_15 : decode cX5_learnStride 15 = .ok (.invokestatic 54, 3) := by decide +kernel
theorem dX5_learnStride_18 : decode cX5_learnStride 18 = .ok (.iaload, 1) := by decide +kernel
theorem dX5_learnStride_19 : decode cX5_learnStride 19 = .ok (.if_icmp .ge 33, 3) := by decide +kernel
theorem dX5_learnStride_22 : decode cX5_learnStride 22 = .ok (.aload_n 0, 1) := by decide +kernel
theorem dX5_learnStride_23 : decode cX5_learnStride 23 = .ok (.getfield 7, 3) := by decide +kernel
theorem dX5_learnStride_26 : decode cX5_learnStride 26 = .ok (.iload_n 1, 1) := by decide +kernel
theorem dX5_learnStride_27 : decode cX5_learnStride 27 = .ok (.iload 5, 2) := by decide +kernel
theorem dX5_learnStride_29 : decode cX5_learnStride 29 = .ok (.invokestatic 88, 3) := by decide +kernel
theorem dX5_learnStride_32 : decode cX5_learnStride 32 = .ok (.iaload, 1) := by decide +kernel
theorem dX5_learnStride_33 : decode cX5_learnStride 33 = .ok (.iload_n 2, 1) := by decide +kernel
theorem dX5_learnStride_34 : decode cX5_learnStride 34 = .ok (.if_icmp .ne 8, 3) := by decide +kernel
theorem dX5_learnStride_37 : decode cX5_learnStride 37 = .ok (.iload 5, 2) := by decide +kernel
theorem dX5_learnStride_39 : decode cX5_learnStride 39 = .ok (.goto 5, 3) := by decide +kernel
theorem dX5_learnStride_42 : decode cX5_learnStride 42 = .ok (.iload 4, 2) := by decide +kernel
theorem dX5_learnStride_44 : decode cX5_learnStride 44 = .ok (.istore 4, 2) := by decide +kernel
theorem dX5_learnStride_46 : decode cX5_learnStride 46 = .ok (.iinc 5 1, 3) := by decide +kernel
theorem dX5_learnStride_49 : decode cX5_learnStride 49 = .ok (.goto (-43), 3) := by decide +kernel
theorem dX5_learnStride_52 : decode cX5_learnStride 52 = .ok (.iload 4, 2) := by decide +kernel
theorem dX5_learnStride_54 : decode cX5_learnStride 54 = .ok (.ifCond .ge 34, 3) := by decide +kernel
theorem dX5_learnStride_57 : decode cX5_learnStride 57 = .ok (.aload_n 0, 1) := by decide +kernel
theorem dX5_learnStride_58 : decode cX5_learnStride 58 = .ok (.getfield 7, 3) := by decide +kernel
theorem dX5_learnStride_61 : decode cX5_learnStride 61 = .ok (.iload_n 1, 1) := by decide +kernel
theorem dX5_learnStride_62 : decode cX5_learnStride 62 = .ok (.bipush 13, 2) := by decide +kernel
theorem dX5_learnStride_64 : decode cX5_learnStride 64 = .ok (.invokestatic 54, 3) := by decide +kernel
theorem dX5_learnStride_67 : decode cX5_learnStride 67 = .ok (.iaload, 1) := by decide +kernel
theorem dX5_learnStride_68 : decode cX5_learnStride 68 = .ok (.iconst 4, 1) := by decide +kernel
theorem dX5_learnStride_69 : decode cX5_learnStride 69 = .ok (.if_icmp .ne 9, 3) := by decide +kernel
theorem dX5_learnStride_72 : decode cX5_learnStride 72 = .ok (.aload_n 0, 1) := by decide +kernel
theorem dX5_learnStride_73 : decode cX5_learnStride 73 = .ok (.iload_n 1, 1) := by decide +kernel
theorem dX5_learnStride_74 : decode cX5_learnStride 74 = .ok (.iconst 0, 1) := by decide +kernel
theorem dX5_learnStride_75 : decode cX5_learnStride 75 = .ok (.invokevirtual 91, 3) := by decide +kernel
theorem dX5_learnStride_78 : decode cX5_learnStride 78 = .ok (.aload_n 0, 1) := by decide +kernel
theorem dX5_learnStride_79 : decode cX5_learnStride 79 = .ok (.iload_n 1, 1) := by decide +kernel
theorem dX5_learnStride_80 : decode cX5_learnStride 80 = .ok (.iload_n 2, 1) := by decide +kernel
theorem dX5_learnStride_81 : decode cX5_learnStride 81 = .ok (.iload_n 3, 1) := by decide +kernel
theorem dX5_learnStride_82 : decode cX5_learnStride 82 = .ok (.iconst 0, 1) := by decide +kernel
theorem dX5_learnStride_83 : decode cX5_learnStride 83 = .ok (.iconst 0, 1) := by decide +kernel
theorem dX5_learnStride_84 : decode cX5_learnStride 84 = .ok (.invokevirtual 94, 3) := by decide +kernel
theorem dX5_learnStride_87 : decode cX5_learnStride 87 = .ok (.return_, 1) := by decide +kernel
theorem dX5_learnStride_88 : decode cX5_learnStride 88 = .ok (.iload_n 3, 1) := by decide +kernel
theorem dX5_learnStride_89 : decode cX5_learnStride 89 = .ok (.aload_n 0, 1) := by decide +kernel
theorem dX5_learnStride_90 : decode cX5_learnStride 90 = .ok (.getfield 7, 3) := by decide +kernel
theorem dX5_learnStride_93 : decode cX5_learnStride 93 = .ok (.iload_n 1, 1) := by decide +kernel
theorem dX5_learnStride_94 : decode cX5_learnStride 94 = .ok (.iload 4, 2) := by decide +kernel
theorem dX5_learnStride_96 : decode cX5_learnStride 96 = .ok (.invokestatic 88, 3) := by decide +kernel
theorem dX5_learnStride_99 : decode cX5_learnStride 99 = .ok (.iconst 1, 1) := by decide +kernel
theorem dX5_learnStride_100 : decode cX5_learnStride 100 = .ok (.iadd, 1) := by decide +kernel
theorem dX5_learnStride_101 : decode cX5_learnStride 101 = .ok (.iaload, 1) := by decide +kernel
theorem dX5_learnStride_102 : decode cX5_learnStride 102 = .ok (.isub, 1) := by decide +kernel
theorem dX5_learnStride_103 : decode cX5_learnStride 103 = .ok (.istore 5, 2) := by decide +kernel
theorem dX5_learnStride_105 : decode cX5_learnStride 105 = .ok (.aload_n 0, 1) := by decide +kernel
theorem dX5_learnStride_106 : decode cX5_learnStride 106 = .ok (.getfield 7, 3) := by decide +kernel
theorem dX5_learnStride_109 : decode cX5_learnStride 109 = .ok (.iload_n 1, 1) := by decide +kernel
theorem dX5_learnStride_110 : decode cX5_learnStride 110 = .ok (.iload 4, 2) := by decide +kernel
theorem dX5_learnStride_112 : decode cX5_learnStride 112 = .ok (.invokestatic 88, 3) := by decide +kernel
theorem dX5_learnStride_115 : decode cX5_learnStride 115 = .ok (.iconst 2, 1) := by decide +kernel
theorem dX5_learnStride_116 : decode cX5_learnStride 116 = .ok (.iadd, 1) := by decide +kernel
theorem dX5_learnStride_117 : decode cX5_learnStride 117 = .ok (.iaload, 1) := by decide +kernel
theorem dX5_learnStride_118 : decode cX5_learnStride 118 = .ok (.istore 6, 2) := by decide +kernel
theorem dX5_learnStride_120 : decode cX5_learnStride 120 = .ok (.aload_n 0, 1) := by decide +kernel
theorem dX5_learnStride_121 : decode cX5_learnStride 121 = .ok (.getfield 7, 3) := by decide +kernel
theorem dX5_learnStride_124 : decode cX5_learnStride 124 = .ok (.iload_n 1, 1) := by decide +kernel
theorem dX5_learnStride_125 : decode cX5_learnStride 125 = .ok (.iload 4, 2) := by decide +kernel
theorem dX5_learnStride_127 : decode cX5_learnStride 127 = .ok (.invokestatic 88, 3) := by decide +kernel
theorem dX5_learnStride_130 : decode cX5_learnStride 130 = .ok (.iconst 3, 1) := by decide +kernel
theorem dX5_learnStride_131 : decode cX5_learnStride 131 = .ok (.iadd, 1) := by decide +kernel
theorem dX5_learnStride_132 : decode cX5_learnStride 132 = .ok (.iaload, 1) := by decide +kernel
theorem dX5_learnStride_133 : decode cX5_learnStride 133 = .ok (.istore 7, 2) := by decide +kernel
theorem dX5_learnStride_135 : decode cX5_learnStride 135 = .ok (.iload 5, 2) := by decide +kernel
theorem dX5_learnStride_137 : decode cX5_learnStride 137 = .ok (.iload 6, 2) := by decide +kernel
theorem dX5_learnStride_139 : decode cX5_learnStride 139 = .ok (.if_icmp .ne 27, 3) := by decide +kernel
theorem dX5_learnStride_142 : decode cX5_learnStride 142 = .ok (.iload 5, 2) := by decide +kernel
theorem dX5_learnStride_144 : decode cX5_learnStride 144 = .ok (.ifCond .eq 22, 3) := by decide +kernel
theorem dX5_learnStride_147 : decode cX5_learnStride 147 = .ok (.iload 7, 2) := by decide +kernel
theorem dX5_learnStride_149 : decode cX5_learnStride 149 = .ok (.iload 7, 2) := by decide +kernel
theorem dX5_learnStride_151 : decode cX5_learnStride 151 = .ok (.iconst 3, 1) := by decide +kernel
theorem dX5_learnStride_152 : decode cX5_learnStride 152 = .ok (.if_icmp .ge 7, 3) := by decide +kernel
theorem dX5_learnStride_155 : decode cX5_learnStride 155 = .ok (.iconst 1, 1) := by decide +kernel
theorem dX5_learnStride_156 : decode cX5_learnStride 156 = .ok (.goto 4, 3) := by decide +kernel
theorem dX5_learnStride_159 : decode cX5_learnStride 159 = .ok (.iconst 0, 1) := by decide +kernel
theorem dX5_learnStride_160 : decode cX5_learnStride 160 = .ok (.iadd, 1) := by decide +kernel
theorem dX5_learnStride_161 : decode cX5_learnStride 161 = .ok (.istore 7, 2) := by decide +kernel
theorem dX5_learnStride_163 : decode cX5_learnStride 163 = .ok (.goto 32, 3) := by decide +kernel
theorem dX5_learnStride_166 : decode cX5_learnStride 166 = .ok (.iload 7, 2) := by decide +kernel
theorem dX5_learnStride_168 : decode cX5_learnStride 168 = .ok (.iload 7, 2) := by decide +kernel
theorem dX5_learnStride_170 : decode cX5_learnStride 170 = .ok (.ifCond .le 7, 3) := by decide +kernel
theorem dX5_learnStride_173 : decode cX5_learnStride 173 = .ok (.iconst 1, 1) := by decide +kernel
theorem dX5_learnStride_174 : decode cX5_learnStride 174 = .ok (.goto 4, 3) := by decide +kernel
theorem dX5_learnStride_177 : decode cX5_learnStride 177 = .ok (.iconst 0, 1) := by decide +kernel
theorem dX5_learnStride_178 : decode cX5_learnStride 178 = .ok (.isub, 1) := by decide +kernel
theorem dX5_learnStride_179 : decode cX5_learnStride 179 = .ok (.istore 7, 2) := by decide +kernel
theorem dX5_learnStride_181 : decode cX5_learnStride 181 = .ok (.iload 7, 2) := by decide +kernel
theorem dX5_learnStride_183 : decode cX5_learnStride 183 = .ok (.ifCond .ne 8, 3) := by decide +kernel
theorem dX5_learnStride_186 : decode cX5_learnStride 186 = .ok (.iload 5, 2) := by decide +kernel
theorem dX5_learnStride_188 : decode cX5_learnStride 188 = .ok (.goto 5, 3) := by decide +kernel
theorem dX5_learnStride_191 : decode cX5_learnStride 191 = .ok (.iload 6, 2) := by decide +kernel
theorem dX5_learnStride_193 : decode cX5_learnStride 193 = .ok (.istore 6, 2) := by decide +kernel
theorem dX5_learnStride_195 : decode cX5_learnStride 195 = .ok (.aload_n 0, 1) := by decide +kernel
theorem dX5_learnStride_196 : decode cX5_learnStride 196 = .ok (.iload_n 1, 1) := by decide +kernel
theorem dX5_learnStride_197 : decode cX5_learnStride 197 = .ok (.iload 4, 2) := by decide +kernel
theorem dX5_learnStride_199 : decode cX5_learnStride 199 = .ok (.invokevirtual 91, 3) := by decide +kernel
theorem dX5_learnStride_202 : decode cX5_learnStride 202 = .ok (.aload_n 0, 1) := by decide +kernel
theorem dX5_learnStride_203 : decode cX5_learnStride 203 = .ok (.iload_n 1, 1) := by decide +kernel
theorem dX5_learnStride_204 : decode cX5_learnStride 204 = .ok (.iload_n 2, 1) := by decide +kernel
theorem dX5_learnStride_205 : decode cX5_learnStride 205 = .ok (.iload_n 3, 1) := by decide +kernel
theorem dX5_learnStride_206 : decode cX5_learnStride 206 = .ok (.iload 6, 2) := by decide +kernel
theorem dX5_learnStride_208 : decode cX5_learnStride 208 = .ok (.iload 7, 2) := by decide +kernel
theorem dX5_learnStride_210 : decode cX5_learnStride 210 = .ok (.invokevirtual 94, 3) := by decide +kernel
theorem dX5_learnStride_213 : decode cX5_learnStride 213 = .ok (.aload_n 0, 1) := by decide +kernel
theorem dX5_learnStride_214 : decode cX5_learnStride 214 = .ok (.iload 7, 2) := by decide +kernel
theorem dX5_learnStride_216 : decode cX5_learnStride 216 = .ok (.iconst 1, 1) := by decide +kernel
theorem dX5_learnStride_217 : decode cX5_learnStride 217 = .ok (.if_icmp .le 8, 3) := by decide +kernel
theorem dX5_learnStride_220 : decode cX5_learnStride 220 = .ok (.iload 6, 2) := by decide +kernel
theorem dX5_learnStride_222 : decode cX5_learnStride 222 = .ok (.goto 4, 3) := by decide +kernel
theorem dX5_learnStride_225 : decode cX5_learnStride 225 = .ok (.iconst 0, 1) := by decide +kernel
theorem dX5_learnStride_226 : decode cX5_learnStride 226 = .ok (.putfield 98, 3) := by decide +kernel
theorem dX5_learnStride_229 : decode cX5_learnStride 229 = .ok (.return_, 1) := by decide +kernel
theorem dX5_learnStream_0 : decode cX5_learnStream 0 = .ok (.iconst (-1), 1) := by decide +kernel
theorem dX5_learnStream_1 : decode cX5_learnStream 1 = .ok (.istore_n 3, 1) := by decide +kernel
theorem dX5_learnStream_2 : decode cX5_learnStream 2 = .ok (.iconst 0, 1) := by decide +kernel
theorem dX5_learnStream_3 : decode cX5_learnStream 3 = .ok (.istore 4, 2) := by decide +kernel
theorem dX5_learnStream_5 : decode cX5_learnStream 5 = .ok (.iload 4, 2) := by decide +kernel
theorem dX5_learnStream_7 : decode cX5_learnStream 7 = .ok (.aload_n 0, 1) := by decide +kernel
theorem dX5_learnStream_8 : decode cX5_learnStream 8 = .ok (.getfield 7, 3) := by decide +kernel
theorem dX5_learnStream_11 : decode cX5_learnStream 11 = .ok (.iload_n 1, 1) := by decide +kernel
theorem dX5_learnStream_12 : decode cX5_learnStream 12 = .ok (.bipush 13, 2) := by decide +kernel
theorem dX5_learnStream_14 : decode cX5_learnStream 14 = .ok (.invokestatic 54, 3) := by decide +kernel
theorem dX5_learnStream_17 : decode cX5_learnStream 17 = .ok (.iaload, 1) := by decide +kernel
theorem dX5_learnStream_18 : decode cX5_learnStream 18 = .ok (.if_icmp .ge 49, 3) := by decide +kernel
theorem dX5_learnStream_21 : decode cX5_learnStream 21 = .ok (.iload_n 2, 1) := by decide +kernel
theorem dX5_learnStream_22 : decode cX5_learnStream 22 = .ok (.aload_n 0, 1) := by decide +kernel
theorem dX5_learnStream_23 : decode cX5_learnStream 23 = .ok (.getfield 7, 3) := by decide +kernel
theorem dX5_learnStream_26 : decode cX5_learnStream 26 = .ok (.iload_n 1, 1) := by decide +kernel
theorem dX5_learnStream_27 : decode cX5_learnStream 27 = .ok (.iload 4, 2) := by decide +kernel
theorem dX5_learnStream_29 : decode cX5_learnStream 29 = .ok (.invokestatic 88, 3) := by decide +kernel
theorem dX5_learnStream_32 : decode cX5_learnStream 32 = .ok (.iconst 1, 1) := by decide +kernel
theorem dX5_learnStream_33 : decode cX5_learnStream 33 = .ok (.iadd, 1) := by decide +kernel
theorem dX5_learnStream_34 : decode cX5_learnStream 34 = .ok (.iaload, 1) := by decide +kernel
theorem dX5_learnStream_35 : decode cX5_learnStream 35 = .ok (.isub, 1) := by decide +kernel
theorem dX5_learnStream_36 : decode cX5_learnStream 36 = .ok (.istore 5, 2) := by decide +kernel
theorem dX5_learnStream_38 : decode cX5_learnStream 38 = .ok (.iload 5, 2) := by decide +kernel
theorem dX5_learnStream_40 : decode cX5_learnStream 40 = .ok (.ifCond .eq 19, 3) := by decide +kernel
theorem dX5_learnStream_43 : decode cX5_learnStream 43 = .ok (.iload 5, 2) := by decide +kernel
theorem dX5_learnStream_45 : decode cX5_learnStream 45 = .ok (.bipush (-4), 2) := by decide +kernel
theorem dX5_learnStream_47 : decode cX5_learnStream 47 = .ok (.iconst 4, 1) := by decide +kernel
theorem dX5_learnStream_48 : decode cX5_learnStream 48 = .ok (.invokestatic 23, 3) := by decide +kernel
theorem dX5_learnStream_51 : decode cX5_learnStream 51 = .ok (.ifCond .eq 8, 3) := by decide +kernel
theorem dX5_learnStream_54 : decode cX5_learnStream 54 = .ok (.iload 4, 2) := by decide +kernel
theorem dX5_learnStream_56 : decode cX5_learnStream 56 = .ok (.goto 4, 3) := by decide +kernel
theorem dX5_learnStream_59 : decode cX5_learnStream 59 = .ok (.iload_n 3, 1) := by decide +kernel
theorem dX5_learnStream_60 : decode cX5_learnStream 60 = .ok (.istore_n 3, 1) := by decide +kernel
theorem dX5_learnStream_61 : decode cX5_learnStream 61 = .ok (.iinc 4 1, 3) := by decide +kernel
theorem dX5_learnStream_64 : decode cX5_learnStream 64 = .ok (.goto (-59), 3) := by decide +kernel
theorem dX5_learnStream_67 : decode cX5_learnStream 67 = .ok (.iload_n 3, 1) := by decide +kernel
theorem dX5_learnStream_68 : decode cX5_learnStream 68 = .ok (.ifCond .ge 34, 3) := by decide +kernel
theorem dX5_learnStream_71 : decode cX5_learnStream 71 = .ok (.aload_n 0, 1) := by decide +kernel
theorem dX5_learnStream_72 : decode cX5_learnStream 72 = .ok (.getfield 7, 3) := by decide +kernel
theorem dX5_learnStream_75 : decode cX5_learnStream 75 = .ok (.iload_n 1, 1) := by decide +kernel
theorem dX5_learnStream_76 : decode cX5_learnStream 76 = .ok (.bipush 13, 2) := by decide +kernel
theorem dX5_learnStream_78 : decode cX5_learnStream 78 = .ok (.invokestatic 54, 3) := by decide +kernel
theorem dX5_learnStream_81 : decode cX5_learnStream 81 = .ok (.iaload, 1) := by decide +kernel
theorem dX5_learnStream_82 : decode cX5_learnStream 82 = .ok (.iconst 3, 1) := by decide +kernel
theorem dX5_learnStream_83 : decode cX5_learnStream 83 = .ok (.if_icmp .ne 9, 3) := by decide +kernel
theorem dX5_learnStream_86 : decode cX5_learnStream 86 = .ok (.aload_n 0, 1) := by decide +kernel
theorem dX5_learnStream_87 : decode cX5_learnStream 87 = .ok (.iload_n 1, 1) := by decide +kernel
theorem dX5_learnStream_88 : decode cX5_learnStream 88 = .ok (.iconst 0, 1) := by decide +kernel
theorem dX5_learnStream_89 : decode cX5_learnStream 89 = .ok (.invokevirtual 91, 3) := by decide +kernel
theorem dX5_learnStream_92 : decode cX5_learnStream 92 = .ok (.aload_n 0, 1) := by decide +kernel
theorem dX5_learnStream_93 : decode cX5_learnStream 93 = .ok (.iload_n 1, 1) := by decide +kernel
theorem dX5_learnStream_94 : decode cX5_learnStream 94 = .ok (.iconst 0, 1) := by decide +kernel
theorem dX5_learnStream_95 : decode cX5_learnStream 95 = .ok (.iload_n 2, 1) := by decide +kernel
theorem dX5_learnStream_96 : decode cX5_learnStream 96 = .ok (.iconst 0, 1) := by decide +kernel
theorem dX5_learnStream_97 : decode cX5_learnStream 97 = .ok (.iconst 0, 1) := by decide +kernel
theorem dX5_learnStream_98 : decode cX5_learnStream 98 = .ok (.invokevirtual 94, 3) := by decide +kernel
theorem dX5_learnStream_101 : decode cX5_learnStream 101 = .ok (.return_, 1) := by decide +kernel
theorem dX5_learnStream_102 : decode cX5_learnStream 102 = .ok (.iload_n 2, 1) := by decide +kernel
theorem dX5_learnStream_103 : decode cX5_learnStream 103 = .ok (.aload_n 0, 1) := by decide +kernel
theorem dX5_learnStream_104 : decode cX5_learnStream 104 = .ok (.getfield 7, 3) := by decide +kernel
theorem dX5_learnStream_107 : decode cX5_learnStream 107 = .ok (.iload_n 1, 1) := by decide +kernel
theorem dX5_learnStream_108 : decode cX5_learnStream 108 = .ok (.iload_n 3, 1) := by decide +kernel
theorem dX5_learnStream_109 : decode cX5_learnStream 109 = .ok (.invokestatic 88, 3) := by decide +kernel
theorem dX5_learnStream_112 : decode cX5_learnStream 112 = .ok (.iconst 1, 1) := by decide +kernel
theorem dX5_learnStream_113 : decode cX5_learnStream 113 = .ok (.iadd, 1) := by decide +kernel
theorem dX5_learnStream_114 : decode cX5_learnStream 114 = .ok (.iaload, 1) := by decide +kernel
theorem dX5_learnStream_115 : decode cX5_learnStream 115 = .ok (.if_icmp .le 7, 3) := by decide +kernel
theorem dX5_learnStream_118 : decode cX5_learnStream 118 = .ok (.iconst 1, 1) := by decide +kernel
theorem dX5_learnStream_119 : decode cX5_learnStream 119 = .ok (.goto 4, 3) := by decide +kernel
theorem dX5_learnStream_122 : decode cX5_learnStream 122 = .ok (.iconst (-1), 1) := by decide +kernel
theorem dX5_learnStream_123 : decode cX5_learnStream 123 = .ok (.istore 4, 2) := by decide +kernel
theorem dX5_learnStream_125 : decode cX5_learnStream 125 = .ok (.aload_n 0, 1) := by decide +kernel
theorem dX5_learnStream_126 : decode cX5_learnStream 126 = .ok (.getfield 7, 3) := by decide +kernel
theorem dX5_learnStream_129 : decode cX5_learnStream 129 = .ok (.iload_n 1, 1) := by decide +kernel
theorem dX5_learnStream_130 : decode cX5_learnStream 130 = .ok (.iload_n 3, 1) := by decide +kernel
theorem dX5_learnStream_131 : decode cX5_learnStream 131 = .ok (.invokestatic 88, 3) := by decide +kernel
theorem dX5_learnStream_134 : decode cX5_learnStream 134 = .ok (.iconst 3, 1) := by decide +kernel
theorem dX5_learnStream_135 : decode cX5_learnStream 135 = .ok (.iadd, 1) := by decide +kernel
theorem dX5_learnStream_136 : decode cX5_learnStream 136 = .ok (.iaload, 1) := by decide +kernel
theorem dX5_learnStream_137 : decode cX5_learnStream 137 = .ok (.istore 5, 2) := by decide +kernel
theorem dX5_learnStream_139 : decode cX5_learnStream 139 = .ok (.iload 4, 2) := by decide +kernel
theorem dX5_learnStream_141 : decode cX5_learnStream 141 = .ok (.aload_n 0, 1) := by decide +kernel
theorem dX5_learnStream_142 : decode cX5_learnStream 142 = .ok (.getfield 7, 3) := by decide +kernel
theorem dX5_learnStream_145 : decode cX5_learnStream 145 = .ok (.iload_n 1, 1) := by decide +kernel
theorem dX5_learnStream_146 : decode cX5_learnStream 146 = .ok (.iload_n 3, 1) := by decide +kernel
theorem dX5_learnStream_147 : decode cX5_learnStream 147 = .ok (.invokestatic 88, 3) := by decide +kernel
theorem dX5_learnStream_150 : decode cX5_learnStream 150 = .ok (.iconst 2, 1) := by decide +kernel
theorem dX5_learnStream_151 : decode cX5_learnStream 151 = .ok (.iadd, 1) := by decide +kernel
theorem dX5_learnStream_152 : decode cX5_learnStream 152 = .ok (.iaload, 1) := by decide +kernel
theorem dX5_learnStream_153 : decode cX5_learnStream 153 = .ok (.if_icmp .eq 7, 3) := by decide +kernel
theorem dX5_learnStream_156 : decode cX5_learnStream 156 = .ok (.iconst 1, 1) := by decide +kernel
theorem dX5_learnStream_157 : decode cX5_learnStream 157 = .ok (.goto 19, 3) := by decide +kernel
theorem dX5_learnStream_160 : decode cX5_learnStream 160 = .ok (.iload 5, 2) := by decide +kernel
theorem dX5_learnStream_162 : decode cX5_learnStream 162 = .ok (.bipush 9, 2) := by decide +kernel
theorem dX5_learnStream_164 : decode cX5_learnStream 164 = .ok (.if_icmp .ge 10, 3) := by decide +kernel
theorem dX5_learnStream_167 : decode cX5_learnStream 167 = .ok (.iload 5, 2) := by decide +kernel
theorem dX5_learnStream_169 : decode cX5_learnStream 169 = .ok (.iconst 1, 1) := by decide +kernel
theorem dX5_learnStream_170 : decode cX5_learnStream 170 = .ok (.iadd, 1) := by decide +kernel
theorem dX5_learnStream_171 : decode cX5_learnStream 171 = .ok (.goto 5, 3) := by decide +kernel
theorem dX5_learnStream_174 : decode cX5_learnStream 174 = .ok (.bipush 9, 2) := by decide +kernel
theorem dX5_learnStream_176 : decode cX5_learnStream 176 = .ok (.istore 5, 2) := by decide +kernel
theorem dX5_learnStream_178 : decode cX5_learnStream 178 = .ok (.aload_n 0, 1) := by decide +kernel
theorem dX5_learnStream_179 : decode cX5_learnStream 179 = .ok (.iload_n 1, 1) := by decide +kernel
theorem dX5_learnStream_180 : decode cX5_learnStream 180 = .ok (.iload_n 3, 1) := by decide +kernel
theorem dX5_learnStream_181 : decode cX5_learnStream 181 = .ok (.invokevirtual 91, 3) := by decide +kernel
theorem dX5_learnStream_184 : decode cX5_learnStream 184 = .ok (.aload_n 0, 1) := by decide +kernel
theorem dX5_learnStream_185 : decode cX5_learnStream 185 = .ok (.iload_n 1, 1) := by decide +kernel
theorem dX5_learnStream_186 : decode cX5_learnStream 186 = .ok (.iconst 0, 1) := by decide +kernel
theorem dX5_learnStream_187 : decode cX5_learnStream 187 = .ok (.iload_n 2, 1) := by decide +kernel
theorem dX5_learnStream_188 : decode cX5_learnStream 188 = .ok (.iload 4, 2) := by decide +kernel
theorem dX5_learnStream_190 : decode cX5_learnStream 190 = .ok (.iload 5, 2) := by decide +kernel
theorem dX5_learnStream_192 : decode cX5_learnStream 192 = .ok (.invokevirtual 94, 3) := by decide +kernel
theorem dX5_learnStream_195 : decode cX5_learnStream 195 = .ok (.aload_n 0, 1) := by decide +kernel
theorem dX5_learnStream_196 : decode cX5_learnStream 196 = .ok (.iload 5, 2) := by decide +kernel
theorem dX5_learnStream_198 : decode cX5_learnStream 198 = .ok (.iconst 1, 1) := by decide +kernel
theorem dX5_learnStream_199 : decode cX5_learnStream 199 = .ok (.if_icmp .le 8, 3) := by decide +kernel
theorem dX5_learnStream_202 : decode cX5_learnStream 202 = .ok (.iload 4, 2) := by decide +kernel
theorem dX5_learnStream_204 : decode cX5_learnStream 204 = .ok (.goto 4, 3) := by decide +kernel
theorem dX5_learnStream_207 : decode cX5_learnStream 207 = .ok (.iconst 0, 1) := by decide +kernel
theorem dX5_learnStream_208 : decode cX5_learnStream 208 = .ok (.putfield 98, 3) := by decide +kernel
theorem dX5_learnStream_211 : decode cX5_learnStream 211 = .ok (.return_, 1) := by decide +kernel
theorem dX5_learn_0 : decode cX5_learn 0 = .ok (.aload_n 0, 1) := by decide +kernel
theorem dX5_learn_1 : decode cX5_learn 1 = .ok (.iconst 0, 1) := by decide +kernel
theorem dX5_learn_2 : decode cX5_learn 2 = .ok (.putfield 98, 3) := by decide +kernel
theorem dX5_learn_5 : decode cX5_learn 5 = .ok (.aload_n 0, 1) := by decide +kernel
theorem dX5_learn_6 : decode cX5_learn 6 = .ok (.getfield 7, 3) := by decide +kernel
theorem dX5_learn_9 : decode cX5_learn 9 = .ok (.iload_n 1, 1) := by decide +kernel
theorem dX5_learn_10 : decode cX5_learn 10 = .ok (.iconst 0, 1) := by decide +kernel
theorem dX5_learn_11 : decode cX5_learn 11 = .ok (.invokestatic 54, 3) := by decide +kernel
theorem dX5_learn_14 : decode cX5_learn 14 = .ok (.iaload, 1) := by decide +kernel
theorem dX5_learn_15 : decode cX5_learn 15 = .ok (.lookupswitch 50 #[(0, 25), (1, 35)], 25) := by decide +kernel
theorem dX5_learn_40 : decode cX5_learn 40 = .ok (.aload_n 0, 1) := by decide +kernel
theorem dX5_learn_41 : decode cX5_learn 41 = .ok (.iload_n 1, 1) := by decide +kernel
theorem dX5_learn_42 : decode cX5_learn 42 = .ok (.iload_n 2, 1) := by decide +kernel
theorem dX5_learn_43 : decode cX5_learn 43 = .ok (.iload_n 3, 1) := by decide +kernel
theorem dX5_learn_44 : decode cX5_learn 44 = .ok (.invokevirtual 101, 3) := by decide +kernel
theorem dX5_learn_47 : decode cX5_learn 47 = .ok (.goto 32, 3) := by decide +kernel
theorem dX5_learn_50 : decode cX5_learn 50 = .ok (.iload 4, 2) := by decide +kernel
theorem dX5_learn_52 : decode cX5_learn 52 = .ok (.iconst 1, 1) := by decide +kernel
theorem dX5_learn_53 : decode cX5_learn 53 = .ok (.if_icmp .eq 26, 3) := by decide +kernel
theorem dX5_learn_56 : decode cX5_learn 56 = .ok (.aload_n 0, 1) := by decide +kernel
theorem dX5_learn_57 : decode cX5_learn 57 = .ok (.iload_n 1, 1) := by decide +kernel
theorem dX5_learn_58 : decode cX5_learn 58 = .ok (.iload_n 3, 1) := by decide +kernel
theorem dX5_learn_59 : decode cX5_learn 59 = .ok (.invokevirtual 105, 3) := by decide +kernel
theorem dX5_learn_62 : decode cX5_learn 62 = .ok (.goto 17, 3) := by decide +kernel
theorem dX5_learn_65 : decode cX5_learn 65 = .ok (.aload_n 0, 1) := by decide +kernel
theorem dX5_learn_66 : decode cX5_learn 66 = .ok (.iload 4, 2) := by decide +kernel
theorem dX5_learn_68 : decode cX5_learn 68 = .ok (.ifCond .ne 7, 3) := by decide +kernel
theorem dX5_learn_71 : decode cX5_learn 71 = .ok (.iconst 1, 1) := by decide +kernel
theorem dX5_learn_72 : decode cX5_learn 72 = .ok (.goto 4, 3) := by decide +kernel
theorem dX5_learn_75 : decode cX5_learn 75 = .ok (.iconst 0, 1) := by decide +kernel
theorem dX5_learn_76 : decode cX5_learn 76 = .ok (.putfield 98, 3) := by decide +kernel
theorem dX5_learn_79 : decode cX5_learn 79 = .ok (.return_, 1) := by decide +kernel
theorem dX5_fetchAhead_0 : decode cX5_fetchAhead 0 = .ok (.aload_n 0, 1) := by decide +kernel
theorem dX5_fetchAhead_1 : decode cX5_fetchAhead 1 = .ok (.getfield 98, 3) := by decide +kernel
theorem dX5_fetchAhead_4 : decode cX5_fetchAhead 4 = .ok (.ifCond .ne 7, 3) := by decide +kernel
theorem dX5_fetchAhead_7 : decode cX5_fetchAhead 7 = .ok (.iconst 0, 1) := by decide +kernel
theorem dX5_fetchAhead_8 : decode cX5_fetchAhead 8 = .ok (.goto 8, 3) := by decide +kernel
theorem dX5_fetchAhead_11 : decode cX5_fetchAhead 11 = .ok (.aload_n 0, 1) := by decide +kernel
theorem dX5_fetchAhead_12 : decode cX5_fetchAhead 12 = .ok (.iload_n 1, 1) := by decide +kernel
theorem dX5_fetchAhead_13 : decode cX5_fetchAhead 13 = .ok (.invokevirtual 108, 3) := by decide +kernel
theorem dX5_fetchAhead_16 : decode cX5_fetchAhead 16 = .ok (.istore_n 3, 1) := by decide +kernel
theorem dX5_fetchAhead_17 : decode cX5_fetchAhead 17 = .ok (.iconst 0, 1) := by decide +kernel
theorem dX5_fetchAhead_18 : decode cX5_fetchAhead 18 = .ok (.istore 4, 2) := by decide +kernel
theorem dX5_fetchAhead_20 : decode cX5_fetchAhead 20 = .ok (.iconst 1, 1) := by decide +kernel
theorem dX5_fetchAhead_21 : decode cX5_fetchAhead 21 = .ok (.istore 5, 2) := by decide +kernel
theorem dX5_fetchAhead_23 : decode cX5_fetchAhead 23 = .ok (.iload 5, 2) := by decide +kernel
theorem dX5_fetchAhead_25 : decode cX5_fetchAhead 25 = .ok (.iload_n 3, 1) := by decide +kernel
theorem dX5_fetchAhead_26 : decode cX5_fetchAhead 26 = .ok (.if_icmp .gt 99, 3) := by decide +kernel
theorem dX5_fetchAhead_29 : decode cX5_fetchAhead 29 = .ok (.iload_n 2, 1) := by decide +kernel
theorem dX5_fetchAhead_30 : decode cX5_fetchAhead 30 = .ok (.iload 5, 2) := by decide +kernel
theorem dX5_fetchAhead_32 : decode cX5_fetchAhead 32 = .ok (.aload_n 0, 1) := by decide +kernel
theorem dX5_fetchAhead_33 : decode cX5_fetchAhead 33 = .ok (.getfield 98, 3) := by decide +kernel
theorem dX5_fetchAhead_36 : decode cX5_fetchAhead 36 = .ok (.imul, 1) := by decide +kernel
theorem dX5_fetchAhead_37 : decode cX5_fetchAhead 37 = .ok (.iadd, 1) := by decide +kernel
theorem dX5_fetchAhead_38 : decode cX5_fetchAhead 38 = .ok (.istore 6, 2) := by decide +kernel
theorem dX5_fetchAhead_40 : decode cX5_fetchAhead 40 = .ok (.iload 6, 2) := by decide +kernel
theorem dX5_fetchAhead_42 : decode cX5_fetchAhead 42 = .ok (.invokestatic 111, 3) := by decide +kernel
theorem dX5_fetchAhead_45 : decode cX5_fetchAhead 45 = .ok (.ifCond .eq 32, 3) := by decide +kernel
theorem dX5_fetchAhead_48 : decode cX5_fetchAhead 48 = .ok (.iload_n 1, 1) := by decide +kernel
theorem dX5_fetchAhead_49 : decode cX5_fetchAhead 49 = .ok (.aload_n 0, 1) := by decide +kernel
theorem dX5_fetchAhead_50 : decode cX5_fetchAhead 50 = .ok (.getfield 16, 3) := by decide +kernel
theorem dX5_fetchAhead_53 : decode cX5_fetchAhead 53 = .ok (.if_icmp .ne 24, 3) := by decide +kernel
theorem dX5_fetchAhead_56 : decode cX5_fetchAhead 56 = .ok (.aload_n 0, 1) := by decide +kernel
theorem dX5_fetchAhead_57 : decode cX5_fetchAhead 57 = .ok (.getfield 20, 3) := by decide +kernel
theorem dX5_fetchAhead_60 : decode cX5_fetchAhead 60 = .ok (.aload_n 0, 1) := by decide +kernel
theorem dX5_fetchAhead_61 : decode cX5_fetchAhead 61 = .ok (.getfield 114, 3) := by decide +kernel
theorem dX5_fetchAhead_64 : decode cX5_fetchAhead 64 = .ok (.iload 6, 2) := by decide +kernel
theorem dX5_fetchAhead_66 : decode cX5_fetchAhead 66 = .ok (.iastore, 1) := by decide +kernel
theorem dX5_fetchAhead_67 : decode cX5_fetchAhead 67 = .ok (.aload_n 0, 1) := by decide +kernel
theorem dX5_fetchAhead_68 : decode cX5_fetchAhead 68 = .ok (.dup, 1) := by decide +kernel
theorem dX5_fetchAhead_69 : decode cX5_fetchAhead 69 = .ok (.getfield 114, 3) := by decide +kernel
theorem dX5_fetchAhead_72 : decode cX5_fetchAhead 72 = .ok (.iconst 1, 1) := by decide +kernel
theorem dX5_fetchAhead_73 : decode cX5_fetchAhead 73 = .ok (.iadd, 1) := by decide +kernel
theorem dX5_fetchAhead_74 : decode cX5_fetchAhead 74 = .ok (.putfield 114, 3) := by decide +kernel
theorem dX5_fetchAhead_77 : decode cX5_fetchAhead 77 = .ok (.iload 6, 2) := by decide +kernel
theorem dX5_fetchAhead_79 : decode cX5_fetchAhead 79 = .ok (.invokestatic 111, 3) := by decide +kernel
theorem dX5_fetchAhead_82 : decode cX5_fetchAhead 82 = .ok (.ifCond .eq 37, 3) := by decide +kernel
theorem dX5_fetchAhead_85 : decode cX5_fetchAhead 85 = .ok (.aload_n 0, 1) := by decide +kernel
theorem dX5_fetchAhead_86 : decode cX5_fetchAhead 86 = .ok (.iload 6, 2) := by decide +kernel
theorem dX5_fetchAhead_88 : decode cX5_fetchAhead 88 = .ok (.invokevirtual 117, 3) := by decide +kernel
theorem dX5_fetchAhead_91 : decode cX5_fetchAhead 91 = .ok (.ifCond .ge 28, 3) := by decide +kernel
theorem dX5_fetchAhead_94 : decode cX5_fetchAhead 94 = .ok (.aload_n 0, 1) := by decide +kernel
theorem dX5_fetchAhead_95 : decode cX5_fetchAhead 95 = .ok (.iload 6, 2) := by decide +kernel
theorem dX5_fetchAhead_97 : decode cX5_fetchAhead 97 = .ok (.iload_n 1, 1) := by decide +kernel
theorem dX5_fetchAhead_98 : decode cX5_fetchAhead 98 = .ok (.invokevirtual 120, 3) := by decide +kernel
theorem dX5_fetchAhead_101 : decode cX5_fetchAhead 101 = .ok (.aload_n 0, 1) := by decide +kernel
theorem dX5_fetchAhead_102 : decode cX5_fetchAhead 102 = .ok (.getfield 7, 3) := by decide +kernel
theorem dX5_fetchAhead_105 : decode cX5_fetchAhead 105 = .ok (.iload_n 1, 1) := by decide +kernel
theorem dX5_fetchAhead_106 : decode cX5_fetchAhead 106 = .ok (.bipush 6, 2) := by decide +kernel
theorem dX5_fetchAhead_108 : decode cX5_fetchAhead 108 = .ok (.invokestatic 54, 3) := by decide +kernel
theorem dX5_fetchAhead_111 : decode cX5_fetchAhead 111 = .ok (.dup2, 1) := by decide +kernel
theorem dX5_fetchAhead_112 : decode cX5_fetchAhead 112 = .ok (.iaload, 1) := by decide +kernel
theorem dX5_fetchAhead_113 : decode cX5_fetchAhead 113 = .ok (.iconst 1, 1) := by decide +kernel
theorem dX5_fetchAhead_114 : decode cX5_fetchAhead 114 = .ok (.iadd, 1) := by decide +kernel
theorem dX5_fetchAhead_115 : decode cX5_fetchAhead 115 = .ok (.iastore, 1) := by decide +kernel
theorem dX5_fetchAhead_116 : decode cX5_fetchAhead 116 = .ok (.iinc 4 1, 3) := by decide +kernel
theorem dX5_fetchAhead_119 : decode cX5_fetchAhead 119 = .ok (.iinc 5 1, 3) := by decide +kernel
theorem dX5_fetchAhead_122 : decode cX5_fetchAhead 122 = .ok (.goto (-99), 3) := by decide +kernel
theorem dX5_fetchAhead_125 : decode cX5_fetchAhead 125 = .ok (.iload 4, 2) := by decide +kernel
theorem dX5_fetchAhead_127 : decode cX5_fetchAhead 127 = .ok (.ireturn, 1) := by decide +kernel
theorem dX5_work_0 : decode cX5_work 0 = .ok (.iconst 0, 1) := by decide +kernel
theorem dX5_work_1 : decode cX5_work 1 = .ok (.istore_n 1, 1) := by decide +kernel
theorem dX5_work_2 : decode cX5_work 2 = .ok (.iload_n 1, 1) := by decide +kernel
theorem dX5_work_3 : decode cX5_work 3 = .ok (.aload_n 0, 1) := by decide +kernel
theorem dX5_work_4 : decode cX5_work 4 = .ok (.getfield 7, 3) := by decide +kernel
theorem dX5_work_7 : decode cX5_work 7 = .ok (.sipush 351, 3) := by decide +kernel
theorem dX5_work_10 : decode cX5_work 10 = .ok (.iaload, 1) := by decide +kernel
theorem dX5_work_11 : decode cX5_work 11 = .ok (.if_icmp .ge 109, 3) := by decide +kernel
theorem dX5_work_14 : decode cX5_work 14 = .ok (.aload_n 0, 1) := by decide +kernel
theorem dX5_work_15 : decode cX5_work 15 = .ok (.getfield 7, 3) := by decide +kernel
theorem dX5_work_18 : decode cX5_work 18 = .ok (.iload_n 1, 1) := by decide +kernel
theorem dX5_work_19 : decode cX5_work 19 = .ok (.iconst 3, 1) := by decide +kernel
theorem dX5_work_20 : decode cX5_work 20 = .ok (.invokestatic 54, 3) := by decide +kernel
theorem dX5_work_23 : decode cX5_work 23 = .ok (.iaload, 1) := by decide +kernel
theorem dX5_work_24 : decode cX5_work 24 = .ok (.iconst 2, 1) := by decide +kernel
theorem dX5_work_25 : decode cX5_work 25 = .ok (.if_icmp .ne 89, 3) := by decide +kernel
theorem dX5_work_28 : decode cX5_work 28 = .ok (.aload_n 0, 1) := by decide +kernel
theorem dX5_work_29 : decode cX5_work 29 = .ok (.getfield 7, 3) := by decide +kernel
theorem dX5_work_32 : decode cX5_work 32 = .ok (.iload_n 1, 1) := by decide +kernel
theorem dX5_work_33 : decode cX5_work 33 = .ok (.iconst 4, 1) := by decide +kernel
theorem dX5_work_34 : decode cX5_work 34 = .ok (.invokestatic 54, 3) := by decide +kernel
theorem dX5_work_37 : decode cX5_work 37 = .ok (.dup2, 1) := by decide +kernel
theorem dX5_work_38 : decode cX5_work 38 = .ok (.iaload, 1) := by decide +kernel
theorem dX5_work_39 : decode cX5_work 39 = .ok (.iconst 1, 1) := by decide +kernel
theorem dX5_work_40 : decode cX5_work 40 = .ok (.isub, 1) := by decide +kernel
theorem dX5_work_41 : decode cX5_work 41 = .ok (.iastore, 1) := by decide +kernel
theorem dX5_work_42 : decode cX5_work 42 = .ok (.aload_n 0, 1) := by decide +kernel
theorem dX5_work_43 : decode cX5_work 43 = .ok (.getfield 7, 3) := by decide +kernel
theorem dX5_work_46 : decode cX5_work 46 = .ok (.iload_n 1, 1) := by decide +kernel
theorem dX5_work_47 : decode cX5_work 47 = .ok (.bipush 10, 2) := by decide +kernel
theorem dX5_work_49 : decode cX5_work 49 = .ok (.invokestatic 54, 3) := by decide +kernel
theorem dX5_work_52 : decode cX5_work 52 = .ok (.dup2, 1) := by decide +kernel
theorem dX5_work_53 : decode cX5_work 53 = .ok (.iaload, 1) := by decide +kernel
theorem dX5_work_54 : decode cX5_work 54 = .ok (.iconst 1, 1) := by decide +kernel
theorem dX5_work_55 : decode cX5_work 55 = .ok (.iadd, 1) := by decide +kernel
theorem dX5_work_56 : decode cX5_work 56 = .ok (.iastore, 1) := by decide +kernel
theorem dX5_work_57 : decode cX5_work 57 = .ok (.aload_n 0, 1) := by decide +kernel
theorem dX5_work_58 : decode cX5_work 58 = .ok (.getfield 7, 3) := by decide +kernel
theorem dX5_work_61 : decode cX5_work 61 = .ok (.iload_n 1, 1) := by decide +kernel
theorem dX5_work_62 : decode cX5_work 62 = .ok (.iconst 4, 1) := by decide +kernel
theorem dX5_work_63 : decode cX5_work 63 = .ok (.invokestatic 54, 3) := by decide +kernel
theorem dX5_work_66 : decode cX5_work 66 = .ok (.iaload, 1) := by decide +kernel
theorem dX5_work_67 : decode cX5_work 67 = .ok (.ifCond .ne 47, 3) := by decide +kernel
theorem dX5_work_70 : decode cX5_work 70 = .ok (.aload_n 0, 1) := by decide +kernel
theorem dX5_work_71 : decode cX5_work 71 = .ok (.getfield 7, 3) := by decide +kernel
theorem dX5_work_74 : decode cX5_work 74 = .ok (.iload_n 1, 1) := by decide +kernel
theorem dX5_work_75 : decode cX5_work 75 = .ok (.iconst 3, 1) := by decide +kernel
theorem dX5_work_76 : decode cX5_work 76 = .ok (.invokestatic 54, 3) := by decide +kernel
theorem dX5_work_79 : decode cX5_work 79 = .ok (.iconst 1, 1) := by decide +kernel
theorem dX5_work_80 : decode cX5_work 80 = .ok (.iastore, 1) := by decide +kernel
theorem dX5_work_81 : decode cX5_work 81 = .ok (.aload_n 0, 1) := by decide +kernel
theorem dX5_work_82 : decode cX5_work 82 = .ok (.getfield 7, 3) := by decide +kernel
theorem dX5_work_85 : decode cX5_work 85 = .ok (.iload_n 1, 1) := by decide +kernel
theorem dX5_work_86 : decode cX5_work 86 = .ok (.iconst 5, 1) := by decide +kernel
theorem dX5_work_87 : decode cX5_work 87 = .ok (.invokestatic 54, 3) := by decide +kernel
theorem dX5_work_90 : decode cX5_work 90 = .ok (.aload_n 0, 1) := by decide +kernel
theorem dX5_work_91 : decode cX5_work 91 = .ok (.getfield 7, 3) := by decide +kernel
theorem dX5_work_94 : decode cX5_work 94 = .ok (.sipush 352, 3) := by decide +kernel
theorem dX5_work_97 : decode cX5_work 97 = .ok (.iaload, 1) := by decide +kernel
theorem dX5_work_98 : decode cX5_work 98 = .ok (.iastore, 1) := by decide +kernel
theorem dX5_work_99 : decode cX5_work 99 = .ok (.aload_n 0, 1) := by decide +kernel
theorem dX5_work_100 : decode cX5_work 100 = .ok (.getfield 7, 3) := by decide +kernel
theorem dX5_work_103 : decode cX5_work 103 = .ok (.iload_n 1, 1) := by decide +kernel
theorem dX5_work_104 : decode cX5_work 104 = .ok (.bipush 12, 2) := by decide +kernel
theorem dX5_work_106 : decode cX5_work 106 = .ok (.invokestatic 54, 3) := by decide +kernel
theorem dX5_work_109 : decode cX5_work 109 = .ok (.dup2, 1) := by decide +kernel
theorem dX5_work_110 : decode cX5_work 110 = .ok (.iaload, 1) := by decide +kernel
theorem dX5_work_111 : decode cX5_work 111 = .ok (.iconst 1, 1) := by decide +kernel
theorem dX5_work_112 : decode cX5_work 112 = .ok (.iadd, 1) := by decide +kernel
theorem dX5_work_113 : decode cX5_work 113 = .ok (.iastore, 1) := by decide +kernel
theorem dX5_work_114 : decode cX5_work 114 = .ok (.iinc 1 1, 3) := by decide +kernel
theorem dX5_work_117 : decode cX5_work 117 = .ok (.goto (-115), 3) := by decide +kernel
theorem dX5_work_120 : decode cX5_work 120 = .ok (.return_, 1) := by decide +kernel
theorem dX5_use_0 : decode cX5_use 0 = .ok (.aload_n 0, 1) := by decide +kernel
theorem dX5_use_1 : decode cX5_use 1 = .ok (.getfield 7, 3) := by decide +kernel
theorem dX5_use_4 : decode cX5_use 4 = .ok (.iload_n 1, 1) := by decide +kernel
theorem dX5_use_5 : decode cX5_use 5 = .ok (.bipush 7, 2) := by decide +kernel
theorem dX5_use_7 : decode cX5_use 7 = .ok (.invokestatic 54, 3) := by decide +kernel
theorem dX5_use_10 : decode cX5_use 10 = .ok (.dup2, 1) := by decide +kernel
theorem dX5_use_11 : decode cX5_use 11 = .ok (.iaload, 1) := by decide +kernel
theorem dX5_use_12 : decode cX5_use 12 = .ok (.iconst 1, 1) := by decide +kernel
theorem dX5_use_13 : decode cX5_use 13 = .ok (.iadd, 1) := by decide +kernel
theorem dX5_use_14 : decode cX5_use 14 = .ok (.iastore, 1) := by decide +kernel
theorem dX5_use_15 : decode cX5_use 15 = .ok (.aload_n 0, 1) := by decide +kernel
theorem dX5_use_16 : decode cX5_use 16 = .ok (.getfield 7, 3) := by decide +kernel
theorem dX5_use_19 : decode cX5_use 19 = .ok (.iload_n 1, 1) := by decide +kernel
theorem dX5_use_20 : decode cX5_use 20 = .ok (.iconst 3, 1) := by decide +kernel
theorem dX5_use_21 : decode cX5_use 21 = .ok (.invokestatic 54, 3) := by decide +kernel
theorem dX5_use_24 : decode cX5_use 24 = .ok (.iaload, 1) := by decide +kernel
theorem dX5_use_25 : decode cX5_use 25 = .ok (.iconst 1, 1) := by decide +kernel
theorem dX5_use_26 : decode cX5_use 26 = .ok (.if_icmp .ne 45, 3) := by decide +kernel
theorem dX5_use_29 : decode cX5_use 29 = .ok (.aload_n 0, 1) := by decide +kernel
theorem dX5_use_30 : decode cX5_use 30 = .ok (.getfield 7, 3) := by decide +kernel
theorem dX5_use_33 : decode cX5_use 33 = .ok (.iload_n 1, 1) := by decide +kernel
theorem dX5_use_34 : decode cX5_use 34 = .ok (.iconst 5, 1) := by decide +kernel
theorem dX5_use_35 : decode cX5_use 35 = .ok (.invokestatic 54, 3) := by decide +kernel
theorem dX5_use_38 : decode cX5_use 38 = .ok (.dup2, 1) := by decide +kernel
theorem dX5_use_39 : decode cX5_use 39 = .ok (.iaload, 1) := by decide +kernel
theorem dX5_use_40 : decode cX5_use 40 = .ok (.iconst 1, 1) := by decide +kernel
theorem dX5_use_41 : decode cX5_use 41 = .ok (.isub, 1) := by decide +kernel
theorem dX5_use_42 : decode cX5_use 42 = .ok (.iastore, 1) := by decide +kernel
theorem dX5_use_43 : decode cX5_use 43 = .ok (.aload_n 0, 1) := by decide +kernel
theorem dX5_use_44 : decode cX5_use 44 = .ok (.getfield 7, 3) := by decide +kernel
theorem dX5_use_47 : decode cX5_use 47 = .ok (.iload_n 1, 1) := by decide +kernel
theorem dX5_use_48 : decode cX5_use 48 = .ok (.iconst 3, 1) := by decide +kernel
theorem dX5_use_49 : decode cX5_use 49 = .ok (.invokestatic 54, 3) := by decide +kernel
theorem dX5_use_52 : decode cX5_use 52 = .ok (.aload_n 0, 1) := by decide +kernel
theorem dX5_use_53 : decode cX5_use 53 = .ok (.getfield 7, 3) := by decide +kernel
theorem dX5_use_56 : decode cX5_use 56 = .ok (.iload_n 1, 1) := by decide +kernel
theorem dX5_use_57 : decode cX5_use 57 = .ok (.iconst 5, 1) := by decide +kernel
theorem dX5_use_58 : decode cX5_use 58 = .ok (.invokestatic 54, 3) := by decide +kernel
theorem dX5_use_61 : decode cX5_use 61 = .ok (.iaload, 1) := by decide +kernel
theorem dX5_use_62 : decode cX5_use 62 = .ok (.ifCond .ne 7, 3) := by decide +kernel
theorem dX5_use_65 : decode cX5_use 65 = .ok (.iconst 0, 1) := by decide +kernel
theorem dX5_use_66 : decode cX5_use 66 = .ok (.goto 4, 3) := by decide +kernel
theorem dX5_use_69 : decode cX5_use 69 = .ok (.iconst 1, 1) := by decide +kernel
theorem dX5_use_70 : decode cX5_use 70 = .ok (.iastore, 1) := by decide +kernel
theorem dX5_use_71 : decode cX5_use 71 = .ok (.return_, 1) := by decide +kernel
theorem dX5_find_0 : decode cX5_find 0 = .ok (.iload_n 1, 1) := by decide +kernel
theorem dX5_find_1 : decode cX5_find 1 = .ok (.aload_n 0, 1) := by decide +kernel
theorem dX5_find_2 : decode cX5_find 2 = .ok (.getfield 7, 3) := by decide +kernel
theorem dX5_find_5 : decode cX5_find 5 = .ok (.sipush 349, 3) := by decide +kernel
theorem dX5_find_8 : decode cX5_find 8 = .ok (.iaload, 1) := by decide +kernel
theorem dX5_find_9 : decode cX5_find 9 = .ok (.irem, 1) := by decide +kernel
theorem dX5_find_10 : decode cX5_find 10 = .ok (.istore_n 2, 1) := by decide +kernel
theorem dX5_find_11 : decode cX5_find 11 = .ok (.aload_n 0, 1) := by decide +kernel
theorem dX5_find_12 : decode cX5_find 12 = .ok (.iload_n 1, 1) := by decide +kernel
theorem dX5_find_13 : decode cX5_find 13 = .ok (.invokevirtual 117, 3) := by decide +kernel
theorem dX5_find_16 : decode cX5_find 16 = .ok (.istore_n 3, 1) := by decide +kernel
theorem dX5_find_17 : decode cX5_find 17 = .ok (.iload_n 3, 1) := by decide +kernel
theorem dX5_find_18 : decode cX5_find 18 = .ok (.ifCond .ge 72, 3) := by decide +kernel
theorem dX5_find_21 : decode cX5_find 21 = .ok (.aload_n 0, 1) := by decide +kernel
theorem dX5_find_22 : decode cX5_find 22 = .ok (.iload_n 1, 1) := by decide +kernel
theorem dX5_find_23 : decode cX5_find 23 = .ok (.invokevirtual 46, 3) := by decide +kernel
theorem dX5_find_26 : decode cX5_find 26 = .ok (.istore 4, 2) := by decide +kernel
theorem dX5_find_28 : decode cX5_find 28 = .ok (.iload 4, 2) := by decide +kernel
theorem dX5_find_30 : decode cX5_find 30 = .ok (.ifCond .ge 7, 3) := by decide +kernel
theorem dX5_find_33 : decode cX5_find 33 = .ok (.iconst (-1), 1) := by decide +kernel
theorem dX5_find_34 : decode cX5_find 34 = .ok (.goto 17, 3) := by decide +kernel
theorem dX5_find_37 : decode cX5_find 37 = .ok (.aload_n 0, 1) := by decide +kernel
theorem dX5_find_38 : decode cX5_find 38 = .ok (.getfield 7, 3) := by decide +kernel
theorem dX5_find_41 : decode cX5_find 41 = .ok (.bipush 104, 2) := by decide +kernel
theorem dX5_find_43 : decode cX5_find 43 = .ok (.iconst 2, 1) := by decide +kernel
theorem dX5_find_44 : decode cX5_find 44 = .ok (.iload 4, 2) := by decide +kernel
theorem dX5_find_46 : decode cX5_find 46 = .ok (.imul, 1) := by decide +kernel
theorem dX5_find_47 : decode cX5_find 47 = .ok (.iadd, 1) := by decide +kernel
theorem dX5_find_48 : decode cX5_find 48 = .ok (.iconst 1, 1) := by decide +kernel
theorem dX5_find_49 : decode cX5_find 49 = .ok (.iadd, 1) := by decide +kernel
theorem dX5_find_50 : decode cX5_find 50 = .ok (.iaload, 1) := by decide +kernel
theorem dX5_find_51 : decode cX5_find 51 = .ok (.istore 5, 2) := by decide +kernel
theorem dX5_find_53 : decode cX5_find 53 = .ok (.iload 5, 2) := by decide +kernel
theorem dX5_find_55 : decode cX5_find 55 = .ok (.iconst (-1), 1) := by decide +kernel
theorem dX5_find_56 : decode cX5_find 56 = .ok (.if_icmp .eq 26, 3) := by decide +kernel
theorem dX5_find_59 : decode cX5_find 59 = .ok (.aload_n 0, 1) := by decide +kernel
theorem dX5_find_60 : decode cX5_find 60 = .ok (.iload 5, 2) := by decide +kernel
theorem dX5_find_62 : decode cX5_find 62 = .ok (.iconst 2, 1) := by decide +kernel
theorem dX5_find_63 : decode cX5_find 63 = .ok (.invokevirtual 57, 3) := by decide +kernel
theorem dX5_find_66 : decode cX5_find 66 = .ok (.aload_n 0, 1) := by decide +kernel
theorem dX5_find_67 : decode cX5_find 67 = .ok (.getfield 7, 3) := by decide +kernel
theorem dX5_find_70 : decode cX5_find 70 = .ok (.iload 5, 2) := by decide +kernel
theorem dX5_find_72 : decode cX5_find 72 = .ok (.bipush 9, 2) := by decide +kernel
theorem dX5_find_74 : decode cX5_find 74 = .ok (.invokestatic 54, 3) := by decide +kernel
theorem dX5_find_77 : decode cX5_find 77 = .ok (.dup2, 1) := by decide +kernel
theorem dX5_find_78 : decode cX5_find 78 = .ok (.iaload, 1) := by decide +kernel
theorem dX5_find_79 : decode cX5_find 79 = .ok (.iconst 1, 1) := by decide +kernel
theorem dX5_find_80 : decode cX5_find 80 = .ok (.iadd, 1) := by decide +kernel
theorem dX5_find_81 : decode cX5_find 81 = .ok (.iastore, 1) := by decide +kernel
theorem dX5_find_82 : decode cX5_find 82 = .ok (.aload_n 0, 1) := by decide +kernel
theorem dX5_find_83 : decode cX5_find 83 = .ok (.iload_n 1, 1) := by decide +kernel
theorem dX5_find_84 : decode cX5_find 84 = .ok (.iconst (-1), 1) := by decide +kernel
theorem dX5_find_85 : decode cX5_find 85 = .ok (.invokevirtual 120, 3) := by decide +kernel
theorem dX5_find_88 : decode cX5_find 88 = .ok (.iconst 0, 1) := by decide +kernel
theorem dX5_find_89 : decode cX5_find 89 = .ok (.ireturn, 1) := by decide +kernel
theorem dX5_find_90 : decode cX5_find 90 = .ok (.aload_n 0, 1) := by decide +kernel
theorem dX5_find_91 : decode cX5_find 91 = .ok (.getfield 7, 3) := by decide +kernel
theorem dX5_find_94 : decode cX5_find 94 = .ok (.iload_n 2, 1) := by decide +kernel
theorem dX5_find_95 : decode cX5_find 95 = .ok (.iload_n 3, 1) := by decide +kernel
theorem dX5_find_96 : decode cX5_find 96 = .ok (.invokestatic 42, 3) := by decide +kernel
theorem dX5_find_99 : decode cX5_find 99 = .ok (.iconst 1, 1) := by decide +kernel
theorem dX5_find_100 : decode cX5_find 100 = .ok (.iadd, 1) := by decide +kernel
theorem dX5_find_101 : decode cX5_find 101 = .ok (.iaload, 1) := by decide +kernel
theorem dX5_find_102 : decode cX5_find 102 = .ok (.istore 4, 2) := by decide +kernel
theorem dX5_find_104 : decode cX5_find 104 = .ok (.aload_n 0, 1) := by decide +kernel
theorem dX5_find_105 : decode cX5_find 105 = .ok (.getfield 7, 3) := by decide +kernel
theorem dX5_find_108 : decode cX5_find 108 = .ok (.iload_n 2, 1) := by decide +kernel
theorem dX5_find_109 : decode cX5_find 109 = .ok (.iload_n 3, 1) := by decide +kernel
theorem dX5_find_110 : decode cX5_find 110 = .ok (.invokestatic 42, 3) := by decide +kernel
theorem dX5_find_113 : decode cX5_find 113 = .ok (.iconst 2, 1) := by decide +kernel
theorem dX5_find_114 : decode cX5_find 114 = .ok (.iadd, 1) := by decide +kernel
theorem dX5_find_115 : decode cX5_find 115 = .ok (.iaload, 1) := by decide +kernel
theorem dX5_find_116 : decode cX5_find 116 = .ok (.iconst 1, 1) := by decide +kernel
theorem dX5_find_117 : decode cX5_find 117 = .ok (.if_icmp .ne 7, 3) := by decide +kernel
theorem dX5_find_120 : decode cX5_find 120 = .ok (.iconst 1, 1) := by decide +kernel
theorem dX5_find_121 : decode cX5_find 121 = .ok (.goto 4, 3) := by decide +kernel
theorem dX5_find_124 : decode cX5_find 124 = .ok (.iconst 0, 1) := by decide +kernel
theorem dX5_find_125 : decode cX5_find 125 = .ok (.istore 5, 2) := by decide +kernel
theorem dX5_find_127 : decode cX5_find 127 = .ok (.aload_n 0, 1) := by decide +kernel
theorem dX5_find_128 : decode cX5_find 128 = .ok (.iload_n 2, 1) := by decide +kernel
theorem dX5_find_129 : decode cX5_find 129 = .ok (.iload_n 3, 1) := by decide +kernel
theorem dX5_find_130 : decode cX5_find 130 = .ok (.invokevirtual 60, 3) := by decide +kernel
theorem dX5_find_133 : decode cX5_find 133 = .ok (.aload_n 0, 1) := by decide +kernel
theorem dX5_find_134 : decode cX5_find 134 = .ok (.iload_n 2, 1) := by decide +kernel
theorem dX5_find_135 : decode cX5_find 135 = .ok (.iload_n 1, 1) := by decide +kernel
theorem dX5_find_136 : decode cX5_find 136 = .ok (.iload 4, 2) := by decide +kernel
theorem dX5_find_138 : decode cX5_find 138 = .ok (.iconst 0, 1) := by decide +kernel
theorem dX5_find_139 : decode cX5_find 139 = .ok (.invokevirtual 69, 3) := by decide +kernel
theorem dX5_find_142 : decode cX5_find 142 = .ok (.iload 5, 2) := by decide +kernel
theorem dX5_find_144 : decode cX5_find 144 = .ok (.ifCond .eq 9, 3) := by decide +kernel
theorem dX5_find_147 : decode cX5_find 147 = .ok (.aload_n 0, 1) := by decide +kernel
theorem dX5_find_148 : decode cX5_find 148 = .ok (.iload 4, 2) := by decide +kernel
theorem dX5_find_150 : decode cX5_find 150 = .ok (.invokevirtual 123, 3) := by decide +kernel
theorem dX5_find_153 : decode cX5_find 153 = .ok (.iload 5, 2) := by decide +kernel
theorem dX5_find_155 : decode cX5_find 155 = .ok (.ifCond .eq 7, 3) := by decide +kernel
theorem dX5_find_158 : decode cX5_find 158 = .ok (.iconst 2, 1) := by decide +kernel
theorem dX5_find_159 : decode cX5_find 159 = .ok (.goto 4, 3) := by decide +kernel
theorem dX5_find_162 : decode cX5_find 162 = .ok (.iconst 1, 1) := by decide +kernel
theorem dX5_find_163 : decode cX5_find 163 = .ok (.ireturn, 1) := by decide +kernel
theorem dX5_go_0 : decode cX5_go 0 = .ok (.aload_n 0, 1) := by decide +kernel
theorem dX5_go_1 : decode cX5_go 1 = .ok (.invokevirtual 126, 3) := by decide +kernel
theorem dX5_go_4 : decode cX5_go 4 = .ok (.aload_n 0, 1) := by decide +kernel
theorem dX5_go_5 : decode cX5_go 5 = .ok (.iload_n 2, 1) := by decide +kernel
theorem dX5_go_6 : decode cX5_go 6 = .ok (.invokevirtual 129, 3) := by decide +kernel
theorem dX5_go_9 : decode cX5_go 9 = .ok (.istore_n 3, 1) := by decide +kernel
theorem dX5_go_10 : decode cX5_go 10 = .ok (.iconst 0, 1) := by decide +kernel
theorem dX5_go_11 : decode cX5_go 11 = .ok (.istore 4, 2) := by decide +kernel
theorem dX5_go_13 : decode cX5_go 13 = .ok (.iconst 0, 1) := by decide +kernel
theorem dX5_go_14 : decode cX5_go 14 = .ok (.istore 5, 2) := by decide +kernel
theorem dX5_go_16 : decode cX5_go 16 = .ok (.iload 5, 2) := by decide +kernel
theorem dX5_go_18 : decode cX5_go 18 = .ok (.aload_n 0, 1) := by decide +kernel
theorem dX5_go_19 : decode cX5_go 19 = .ok (.getfield 7, 3) := by decide +kernel
theorem dX5_go_22 : decode cX5_go 22 = .ok (.sipush 351, 3) := by decide +kernel
theorem dX5_go_25 : decode cX5_go 25 = .ok (.iaload, 1) := by decide +kernel
theorem dX5_go_26 : decode cX5_go 26 = .ok (.if_icmp .ge 30, 3) := by decide +kernel
theorem dX5_go_29 : decode cX5_go 29 = .ok (.aload_n 0, 1) := by decide +kernel
theorem dX5_go_30 : decode cX5_go 30 = .ok (.iload 5, 2) := by decide +kernel
theorem dX5_go_32 : decode cX5_go 32 = .ok (.iload_n 1, 1) := by decide +kernel
theorem dX5_go_33 : decode cX5_go 33 = .ok (.iload_n 2, 1) := by decide +kernel
theorem dX5_go_34 : decode cX5_go 34 = .ok (.iload_n 3, 1) := by decide +kernel
theorem dX5_go_35 : decode cX5_go 35 = .ok (.invokevirtual 132, 3) := by decide +kernel
theorem dX5_go_38 : decode cX5_go 38 = .ok (.iload 4, 2) := by decide +kernel
theorem dX5_go_40 : decode cX5_go 40 = .ok (.aload_n 0, 1) := by decide +kernel
theorem dX5_go_41 : decode cX5_go 41 = .ok (.iload 5, 2) := by decide +kernel
theorem dX5_go_43 : decode cX5_go 43 = .ok (.iload_n 2, 1) := by decide +kernel
theorem dX5_go_44 : decode cX5_go 44 = .ok (.invokevirtual 135, 3) := by decide +kernel
theorem dX5_go_47 : decode cX5_go 47 = .ok (.iadd, 1) := by decide +kernel
theorem dX5_go_48 : decode cX5_go 48 = .ok (.istore 4, 2) := by decide +kernel
theorem dX5_go_50 : decode cX5_go 50 = .ok (.iinc 5 1, 3) := by decide +kernel
theorem dX5_go_53 : decode cX5_go 53 = .ok (.goto (-37), 3) := by decide +kernel
theorem dX5_go_56 : decode cX5_go 56 = .ok (.sipush 300, 3) := by decide +kernel
theorem dX5_go_59 : decode cX5_go 59 = .ok (.iconst 4, 1) := by decide +kernel
theorem dX5_go_60 : decode cX5_go 60 = .ok (.aload_n 0, 1) := by decide +kernel
theorem dX5_go_61 : decode cX5_go 61 = .ok (.getfield 7, 3) := by decide +kernel
theorem dX5_go_64 : decode cX5_go 64 = .ok (.sipush 353, 3) := by decide +kernel
theorem dX5_go_67 : decode cX5_go 67 = .ok (.iaload, 1) := by decide +kernel
theorem dX5_go_68 : decode cX5_go 68 = .ok (.bipush 12, 2) := by decide +kernel
theorem dX5_go_70 : decode cX5_go 70 = .ok (.irem, 1) := by decide +kernel
theorem dX5_go_71 : decode cX5_go 71 = .ok (.imul, 1) := by decide +kernel
theorem dX5_go_72 : decode cX5_go 72 = .ok (.iadd, 1) := by decide +kernel
theorem dX5_go_73 : decode cX5_go 73 = .ok (.istore 5, 2) := by decide +kernel
theorem dX5_go_75 : decode cX5_go 75 = .ok (.aload_n 0, 1) := by decide +kernel
theorem dX5_go_76 : decode cX5_go 76 = .ok (.getfield 7, 3) := by decide +kernel
theorem dX5_go_79 : decode cX5_go 79 = .ok (.iload 5, 2) := by decide +kernel
theorem dX5_go_81 : decode cX5_go 81 = .ok (.iload_n 1, 1) := by decide +kernel
theorem dX5_go_82 : decode cX5_go 82 = .ok (.iastore, 1) := by decide +kernel
theorem dX5_go_83 : decode cX5_go 83 = .ok (.aload_n 0, 1) := by decide +kernel
theorem dX5_go_84 : decode cX5_go 84 = .ok (.getfield 7, 3) := by decide +kernel
theorem dX5_go_87 : decode cX5_go 87 = .ok (.iload 5, 2) := by decide +kernel
theorem dX5_go_89 : decode cX5_go 89 = .ok (.iconst 1, 1) := by decide +kernel
theorem dX5_go_90 : decode cX5_go 90 = .ok (.iadd, 1) := by decide +kernel
theorem dX5_go_91 : decode cX5_go 91 = .ok (.iload_n 2, 1) := by decide +kernel
theorem dX5_go_92 : decode cX5_go 92 = .ok (.iastore, 1) := by decide +kernel
theorem dX5_go_93 : decode cX5_go 93 = .ok (.aload_n 0, 1) := by decide +kernel
theorem dX5_go_94 : decode cX5_go 94 = .ok (.getfield 7, 3) := by decide +kernel
theorem dX5_go_97 : decode cX5_go 97 = .ok (.iload 5, 2) := by decide +kernel
theorem dX5_go_99 : decode cX5_go 99 = .ok (.iconst 2, 1) := by decide +kernel
theorem dX5_go_100 : decode cX5_go 100 = .ok (.iadd, 1) := by decide +kernel
theorem dX5_go_101 : decode cX5_go 101 = .ok (.iload_n 3, 1) := by decide +kernel
theorem dX5_go_102 : decode cX5_go 102 = .ok (.iastore, 1) := by decide +kernel
theorem dX5_go_103 : decode cX5_go 103 = .ok (.aload_n 0, 1) := by decide +kernel
theorem dX5_go_104 : decode cX5_go 104 = .ok (.getfield 7, 3) := by decide +kernel
theorem dX5_go_107 : decode cX5_go 107 = .ok (.iload 5, 2) := by decide +kernel
theorem dX5_go_109 : decode cX5_go 109 = .ok (.iconst 3, 1) := by decide +kernel
theorem dX5_go_110 : decode cX5_go 110 = .ok (.iadd, 1) := by decide +kernel
theorem dX5_go_111 : decode cX5_go 111 = .ok (.iload 4, 2) := by decide +kernel
theorem dX5_go_113 : decode cX5_go 113 = .ok (.iastore, 1) := by decide +kernel
theorem dX5_go_114 : decode cX5_go 114 = .ok (.aload_n 0, 1) := by decide +kernel
theorem dX5_go_115 : decode cX5_go 115 = .ok (.getfield 7, 3) := by decide +kernel
theorem dX5_go_118 : decode cX5_go 118 = .ok (.sipush 353, 3) := by decide +kernel
theorem dX5_go_121 : decode cX5_go 121 = .ok (.dup2, 1) := by decide +kernel
theorem dX5_go_122 : decode cX5_go 122 = .ok (.iaload, 1) := by decide +kernel
theorem dX5_go_123 : decode cX5_go 123 = .ok (.iconst 1, 1) := by decide +kernel
theorem dX5_go_124 : decode cX5_go 124 = .ok (.iadd, 1) := by decide +kernel
theorem dX5_go_125 : decode cX5_go 125 = .ok (.iastore, 1) := by decide +kernel
theorem dX5_go_126 : decode cX5_go 126 = .ok (.aload_n 0, 1) := by decide +kernel
theorem dX5_go_127 : decode cX5_go 127 = .ok (.getfield 7, 3) := by decide +kernel
theorem dX5_go_130 : decode cX5_go 130 = .ok (.sipush 354, 3) := by decide +kernel
theorem dX5_go_133 : decode cX5_go 133 = .ok (.dup2, 1) := by decide +kernel
theorem dX5_go_134 : decode cX5_go 134 = .ok (.iaload, 1) := by decide +kernel
theorem dX5_go_135 : decode cX5_go 135 = .ok (.iload_n 3, 1) := by decide +kernel
theorem dX5_go_136 : decode cX5_go 136 = .ok (.ifCond .ne 7, 3) := by decide +kernel
theorem dX5_go_139 : decode cX5_go 139 = .ok (.iconst 0, 1) := by decide +kernel
theorem dX5_go_140 : decode cX5_go 140 = .ok (.goto 4, 3) := by decide +kernel
theorem dX5_go_143 : decode cX5_go 143 = .ok (.iconst 1, 1) := by decide +kernel
theorem dX5_go_144 : decode cX5_go 144 = .ok (.iadd, 1) := by decide +kernel
theorem dX5_go_145 : decode cX5_go 145 = .ok (.iastore, 1) := by decide +kernel
theorem dX5_go_146 : decode cX5_go 146 = .ok (.aload_n 0, 1) := by decide +kernel
theorem dX5_go_147 : decode cX5_go 147 = .ok (.getfield 7, 3) := by decide +kernel
theorem dX5_go_150 : decode cX5_go 150 = .ok (.sipush 355, 3) := by decide +kernel
theorem dX5_go_153 : decode cX5_go 153 = .ok (.dup2, 1) := by decide +kernel
theorem dX5_go_154 : decode cX5_go 154 = .ok (.iaload, 1) := by decide +kernel
theorem dX5_go_155 : decode cX5_go 155 = .ok (.iload_n 3, 1) := by decide +kernel
theorem dX5_go_156 : decode cX5_go 156 = .ok (.iconst 2, 1) := by decide +kernel
theorem dX5_go_157 : decode cX5_go 157 = .ok (.if_icmp .ne 7, 3) := by decide +kernel
theorem dX5_go_160 : decode cX5_go 160 = .ok (.iconst 1, 1) := by decide +kernel
theorem dX5_go_161 : decode cX5_go 161 = .ok (.goto 4, 3) := by decide +kernel
theorem dX5_go_164 : decode cX5_go 164 = .ok (.iconst 0, 1) := by decide +kernel
theorem dX5_go_165 : decode cX5_go 165 = .ok (.iadd, 1) := by decide +kernel
theorem dX5_go_166 : decode cX5_go 166 = .ok (.iastore, 1) := by decide +kernel
theorem dX5_go_167 : decode cX5_go 167 = .ok (.aload_n 0, 1) := by decide +kernel
theorem dX5_go_168 : decode cX5_go 168 = .ok (.getfield 7, 3) := by decide +kernel
theorem dX5_go_171 : decode cX5_go 171 = .ok (.sipush 356, 3) := by decide +kernel
theorem dX5_go_174 : decode cX5_go 174 = .ok (.dup2, 1) := by decide +kernel
theorem dX5_go_175 : decode cX5_go 175 = .ok (.iaload, 1) := by decide +kernel
theorem dX5_go_176 : decode cX5_go 176 = .ok (.iload 4, 2) := by decide +kernel
theorem dX5_go_178 : decode cX5_go 178 = .ok (.iadd, 1) := by decide +kernel
theorem dX5_go_179 : decode cX5_go 179 = .ok (.iastore, 1) := by decide +kernel
theorem dX5_go_180 : decode cX5_go 180 = .ok (.iload_n 3, 1) := by decide +kernel
theorem dX5_go_181 : decode cX5_go 181 = .ok (.ireturn, 1) := by decide +kernel
theorem dX5_isAccess_0 : decode cX5_isAccess 0 = .ok (.iload_n 0, 1) := by decide +kernel
theorem dX5_isAccess_1 : decode cX5_isAccess 1 = .ok (.iconst 0, 1) := by decide +kernel
theorem dX5_isAccess_2 : decode cX5_isAccess 2 = .ok (.bipush 15, 2) := by decide +kernel
theorem dX5_isAccess_4 : decode cX5_isAccess 4 = .ok (.invokestatic 23, 3) := by decide +kernel
theorem dX5_isAccess_7 : decode cX5_isAccess 7 = .ok (.ifCond .eq 14, 3) := by decide +kernel
theorem dX5_isAccess_10 : decode cX5_isAccess 10 = .ok (.iload_n 1, 1) := by decide +kernel
theorem dX5_isAccess_11 : decode cX5_isAccess 11 = .ok (.invokestatic 111, 3) := by decide +kernel
theorem dX5_isAccess_14 : decode cX5_isAccess 14 = .ok (.ifCond .eq 7, 3) := by decide +kernel
theorem dX5_isAccess_17 : decode cX5_isAccess 17 = .ok (.iconst 1, 1) := by decide +kernel
theorem dX5_isAccess_18 : decode cX5_isAccess 18 = .ok (.goto 4, 3) := by decide +kernel
theorem dX5_isAccess_21 : decode cX5_isAccess 21 = .ok (.iconst 0, 1) := by decide +kernel
theorem dX5_isAccess_22 : decode cX5_isAccess 22 = .ok (.ireturn, 1) := by decide +kernel
theorem dX5_access_0 : decode cX5_access 0 = .ok (.iload_n 1, 1) := by decide +kernel
theorem dX5_access_1 : decode cX5_access 1 = .ok (.iload_n 2, 1) := by decide +kernel
theorem dX5_access_2 : decode cX5_access 2 = .ok (.invokestatic 138, 3) := by decide +kernel
theorem dX5_access_5 : decode cX5_access 5 = .ok (.ifCond .ne 6, 3) := by decide +kernel
theorem dX5_access_8 : decode cX5_access 8 = .ok (.ldc 77, 2) := by decide +kernel
theorem dX5_access_10 : decode cX5_access 10 = .ok (.ireturn, 1) := by decide +kernel
theorem dX5_access_11 : decode cX5_access 11 = .ok (.aload_n 0, 1) := by decide +kernel
theorem dX5_access_12 : decode cX5_access 12 = .ok (.invokevirtual 39, 3) := by decide +kernel
theorem dX5_access_15 : decode cX5_access 15 = .ok (.aload_n 0, 1) := by decide +kernel
theorem dX5_access_16 : decode cX5_access 16 = .ok (.iload_n 1, 1) := by decide +kernel
theorem dX5_access_17 : decode cX5_access 17 = .ok (.iload_n 2, 1) := by decide +kernel
theorem dX5_access_18 : decode cX5_access 18 = .ok (.invokevirtual 142, 3) := by decide +kernel
theorem dX5_access_21 : decode cX5_access 21 = .ok (.ireturn, 1) := by decide +kernel
theorem dX5_isWalk_0 : decode cX5_isWalk 0 = .ok (.iload_n 0, 1) := by decide +kernel
theorem dX5_isWalk_1 : decode cX5_isWalk 1 = .ok (.iload_n 1, 1) := by decide +kernel
theorem dX5_isWalk_2 : decode cX5_isWalk 2 = .ok (.invokestatic 138, 3) := by decide +kernel
theorem dX5_isWalk_5 : decode cX5_isWalk 5 = .ok (.ifCond .eq 43, 3) := by decide +kernel
theorem dX5_isWalk_8 : decode cX5_isWalk 8 = .ok (.iload_n 2, 1) := by decide +kernel
theorem dX5_isWalk_9 : decode cX5_isWalk 9 = .ok (.sipush (-999), 3) := by decide +kernel
theorem dX5_isWalk_12 : decode cX5_isWalk 12 = .ok (.sipush 999, 3) := by decide +kernel
theorem dX5_isWalk_15 : decode cX5_isWalk 15 = .ok (.invokestatic 23, 3) := by decide +kernel
theorem dX5_isWalk_18 : decode cX5_isWalk 18 = .ok (.ifCond .eq 30, 3) := by decide +kernel
theorem dX5_isWalk_21 : decode cX5_isWalk 21 = .ok (.iload_n 3, 1) := by decide +kernel
theorem dX5_isWalk_22 : decode cX5_isWalk 22 = .ok (.iconst 1, 1) := by decide +kernel
theorem dX5_isWalk_23 : decode cX5_isWalk 23 = .ok (.bipush 30, 2) := by decide +kernel
theorem dX5_isWalk_25 : decode cX5_isWalk 25 = .ok (.invokestatic 23, 3) := by decide +kernel
theorem dX5_isWalk_28 : decode cX5_isWalk 28 = .ok (.ifCond .eq 20, 3) := by decide +kernel
theorem dX5_isWalk_31 : decode cX5_isWalk 31 = .ok (.iload_n 1, 1) := by decide +kernel
theorem dX5_isWalk_32 : decode cX5_isWalk 32 = .ok (.iload_n 2, 1) := by decide +kernel
theorem dX5_isWalk_33 : decode cX5_isWalk 33 = .ok (.iload_n 3, 1) := by decide +kernel
theorem dX5_isWalk_34 : decode cX5_isWalk 34 = .ok (.iconst 1, 1) := by decide +kernel
theorem dX5_isWalk_35 : decode cX5_isWalk 35 = .ok (.isub, 1) := by decide +kernel
theorem dX5_isWalk_36 : decode cX5_isWalk 36 = .ok (.imul, 1) := by decide +kernel
theorem dX5_isWalk_37 : decode cX5_isWalk 37 = .ok (.iadd, 1) := by decide +kernel
theorem dX5_isWalk_38 : decode cX5_isWalk 38 = .ok (.invokestatic 111, 3) := by decide +kernel
theorem dX5_isWalk_41 : decode cX5_isWalk 41 = .ok (.ifCond .eq 7, 3) := by decide +kernel
theorem dX5_isWalk_44 : decode cX5_isWalk 44 = .ok (.iconst 1, 1) := by decide +kernel
theorem dX5_isWalk_45 : decode cX5_isWalk 45 = .ok (.goto 4, 3) := by decide +kernel
theorem dX5_isWalk_48 : decode cX5_isWalk 48 = .ok (.iconst 0, 1) := by decide +kernel
theorem dX5_isWalk_49 : decode cX5_isWalk 49 = .ok (.ireturn, 1) := by decide +kernel
theorem dX5_goOn_0 : decode cX5_goOn 0 = .ok (.iconst 0, 1) := by decide +kernel
theorem dX5_goOn_1 : decode cX5_goOn 1 = .ok (.istore 5, 2) := by decide +kernel
theorem dX5_goOn_3 : decode cX5_goOn 3 = .ok (.iconst 0, 1) := by decide +kernel
theorem dX5_goOn_4 : decode cX5_goOn 4 = .ok (.istore 6, 2) := by decide +kernel
theorem dX5_goOn_6 : decode cX5_goOn 6 = .ok (.iload 6, 2) := by decide +kernel
theorem dX5_goOn_8 : decode cX5_goOn 8 = .ok (.iload 4, 2) := by decide +kernel
theorem dX5_goOn_10 : decode cX5_goOn 10 = .ok (.if_icmp .ge 33, 3) := by decide +kernel
theorem dX5_goOn_13 : decode cX5_goOn 13 = .ok (.iload 5, 2) := by decide +kernel
theorem dX5_goOn_15 : decode cX5_goOn 15 = .ok (.aload_n 0, 1) := by decide +kernel
theorem dX5_goOn_16 : decode cX5_goOn 16 = .ok (.iload_n 1, 1) := by decide +kernel
theorem dX5_goOn_17 : decode cX5_goOn 17 = .ok (.iload_n 2, 1) := by decide +kernel
theorem dX5_goOn_18 : decode cX5_goOn 18 = .ok (.iload 6, 2) := by decide +kernel
theorem dX5_goOn_20 : decode cX5_goOn 20 = .ok (.iload_n 3, 1) := by decide +kernel
theorem dX5_goOn_21 : decode cX5_goOn 21 = .ok (.imul, 1) := by decide +kernel
theorem dX5_goOn_22 : decode cX5_goOn 22 = .ok (.iadd, 1) := by decide +kernel
theorem dX5_goOn_23 : decode cX5_goOn 23 = .ok (.invokevirtual 142, 3) := by decide +kernel
theorem dX5_goOn_26 : decode cX5_goOn 26 = .ok (.ifCond .ne 7, 3) := by decide +kernel
theorem dX5_goOn_29 : decode cX5_goOn 29 = .ok (.iconst 0, 1) := by decide +kernel
theorem dX5_goOn_30 : decode cX5_goOn 30 = .ok (.goto 4, 3) := by decide +kernel
theorem dX5_goOn_33 : decode cX5_goOn 33 = .ok (.iconst 1, 1) := by decide +kernel
theorem dX5_goOn_34 : decode cX5_goOn 34 = .ok (.iadd, 1) := by decide +kernel
theorem dX5_goOn_35 : decode cX5_goOn 35 = .ok (.istore 5, 2) := by decide +kernel
theorem dX5_goOn_37 : decode cX5_goOn 37 = .ok (.iinc 6 1, 3) := by decide +kernel
theorem dX5_goOn_40 : decode cX5_goOn 40 = .ok (.goto (-34), 3) := by decide +kernel
theorem dX5_goOn_43 : decode cX5_goOn 43 = .ok (.iload 5, 2) := by decide +kernel
theorem dX5_goOn_45 : decode cX5_goOn 45 = .ok (.ireturn, 1) := by decide +kernel
theorem dX5_walk_0 : decode cX5_walk 0 = .ok (.iload_n 1, 1) := by decide +kernel
theorem dX5_walk_1 : decode cX5_walk 1 = .ok (.iload_n 2, 1) := by decide +kernel
theorem dX5_walk_2 : decode cX5_walk 2 = .ok (.iload_n 3, 1) := by decide +kernel
theorem dX5_walk_3 : decode cX5_walk 3 = .ok (.iload 4, 2) := by decide +kernel
theorem dX5_walk_5 : decode cX5_walk 5 = .ok (.invokestatic 145, 3) := by decide +kernel
theorem dX5_walk_8 : decode cX5_walk 8 = .ok (.ifCond .ne 6, 3) := by decide +kernel
theorem dX5_walk_11 : decode cX5_walk 11 = .ok (.ldc 77, 2) := by decide +kernel
theorem dX5_walk_13 : decode cX5_walk 13 = .ok (.ireturn, 1) := by decide +kernel
theorem dX5_walk_14 : decode cX5_walk 14 = .ok (.aload_n 0, 1) := by decide +kernel
theorem dX5_walk_15 : decode cX5_walk 15 = .ok (.invokevirtual 39, 3) := by decide +kernel
theorem dX5_walk_18 : decode cX5_walk 18 = .ok (.aload_n 0, 1) := by decide +kernel
theorem dX5_walk_19 : decode cX5_walk 19 = .ok (.iload_n 1, 1) := by decide +kernel
theorem dX5_walk_20 : decode cX5_walk 20 = .ok (.iload_n 2, 1) := by decide +kernel
theorem dX5_walk_21 : decode cX5_walk 21 = .ok (.iload_n 3, 1) := by decide +kernel
theorem dX5_walk_22 : decode cX5_walk 22 = .ok (.iload 4, 2) := by decide +kernel
theorem dX5_walk_24 : decode cX5_walk 24 = .ok (.invokevirtual 149, 3) := by decide +kernel
theorem dX5_walk_27 : decode cX5_walk 27 = .ok (.ireturn, 1) := by decide +kernel
theorem dX5_wouldHit_0 : decode cX5_wouldHit 0 = .ok (.iload_n 1, 1) := by decide +kernel
theorem dX5_wouldHit_1 : decode cX5_wouldHit 1 = .ok (.iload_n 2, 1) := by decide +kernel
theorem dX5_wouldHit_2 : decode cX5_wouldHit 2 = .ok (.iload_n 3, 1) := by decide +kernel
theorem dX5_wouldHit_3 : decode cX5_wouldHit 3 = .ok (.iload 4, 2) := by decide +kernel
theorem dX5_wouldHit_5 : decode cX5_wouldHit 5 = .ok (.invokestatic 145, 3) := by decide +kernel
theorem dX5_wouldHit_8 : decode cX5_wouldHit 8 = .ok (.ifCond .ne 6, 3) := by decide +kernel
theorem dX5_wouldHit_11 : decode cX5_wouldHit 11 = .ok (.ldc 77, 2) := by decide +kernel
theorem dX5_wouldHit_13 : decode cX5_wouldHit 13 = .ok (.ireturn, 1) := by decide +kernel
theorem dX5_wouldHit_14 : decode cX5_wouldHit 14 = .ok (.aload_n 0, 1) := by decide +kernel
theorem dX5_wouldHit_15 : decode cX5_wouldHit 15 = .ok (.iconst 0, 1) := by decide +kernel
theorem dX5_wouldHit_16 : decode cX5_wouldHit 16 = .ok (.sipush 2148, 3) := by decide +kernel
theorem dX5_wouldHit_19 : decode cX5_wouldHit 19 = .ok (.invokevirtual 30, 3) := by decide +kernel
theorem dX5_wouldHit_22 : decode cX5_wouldHit 22 = .ok (.aload_n 0, 1) := by decide +kernel
theorem dX5_wouldHit_23 : decode cX5_wouldHit 23 = .ok (.iload_n 1, 1) := by decide +kernel
theorem dX5_wouldHit_24 : decode cX5_wouldHit 24 = .ok (.iload_n 2, 1) := by decide +kernel
theorem dX5_wouldHit_25 : decode cX5_wouldHit 25 = .ok (.iload_n 3, 1) := by decide +kernel
theorem dX5_wouldHit_26 : decode cX5_wouldHit 26 = .ok (.iload 4, 2) := by decide +kernel
theorem dX5_wouldHit_28 : decode cX5_wouldHit 28 = .ok (.invokevirtual 149, 3) := by decide +kernel
theorem dX5_wouldHit_31 : decode cX5_wouldHit 31 = .ok (.istore 5, 2) := by decide +kernel
theorem dX5_wouldHit_33 : decode cX5_wouldHit 33 = .ok (.aload_n 0, 1) := by decide +kernel
theorem dX5_wouldHit_34 : decode cX5_wouldHit 34 = .ok (.sipush 2148, 3) := by decide +kernel
theorem dX5_wouldHit_37 : decode cX5_wouldHit 37 = .ok (.iconst 0, 1) := by decide +kernel
theorem dX5_wouldHit_38 : decode cX5_wouldHit 38 = .ok (.invokevirtual 30, 3) := by decide +kernel
theorem dX5_wouldHit_41 : decode cX5_wouldHit 41 = .ok (.iload 5, 2) := by decide +kernel
theorem dX5_wouldHit_43 : decode cX5_wouldHit 43 = .ok (.ireturn, 1) := by decide +kernel
theorem dX5_wouldAsk_0 : decode cX5_wouldAsk 0 = .ok (.aload_n 0, 1) := by decide +kernel
theorem dX5_wouldAsk_1 : decode cX5_wouldAsk 1 = .ok (.iload_n 1, 1) := by decide +kernel
theorem dX5_wouldAsk_2 : decode cX5_wouldAsk 2 = .ok (.invokevirtual 82, 3) := by decide +kernel
theorem dX5_wouldAsk_5 : decode cX5_wouldAsk 5 = .ok (.ifCond .ne 6, 3) := by decide +kernel
theorem dX5_wouldAsk_8 : decode cX5_wouldAsk 8 = .ok (.ldc 86, 2) := by decide +kernel
theorem dX5_wouldAsk_10 : decode cX5_wouldAsk 10 = .ok (.ireturn, 1) := by decide +kernel
theorem dX5_wouldAsk_11 : decode cX5_wouldAsk 11 = .ok (.iload_n 2, 1) := by decide +kernel
theorem dX5_wouldAsk_12 : decode cX5_wouldAsk 12 = .ok (.iload_n 3, 1) := by decide +kernel
theorem dX5_wouldAsk_13 : decode cX5_wouldAsk 13 = .ok (.invokestatic 138, 3) := by decide +kernel
theorem dX5_wouldAsk_16 : decode cX5_wouldAsk 16 = .ok (.ifCond .eq 8, 3) := by decide +kernel
theorem dX5_wouldAsk_19 : decode cX5_wouldAsk 19 = .ok (.iload 4, 2) := by decide +kernel
theorem dX5_wouldAsk_21 : decode cX5_wouldAsk 21 = .ok (.ifCond .ge 6, 3) := by decide +kernel
theorem dX5_wouldAsk_24 : decode cX5_wouldAsk 24 = .ok (.ldc 77, 2) := by decide +kernel
theorem dX5_wouldAsk_26 : decode cX5_wouldAsk 26 = .ok (.ireturn, 1) := by decide +kernel
theorem dX5_wouldAsk_27 : decode cX5_wouldAsk 27 = .ok (.aload_n 0, 1) := by decide +kernel
theorem dX5_wouldAsk_28 : decode cX5_wouldAsk 28 = .ok (.iconst 0, 1) := by decide +kernel
theorem dX5_wouldAsk_29 : decode cX5_wouldAsk 29 = .ok (.sipush 2148, 3) := by decide +kernel
theorem dX5_wouldAsk_32 : decode cX5_wouldAsk 32 = .ok (.invokevirtual 30, 3) := by decide +kernel
theorem dX5_wouldAsk_35 : decode cX5_wouldAsk 35 = .ok (.aload_n 0, 1) := by decide +kernel
theorem dX5_wouldAsk_36 : decode cX5_wouldAsk 36 = .ok (.iload_n 1, 1) := by decide +kernel
theorem dX5_wouldAsk_37 : decode cX5_wouldAsk 37 = .ok (.putfield 16, 3) := by decide +kernel
theorem dX5_wouldAsk_40 : decode cX5_wouldAsk 40 = .ok (.aload_n 0, 1) := by decide +kernel
theorem dX5_wouldAsk_41 : decode cX5_wouldAsk 41 = .ok (.iconst 0, 1) := by decide +kernel
theorem dX5_wouldAsk_42 : decode cX5_wouldAsk 42 = .ok (.putfield 114, 3) := by decide +kernel
theorem dX5_wouldAsk_45 : decode cX5_wouldAsk 45 = .ok (.aload_n 0, 1) := by decide +kernel
theorem dX5_wouldAsk_46 : decode cX5_wouldAsk 46 = .ok (.iload_n 2, 1) := by decide +kernel
theorem dX5_wouldAsk_47 : decode cX5_wouldAsk 47 = .ok (.iload_n 3, 1) := by decide +kernel
theorem dX5_wouldAsk_48 : decode cX5_wouldAsk 48 = .ok (.invokevirtual 142, 3) := by decide +kernel
theorem dX5_wouldAsk_51 : decode cX5_wouldAsk 51 = .ok (.pop, 1) := by decide +kernel
theorem dX5_wouldAsk_52 : decode cX5_wouldAsk 52 = .ok (.aload_n 0, 1) := by decide +kernel
theorem dX5_wouldAsk_53 : decode cX5_wouldAsk 53 = .ok (.iconst (-1), 1) := by decide +kernel
theorem dX5_wouldAsk_54 : decode cX5_wouldAsk 54 = .ok (.putfield 16, 3) := by decide +kernel
theorem dX5_wouldAsk_57 : decode cX5_wouldAsk 57 = .ok (.aload_n 0, 1) := by decide +kernel
theorem dX5_wouldAsk_58 : decode cX5_wouldAsk 58 = .ok (.sipush 2148, 3) := by decide +kernel
theorem dX5_wouldAsk_61 : decode cX5_wouldAsk 61 = .ok (.iconst 0, 1) := by decide +kernel
theorem dX5_wouldAsk_62 : decode cX5_wouldAsk 62 = .ok (.invokevirtual 30, 3) := by decide +kernel
theorem dX5_wouldAsk_65 : decode cX5_wouldAsk 65 = .ok (.iload 4, 2) := by decide +kernel
theorem dX5_wouldAsk_67 : decode cX5_wouldAsk 67 = .ok (.aload_n 0, 1) := by decide +kernel
theorem dX5_wouldAsk_68 : decode cX5_wouldAsk 68 = .ok (.getfield 114, 3) := by decide +kernel
theorem dX5_wouldAsk_71 : decode cX5_wouldAsk 71 = .ok (.if_icmp .ge 13, 3) := by decide +kernel
theorem dX5_wouldAsk_74 : decode cX5_wouldAsk 74 = .ok (.aload_n 0, 1) := by decide +kernel
theorem dX5_wouldAsk_75 : decode cX5_wouldAsk 75 = .ok (.getfield 20, 3) := by decide +kernel
theorem dX5_wouldAsk_78 : decode cX5_wouldAsk 78 = .ok (.iload 4, 2) := by decide +kernel
theorem dX5_wouldAsk_80 : decode cX5_wouldAsk 80 = .ok (.iaload, 1) := by decide +kernel
theorem dX5_wouldAsk_81 : decode cX5_wouldAsk 81 = .ok (.goto 5, 3) := by decide +kernel
theorem dX5_wouldAsk_84 : decode cX5_wouldAsk 84 = .ok (.ldc 34, 2) := by decide +kernel
theorem dX5_wouldAsk_86 : decode cX5_wouldAsk 86 = .ok (.ireturn, 1) := by decide +kernel
theorem dX5_type_0 : decode cX5_type 0 = .ok (.aload_n 0, 1) := by decide +kernel
theorem dX5_type_1 : decode cX5_type 1 = .ok (.getfield 153, 3) := by decide +kernel
theorem dX5_type_4 : decode cX5_type 4 = .ok (.bipush 80, 2) := by decide +kernel
theorem dX5_type_6 : decode cX5_type 6 = .ok (.if_icmp .ne 6, 3) := by decide +kernel
theorem dX5_type_9 : decode cX5_type 9 = .ok (.ldc 81, 2) := by decide +kernel
theorem dX5_type_11 : decode cX5_type 11 = .ok (.ireturn, 1) := by decide +kernel
theorem dX5_type_12 : decode cX5_type 12 = .ok (.aload_n 0, 1) := by decide +kernel
theorem dX5_type_13 : decode cX5_type 13 = .ok (.getfield 13, 3) := by decide +kernel
theorem dX5_type_16 : decode cX5_type 16 = .ok (.aload_n 0, 1) := by decide +kernel
theorem dX5_type_17 : decode cX5_type 17 = .ok (.getfield 153, 3) := by decide +kernel
theorem dX5_type_20 : decode cX5_type 20 = .ok (.iload_n 1, 1) := by decide +kernel
theorem dX5_type_21 : decode cX5_type 21 = .ok (.iastore, 1) := by decide +kernel
theorem dX5_type_22 : decode cX5_type 22 = .ok (.aload_n 0, 1) := by decide +kernel
theorem dX5_type_23 : decode cX5_type 23 = .ok (.dup, 1) := by decide +kernel
theorem dX5_type_24 : decode cX5_type 24 = .ok (.getfield 153, 3) := by decide +kernel
theorem dX5_type_27 : decode cX5_type 27 = .ok (.iconst 1, 1) := by decide +kernel
theorem dX5_type_28 : decode cX5_type 28 = .ok (.iadd, 1) := by decide +kernel
theorem dX5_type_29 : decode cX5_type 29 = .ok (.putfield 153, 3) := by decide +kernel
theorem dX5_type_32 : decode cX5_type 32 = .ok (.aload_n 0, 1) := by decide +kernel
theorem dX5_type_33 : decode cX5_type 33 = .ok (.getfield 153, 3) := by decide +kernel
theorem dX5_type_36 : decode cX5_type 36 = .ok (.ireturn, 1) := by decide +kernel
theorem dX5_clearText_0 : decode cX5_clearText 0 = .ok (.aload_n 0, 1) := by decide +kernel
theorem dX5_clearText_1 : decode cX5_clearText 1 = .ok (.getfield 153, 3) := by decide +kernel
theorem dX5_clearText_4 : decode cX5_clearText 4 = .ok (.istore_n 1, 1) := by decide +kernel
theorem dX5_clearText_5 : decode cX5_clearText 5 = .ok (.aload_n 0, 1) := by decide +kernel
theorem dX5_clearText_6 : decode cX5_clearText 6 = .ok (.iconst 0, 1) := by decide +kernel
theorem dX5_clearText_7 : decode cX5_clearText 7 = .ok (.putfield 153, 3) := by decide +kernel
theorem dX5_clearText_10 : decode cX5_clearText 10 = .ok (.iload_n 1, 1) := by decide +kernel
theorem dX5_clearText_11 : decode cX5_clearText 11 = .ok (.ireturn, 1) := by decide +kernel
theorem dX5_faultOf_0 : decode cX5_faultOf 0 = .ok (.bipush (-2), 2) := by decide +kernel
theorem dX5_faultOf_2 : decode cX5_faultOf 2 = .ok (.istore_n 1, 1) := by decide +kernel
theorem dX5_faultOf_3 : decode cX5_faultOf 3 = .ok (.iconst 0, 1) := by decide +kernel
theorem dX5_faultOf_4 : decode cX5_faultOf 4 = .ok (.istore_n 2, 1) := by decide +kernel
theorem dX5_faultOf_5 : decode cX5_faultOf 5 = .ok (.iconst 0, 1) := by decide +kernel
theorem dX5_faultOf_6 : decode cX5_faultOf 6 = .ok (.istore_n 3, 1) := by decide +kernel
theorem dX5_faultOf_7 : decode cX5_faultOf 7 = .ok (.iload_n 3, 1) := by decide +kernel
theorem dX5_faultOf_8 : decode cX5_faultOf 8 = .ok (.aload_n 0, 1) := by decide +kernel
theorem dX5_faultOf_9 : decode cX5_faultOf 9 = .ok (.getfield 153, 3) := by decide +kernel
theorem dX5_faultOf_12 : decode cX5_faultOf 12 = .ok (.if_icmp .ge 111, 3) := by decide +kernel
theorem dX5_faultOf_15 : decode cX5_faultOf 15 = .ok (.aload_n 0, 1) := by decide +kernel
theorem dX5_faultOf_16 : decode cX5_faultOf 16 = .ok (.getfield 13, 3) := by decide +kernel
theorem dX5_faultOf_19 : decode cX5_faultOf 19 = .ok (.iload_n 3, 1) := by decide +kernel
theorem dX5_faultOf_20 : decode cX5_faultOf 20 = .ok (.iaload, 1) := by decide +kernel
theorem dX5_faultOf_21 : decode cX5_faultOf 21 = .ok (.istore 4, 2) := by decide +kernel
theorem dX5_faultOf_23 : decode cX5_faultOf 23 = .ok (.iload 4, 2) := by decide +kernel
theorem dX5_faultOf_25 : decode cX5_faultOf 25 = .ok (.bipush 48, 2) := by decide +kernel
theorem dX5_faultOf_27 : decode cX5_faultOf 27 = .ok (.bipush 57, 2) := by decide +kernel
theorem dX5_faultOf_29 : decode cX5_faultOf 29 = .ok (.invokestatic 23, 3) := by decide +kernel
theorem dX5_faultOf_32 : decode cX5_faultOf 32 = .ok (.istore 5, 2) := by decide +kernel
theorem dX5_faultOf_34 : decode cX5_faultOf 34 = .ok (.iload_n 1, 1) := by decide +kernel
theorem dX5_faultOf_35 : decode cX5_faultOf 35 = .ok (.bipush (-2), 2) := by decide +kernel
theorem dX5_faultOf_37 : decode cX5_faultOf 37 = .ok (.if_icmp .ne 24, 3) := by decide +kernel
theorem dX5_faultOf_40 : decode cX5_faultOf 40 = .ok (.iload 4, 2) := by decide +kernel
theorem dX5_faultOf_42 : decode cX5_faultOf 42 = .ok (.bipush 97, 2) := by decide +kernel
theorem dX5_faultOf_44 : decode cX5_faultOf 44 = .ok (.bipush 112, 2) := by decide +kernel
theorem dX5_faultOf_46 : decode cX5_faultOf 46 = .ok (.invokestatic 23, 3) := by decide +kernel
theorem dX5_faultOf_49 : decode cX5_faultOf 49 = .ok (.ifCond .ne 5, 3) := by decide +kernel
theorem dX5_faultOf_52 : decode cX5_faultOf 52 = .ok (.iload_n 3, 1) := by decide +kernel
theorem dX5_faultOf_53 : decode cX5_faultOf 53 = .ok (.ireturn, 1) := by decide +kernel
theorem dX5_faultOf_54 : decode cX5_faultOf 54 = .ok (.iconst 0, 1) := by decide +kernel
theorem dX5_faultOf_55 : decode cX5_faultOf 55 = .ok (.istore_n 1, 1) := by decide +kernel
theorem dX5_faultOf_56 : decode cX5_faultOf 56 = .ok (.iconst 0, 1) := by decide +kernel
theorem dX5_faultOf_57 : decode cX5_faultOf 57 = .ok (.istore_n 2, 1) := by decide +kernel
theorem dX5_faultOf_58 : decode cX5_faultOf 58 = .ok (.goto 59, 3) := by decide +kernel
theorem dX5_faultOf_61 : decode cX5_faultOf 61 = .ok (.iload 5, 2) := by decide +kernel
theorem dX5_faultOf_63 : decode cX5_faultOf 63 = .ok (.ifCond .eq 35, 3) := by decide +kernel
theorem dX5_faultOf_66 : decode cX5_faultOf 66 = .ok (.iload_n 1, 1) := by decide +kernel
theorem dX5_faultOf_67 : decode cX5_faultOf 67 = .ok (.iconst 4, 1) := by decide +kernel
theorem dX5_faultOf_68 : decode cX5_faultOf 68 = .ok (.if_icmp .ge 30, 3) := by decide +kernel
theorem dX5_faultOf_71 : decode cX5_faultOf 71 = .ok (.iload_n 2, 1) := by decide +kernel
theorem dX5_faultOf_72 : decode cX5_faultOf 72 = .ok (.ifCond .ne 26, 3) := by decide +kernel
theorem dX5_faultOf_75 : decode cX5_faultOf 75 = .ok (.iload_n 1, 1) := by decide +kernel
theorem dX5_faultOf_76 : decode cX5_faultOf 76 = .ok (.ifCond .ne 14, 3) := by decide +kernel
theorem dX5_faultOf_79 : decode cX5_faultOf 79 = .ok (.iload 4, 2) := by decide +kernel
theorem dX5_faultOf_81 : decode cX5_faultOf 81 = .ok (.bipush 48, 2) := by decide +kernel
theorem dX5_faultOf_83 : decode cX5_faultOf 83 = .ok (.if_icmp .ne 7, 3) := by decide +kernel
theorem dX5_faultOf_86 : decode cX5_faultOf 86 = .ok (.iconst 1, 1) := by decide +kernel
theorem dX5_faultOf_87 : decode cX5_faultOf 87 = .ok (.goto 4, 3) := by decide +kernel
theorem dX5_faultOf_90 : decode cX5_faultOf 90 = .ok (.iconst 0, 1) := by decide +kernel
theorem dX5_faultOf_91 : decode cX5_faultOf 91 = .ok (.istore_n 2, 1) := by decide +kernel
theorem dX5_faultOf_92 : decode cX5_faultOf 92 = .ok (.iinc 1 1, 3) := by decide +kernel
theorem dX5_faultOf_95 : decode cX5_faultOf 95 = .ok (.goto 22, 3) := by decide +kernel
theorem dX5_faultOf_98 : decode cX5_faultOf 98 = .ok (.iload 4, 2) := by decide +kernel
theorem dX5_faultOf_100 : decode cX5_faultOf 100 = .ok (.bipush 44, 2) := by decide +kernel
theorem dX5_faultOf_102 : decode cX5_faultOf 102 = .ok (.if_icmp .ne 13, 3) := by decide +kernel
theorem dX5_faultOf_105 : decode cX5_faultOf 105 = .ok (.iload_n 1, 1) := by decide +kernel
theorem dX5_faultOf_106 : decode cX5_faultOf 106 = .ok (.ifCond .le 9, 3) := by decide +kernel
theorem dX5_faultOf_109 : decode cX5_faultOf 109 = .ok (.bipush (-2), 2) := by decide +kernel
theorem dX5_faultOf_111 : decode cX5_faultOf 111 = .ok (.istore_n 1, 1) := by decide +kernel
theorem dX5_faultOf_112 : decode cX5_faultOf 112 = .ok (.goto 5, 3) := by decide +kernel
theorem dX5_faultOf_115 : decode cX5_faultOf 115 = .ok (.iload_n 3, 1) := by decide +kernel
theorem dX5_faultOf_116 : decode cX5_faultOf 116 = .ok (.ireturn, 1) := by decide +kernel
theorem dX5_faultOf_117 : decode cX5_faultOf 117 = .ok (.iinc 3 1, 3) := by decide +kernel
theorem dX5_faultOf_120 : decode cX5_faultOf 120 = .ok (.goto (-113), 3) := by decide +kernel
theorem dX5_faultOf_123 : decode cX5_faultOf 123 = .ok (.iload_n 1, 1) := by decide +kernel
theorem dX5_faultOf_124 : decode cX5_faultOf 124 = .ok (.ifCond .le 7, 3) := by decide +kernel
theorem dX5_faultOf_127 : decode cX5_faultOf 127 = .ok (.iconst (-1), 1) := by decide +kernel
theorem dX5_faultOf_128 : decode cX5_faultOf 128 = .ok (.goto 7, 3) := by decide +kernel
theorem dX5_faultOf_131 : decode cX5_faultOf 131 = .ok (.aload_n 0, 1) := by decide +kernel
theorem dX5_faultOf_132 : decode cX5_faultOf 132 = .ok (.getfield 153, 3) := by decide +kernel
theorem dX5_faultOf_135 : decode cX5_faultOf 135 = .ok (.ireturn, 1) := by decide +kernel
theorem dX5_run_0 : decode cX5_run 0 = .ok (.aload_n 0, 1) := by decide +kernel
theorem dX5_run_1 : decode cX5_run 1 = .ok (.invokevirtual 156, 3) := by decide +kernel
theorem dX5_run_4 : decode cX5_run 4 = .ok (.istore_n 1, 1) := by decide +kernel
theorem dX5_run_5 : decode cX5_run 5 = .ok (.iload_n 1, 1) := by decide +kernel
theorem dX5_run_6 : decode cX5_run 6 = .ok (.ifCond .lt 8, 3) := by decide +kernel
theorem dX5_run_9 : decode cX5_run 9 = .ok (.bipush (-100), 2) := by decide +kernel
theorem dX5_run_11 : decode cX5_run 11 = .ok (.iload_n 1, 1) := by decide +kernel
theorem dX5_run_12 : decode cX5_run 12 = .ok (.isub, 1) := by decide +kernel
theorem dX5_run_13 : decode cX5_run 13 = .ok (.ireturn, 1) := by decide +kernel
theorem dX5_run_14 : decode cX5_run 14 = .ok (.aload_n 0, 1) := by decide +kernel
theorem dX5_run_15 : decode cX5_run 15 = .ok (.invokevirtual 39, 3) := by decide +kernel
theorem dX5_run_18 : decode cX5_run 18 = .ok (.iconst 0, 1) := by decide +kernel
theorem dX5_run_19 : decode cX5_run 19 = .ok (.istore_n 2, 1) := by decide +kernel
theorem dX5_run_20 : decode cX5_run 20 = .ok (.iconst 0, 1) := by decide +kernel
theorem dX5_run_21 : decode cX5_run 21 = .ok (.istore_n 3, 1) := by decide +kernel
theorem dX5_run_22 : decode cX5_run 22 = .ok (.iconst 0, 1) := by decide +kernel
theorem dX5_run_23 : decode cX5_run 23 = .ok (.istore 4, 2) := by decide +kernel
theorem dX5_run_25 : decode cX5_run 25 = .ok (.iconst 0, 1) := by decide +kernel
theorem dX5_run_26 : decode cX5_run 26 = .ok (.istore 5, 2) := by decide +kernel
theorem dX5_run_28 : decode cX5_run 28 = .ok (.iload 5, 2) := by decide +kernel
theorem dX5_run_30 : decode cX5_run 30 = .ok (.aload_n 0, 1) := by decide +kernel
theorem dX5_run_31 : decode cX5_run 31 = .ok (.getfield 153, 3) := by decide +kernel
theorem dX5_run_34 : decode cX5_run 34 = .ok (.if_icmp .gt 97, 3) := by decide +kernel
theorem dX5_run_37 : decode cX5_run 37 = .ok (.iload 5, 2) := by decide +kernel
theorem dX5_run_39 : decode cX5_run 39 = .ok (.aload_n 0, 1) := by decide +kernel
theorem dX5_run_40 : decode cX5_run 40 = .ok (.getfield 153, 3) := by decide +kernel
theorem dX5_run_43 : decode cX5_run 43 = .ok (.if_icmp .ge 13, 3) := by decide +kernel
theorem dX5_run_46 : decode cX5_run 46 = .ok (.aload_n 0, 1) := by decide +kernel
theorem dX5_run_47 : decode cX5_run 47 = .ok (.getfield 13, 3) := by decide +kernel
theorem dX5_run_50 : decode cX5_run 50 = .ok (.iload 5, 2) := by decide +kernel
theorem dX5_run_52 : decode cX5_run 52 = .ok (.iaload, 1) := by decide +kernel
theorem dX5_run_53 : decode cX5_run 53 = .ok (.goto 5, 3) := by decide +kernel
theorem dX5_run_56 : decode cX5_run 56 = .ok (.bipush 44, 2) := by decide +kernel
theorem dX5_run_58 : decode cX5_run 58 = .ok (.istore 6, 2) := by decide +kernel
theorem dX5_run_60 : decode cX5_run 60 = .ok (.iload 6, 2) := by decide +kernel
theorem dX5_run_62 : decode cX5_run 62 = .ok (.bipush 44, 2) := by decide +kernel
theorem dX5_run_64 : decode cX5_run 64 = .ok (.if_icmp .ne 27, 3) := by decide +kernel
theorem dX5_run_67 : decode cX5_run 67 = .ok (.iload_n 2, 1) := by decide +kernel
theorem dX5_run_68 : decode cX5_run 68 = .ok (.aload_n 0, 1) := by decide +kernel
theorem dX5_run_69 : decode cX5_run 69 = .ok (.iload_n 3, 1) := by decide +kernel
theorem dX5_run_70 : decode cX5_run 70 = .ok (.iload 4, 2) := by decide +kernel
theorem dX5_run_72 : decode cX5_run 72 = .ok (.invokevirtual 142, 3) := by decide +kernel
theorem dX5_run_75 : decode cX5_run 75 = .ok (.ifCond .ne 7, 3) := by decide +kernel
theorem dX5_run_78 : decode cX5_run 78 = .ok (.iconst 0, 1) := by decide +kernel
theorem dX5_run_79 : decode cX5_run 79 = .ok (.goto 4, 3) := by decide +kernel
theorem dX5_run_82 : decode cX5_run 82 = .ok (.iconst 1, 1) := by decide +kernel
theorem dX5_run_83 : decode cX5_run 83 = .ok (.iadd, 1) := by decide +kernel
theorem dX5_run_84 : decode cX5_run 84 = .ok (.istore_n 2, 1) := by decide +kernel
theorem dX5_run_85 : decode cX5_run 85 = .ok (.iconst 0, 1) := by decide +kernel
theorem dX5_run_86 : decode cX5_run 86 = .ok (.istore 4, 2) := by decide +kernel
theorem dX5_run_88 : decode cX5_run 88 = .ok (.goto 37, 3) := by decide +kernel
theorem dX5_run_91 : decode cX5_run 91 = .ok (.iload 6, 2) := by decide +kernel
theorem dX5_run_93 : decode cX5_run 93 = .ok (.bipush 48, 2) := by decide +kernel
theorem dX5_run_95 : decode cX5_run 95 = .ok (.bipush 57, 2) := by decide +kernel
theorem dX5_run_97 : decode cX5_run 97 = .ok (.invokestatic 23, 3) := by decide +kernel
theorem dX5_run_100 : decode cX5_run 100 = .ok (.ifCond .eq 19, 3) := by decide +kernel
theorem dX5_run_103 : decode cX5_run 103 = .ok (.bipush 10, 2) := by decide +kernel
theorem dX5_run_105 : decode cX5_run 105 = .ok (.iload 4, 2) := by decide +kernel
theorem dX5_run_107 : decode cX5_run 107 = .ok (.imul, 1) := by decide +kernel
theorem dX5_run_108 : decode cX5_run 108 = .ok (.iload 6, 2) := by decide +kernel
theorem dX5_run_110 : decode cX5_run 110 = .ok (.iadd, 1) := by decide +kernel
theorem dX5_run_111 : decode cX5_run 111 = .ok (.bipush 48, 2) := by decide +kernel
theorem dX5_run_113 : decode cX5_run 113 = .ok (.isub, 1) := by decide +kernel
theorem dX5_run_114 : decode cX5_run 114 = .ok (.istore 4, 2) := by decide +kernel
theorem dX5_run_116 : decode cX5_run 116 = .ok (.goto 9, 3) := by decide +kernel
theorem dX5_run_119 : decode cX5_run 119 = .ok (.iload 6, 2) := by decide +kernel
theorem dX5_run_121 : decode cX5_run 121 = .ok (.bipush 97, 2) := by decide +kernel
theorem dX5_run_123 : decode cX5_run 123 = .ok (.isub, 1) := by decide +kernel
theorem dX5_run_124 : decode cX5_run 124 = .ok (.istore_n 3, 1) := by decide +kernel
theorem dX5_run_125 : decode cX5_run 125 = .ok (.iinc 5 1, 3) := by decide +kernel
theorem dX5_run_128 : decode cX5_run 128 = .ok (.goto (-100), 3) := by decide +kernel
theorem dX5_run_131 : decode cX5_run 131 = .ok (.iload_n 2, 1) := by decide +kernel
theorem dX5_run_132 : decode cX5_run 132 = .ok (.ireturn, 1) := by decide +kernel
theorem dX5_line_0 : decode cX5_line 0 = .ok (.iload_n 1, 1) := by decide +kernel
theorem dX5_line_1 : decode cX5_line 1 = .ok (.invokestatic 111, 3) := by decide +kernel
theorem dX5_line_4 : decode cX5_line 4 = .ok (.ifCond .ne 6, 3) := by decide +kernel
theorem dX5_line_7 : decode cX5_line 7 = .ok (.ldc 86, 2) := by decide +kernel
theorem dX5_line_9 : decode cX5_line 9 = .ok (.ireturn, 1) := by decide +kernel
theorem dX5_line_10 : decode cX5_line 10 = .ok (.iload_n 2, 1) := by decide +kernel
theorem dX5_line_11 : decode cX5_line 11 = .ok (.iconst 0, 1) := by decide +kernel
theorem dX5_line_12 : decode cX5_line 12 = .ok (.iconst 5, 1) := by decide +kernel
theorem dX5_line_13 : decode cX5_line 13 = .ok (.invokestatic 23, 3) := by decide +kernel
theorem dX5_line_16 : decode cX5_line 16 = .ok (.ifCond .ne 6, 3) := by decide +kernel
theorem dX5_line_19 : decode cX5_line 19 = .ok (.ldc 77, 2) := by decide +kernel
theorem dX5_line_21 : decode cX5_line 21 = .ok (.ireturn, 1) := by decide +kernel
theorem dX5_line_22 : decode cX5_line 22 = .ok (.aload_n 0, 1) := by decide +kernel
theorem dX5_line_23 : decode cX5_line 23 = .ok (.iload_n 1, 1) := by decide +kernel
theorem dX5_line_24 : decode cX5_line 24 = .ok (.invokevirtual 117, 3) := by decide +kernel
theorem dX5_line_27 : decode cX5_line 27 = .ok (.istore_n 3, 1) := by decide +kernel
theorem dX5_line_28 : decode cX5_line 28 = .ok (.iload_n 3, 1) := by decide +kernel
theorem dX5_line_29 : decode cX5_line 29 = .ok (.ifCond .ge 7, 3) := by decide +kernel
theorem dX5_line_32 : decode cX5_line 32 = .ok (.iconst (-1), 1) := by decide +kernel
theorem dX5_line_33 : decode cX5_line 33 = .ok (.goto 17, 3) := by decide +kernel
theorem dX5_line_36 : decode cX5_line 36 = .ok (.iload_n 1, 1) := by decide +kernel
theorem dX5_line_37 : decode cX5_line 37 = .ok (.aload_n 0, 1) := by decide +kernel
theorem dX5_line_38 : decode cX5_line 38 = .ok (.getfield 7, 3) := by decide +kernel
theorem dX5_line_41 : decode cX5_line 41 = .ok (.sipush 349, 3) := by decide +kernel
theorem dX5_line_44 : decode cX5_line 44 = .ok (.iaload, 1) := by decide +kernel
theorem dX5_line_45 : decode cX5_line 45 = .ok (.irem, 1) := by decide +kernel
theorem dX5_line_46 : decode cX5_line 46 = .ok (.iload_n 3, 1) := by decide +kernel
theorem dX5_line_47 : decode cX5_line 47 = .ok (.invokestatic 42, 3) := by decide +kernel
theorem dX5_line_50 : decode cX5_line 50 = .ok (.istore 4, 2) := by decide +kernel
theorem dX5_line_52 : decode cX5_line 52 = .ok (.aload_n 0, 1) := by decide +kernel
theorem dX5_line_53 : decode cX5_line 53 = .ok (.iload_n 1, 1) := by decide +kernel
theorem dX5_line_54 : decode cX5_line 54 = .ok (.invokevirtual 46, 3) := by decide +kernel
theorem dX5_line_57 : decode cX5_line 57 = .ok (.istore 5, 2) := by decide +kernel
theorem dX5_line_59 : decode cX5_line 59 = .ok (.iload_n 2, 1) := by decide +kernel
theorem dX5_line_60 : decode cX5_line 60 = .ok (.iconst 5, 1) := by decide +kernel
theorem dX5_line_61 : decode cX5_line 61 = .ok (.if_icmp .ne 29, 3) := by decide +kernel
theorem dX5_line_64 : decode cX5_line 64 = .ok (.iload 5, 2) := by decide +kernel
theorem dX5_line_66 : decode cX5_line 66 = .ok (.ifCond .ge 7, 3) := by decide +kernel
theorem dX5_line_69 : decode cX5_line 69 = .ok (.iconst (-1), 1) := by decide +kernel
theorem dX5_line_70 : decode cX5_line 70 = .ok (.goto 38, 3) := by decide +kernel
theorem dX5_line_73 : decode cX5_line 73 = .ok (.aload_n 0, 1) := by decide +kernel
theorem dX5_line_74 : decode cX5_line 74 = .ok (.getfield 7, 3) := by decide +kernel
theorem dX5_line_77 : decode cX5_line 77 = .ok (.bipush 104, 2) := by decide +kernel
theorem dX5_line_79 : decode cX5_line 79 = .ok (.iconst 2, 1) := by decide +kernel
theorem dX5_line_80 : decode cX5_line 80 = .ok (.iload 5, 2) := by decide +kernel
theorem dX5_line_82 : decode cX5_line 82 = .ok (.imul, 1) := by decide +kernel
theorem dX5_line_83 : decode cX5_line 83 = .ok (.iadd, 1) := by decide +kernel
theorem dX5_line_84 : decode cX5_line 84 = .ok (.iconst 1, 1) := by decide +kernel
theorem dX5_line_85 : decode cX5_line 85 = .ok (.iadd, 1) := by decide +kernel
theorem dX5_line_86 : decode cX5_line 86 = .ok (.iaload, 1) := by decide +kernel
theorem dX5_line_87 : decode cX5_line 87 = .ok (.goto 21, 3) := by decide +kernel
theorem dX5_line_90 : decode cX5_line 90 = .ok (.iload 4, 2) := by decide +kernel
theorem dX5_line_92 : decode cX5_line 92 = .ok (.ifCond .ge 7, 3) := by decide +kernel
theorem dX5_line_95 : decode cX5_line 95 = .ok (.iconst (-1), 1) := by decide +kernel
theorem dX5_line_96 : decode cX5_line 96 = .ok (.goto 12, 3) := by decide +kernel
theorem dX5_line_99 : decode cX5_line 99 = .ok (.aload_n 0, 1) := by decide +kernel
theorem dX5_line_100 : decode cX5_line 100 = .ok (.getfield 7, 3) := by decide +kernel
theorem dX5_line_103 : decode cX5_line 103 = .ok (.iload 4, 2) := by decide +kernel
theorem dX5_line_105 : decode cX5_line 105 = .ok (.iconst 1, 1) := by decide +kernel
theorem dX5_line_106 : decode cX5_line 106 = .ok (.iadd, 1) := by decide +kernel
theorem dX5_line_107 : decode cX5_line 107 = .ok (.iaload, 1) := by decide +kernel
theorem dX5_line_108 : decode cX5_line 108 = .ok (.istore 6, 2) := by decide +kernel
theorem dX5_line_110 : decode cX5_line 110 = .ok (.iload_n 2, 1) := by decide +kernel
theorem dX5_line_111 : decode cX5_line 111 = .ok (.tableswitch 85 0 4 #[33, 43, 85, 61, 72], 33) := by decide +kernel
theorem dX5_line_144 : decode cX5_line 144 = .ok (.iload_n 3, 1) := by decide +kernel
theorem dX5_line_145 : decode cX5_line 145 = .ok (.ifCond .ge 7, 3) := by decide +kernel
theorem dX5_line_148 : decode cX5_line 148 = .ok (.iconst 0, 1) := by decide +kernel
theorem dX5_line_149 : decode cX5_line 149 = .ok (.goto 4, 3) := by decide +kernel
theorem dX5_line_152 : decode cX5_line 152 = .ok (.iconst 1, 1) := by decide +kernel
theorem dX5_line_153 : decode cX5_line 153 = .ok (.ireturn, 1) := by decide +kernel
theorem dX5_line_154 : decode cX5_line 154 = .ok (.iload_n 3, 1) := by decide +kernel
theorem dX5_line_155 : decode cX5_line 155 = .ok (.ifCond .ge 7, 3) := by decide +kernel
theorem dX5_line_158 : decode cX5_line 158 = .ok (.iconst 0, 1) := by decide +kernel
theorem dX5_line_159 : decode cX5_line 159 = .ok (.goto 12, 3) := by decide +kernel
theorem dX5_line_162 : decode cX5_line 162 = .ok (.aload_n 0, 1) := by decide +kernel
theorem dX5_line_163 : decode cX5_line 163 = .ok (.getfield 7, 3) := by decide +kernel
theorem dX5_line_166 : decode cX5_line 166 = .ok (.iload 4, 2) := by decide +kernel
theorem dX5_line_168 : decode cX5_line 168 = .ok (.iconst 2, 1) := by decide +kernel
theorem dX5_line_169 : decode cX5_line 169 = .ok (.iadd, 1) := by decide +kernel
theorem dX5_line_170 : decode cX5_line 170 = .ok (.iaload, 1) := by decide +kernel
theorem dX5_line_171 : decode cX5_line 171 = .ok (.ireturn, 1) := by decide +kernel
theorem dX5_line_172 : decode cX5_line 172 = .ok (.iload_n 3, 1) := by decide +kernel
theorem dX5_line_173 : decode cX5_line 173 = .ok (.ifCond .ge 8, 3) := by decide +kernel
theorem dX5_line_176 : decode cX5_line 176 = .ok (.ldc 34, 2) := by decide +kernel
theorem dX5_line_178 : decode cX5_line 178 = .ok (.goto 4, 3) := by decide +kernel
theorem dX5_line_181 : decode cX5_line 181 = .ok (.iload_n 3, 1) := by decide +kernel
theorem dX5_line_182 : decode cX5_line 182 = .ok (.ireturn, 1) := by decide +kernel
theorem dX5_line_183 : decode cX5_line 183 = .ok (.iload 5, 2) := by decide +kernel
theorem dX5_line_185 : decode cX5_line 185 = .ok (.ifCond .ge 8, 3) := by decide +kernel
theorem dX5_line_188 : decode cX5_line 188 = .ok (.ldc 34, 2) := by decide +kernel
theorem dX5_line_190 : decode cX5_line 190 = .ok (.goto 5, 3) := by decide +kernel
theorem dX5_line_193 : decode cX5_line 193 = .ok (.iload 5, 2) := by decide +kernel
theorem dX5_line_195 : decode cX5_line 195 = .ok (.ireturn, 1) := by decide +kernel
theorem dX5_line_196 : decode cX5_line 196 = .ok (.iload 6, 2) := by decide +kernel
theorem dX5_line_198 : decode cX5_line 198 = .ok (.iconst (-1), 1) := by decide +kernel
theorem dX5_line_199 : decode cX5_line 199 = .ok (.if_icmp .ne 8, 3) := by decide +kernel
theorem dX5_line_202 : decode cX5_line 202 = .ok (.ldc 34, 2) := by decide +kernel
theorem dX5_line_204 : decode cX5_line 204 = .ok (.goto 5, 3) := by decide +kernel
theorem dX5_line_207 : decode cX5_line 207 = .ok (.iload 6, 2) := by decide +kernel
theorem dX5_line_209 : decode cX5_line 209 = .ok (.ireturn, 1) := by decide +kernel
theorem dX5_inSet_0 : decode cX5_inSet 0 = .ok (.iload_n 1, 1) := by decide +kernel
theorem dX5_inSet_1 : decode cX5_inSet 1 = .ok (.iconst 0, 1) := by decide +kernel
theorem dX5_inSet_2 : decode cX5_inSet 2 = .ok (.aload_n 0, 1) := by decide +kernel
theorem dX5_inSet_3 : decode cX5_inSet 3 = .ok (.getfield 7, 3) := by decide +kernel
theorem dX5_inSet_6 : decode cX5_inSet 6 = .ok (.sipush 349, 3) := by decide +kernel
theorem dX5_inSet_9 : decode cX5_inSet 9 = .ok (.iaload, 1) := by decide +kernel
theorem dX5_inSet_10 : decode cX5_inSet 10 = .ok (.iconst 1, 1) := by decide +kernel
theorem dX5_inSet_11 : decode cX5_inSet 11 = .ok (.isub, 1) := by decide +kernel
theorem dX5_inSet_12 : decode cX5_inSet 12 = .ok (.invokestatic 23, 3) := by decide +kernel
theorem dX5_inSet_15 : decode cX5_inSet 15 = .ok (.ifCond .ne 6, 3) := by decide +kernel
theorem dX5_inSet_18 : decode cX5_inSet 18 = .ok (.ldc 86, 2) := by decide +kernel
theorem dX5_inSet_20 : decode cX5_inSet 20 = .ok (.ireturn, 1) := by decide +kernel
theorem dX5_inSet_21 : decode cX5_inSet 21 = .ok (.iload_n 2, 1) := by decide +kernel
theorem dX5_inSet_22 : decode cX5_inSet 22 = .ok (.ifCond .ge 6, 3) := by decide +kernel
theorem dX5_inSet_25 : decode cX5_inSet 25 = .ok (.ldc 77, 2) := by decide +kernel
theorem dX5_inSet_27 : decode cX5_inSet 27 = .ok (.ireturn, 1) := by decide +kernel
theorem dX5_inSet_28 : decode cX5_inSet 28 = .ok (.iload_n 2, 1) := by decide +kernel
theorem dX5_inSet_29 : decode cX5_inSet 29 = .ok (.aload_n 0, 1) := by decide +kernel
theorem dX5_inSet_30 : decode cX5_inSet 30 = .ok (.getfield 7, 3) := by decide +kernel
theorem dX5_inSet_33 : decode cX5_inSet 33 = .ok (.iconst 0, 1) := by decide +kernel
theorem dX5_inSet_34 : decode cX5_inSet 34 = .ok (.iload_n 1, 1) := by decide +kernel
theorem dX5_inSet_35 : decode cX5_inSet 35 = .ok (.iadd, 1) := by decide +kernel
theorem dX5_inSet_36 : decode cX5_inSet 36 = .ok (.iaload, 1) := by decide +kernel
theorem dX5_inSet_37 : decode cX5_inSet 37 = .ok (.if_icmp .ge 16, 3) := by decide +kernel
theorem dX5_inSet_40 : decode cX5_inSet 40 = .ok (.aload_n 0, 1) := by decide +kernel
theorem dX5_inSet_41 : decode cX5_inSet 41 = .ok (.getfield 7, 3) := by decide +kernel
theorem dX5_inSet_44 : decode cX5_inSet 44 = .ok (.iload_n 1, 1) := by decide +kernel
theorem dX5_inSet_45 : decode cX5_inSet 45 = .ok (.iload_n 2, 1) := by decide +kernel
theorem dX5_inSet_46 : decode cX5_inSet 46 = .ok (.invokestatic 42, 3) := by decide +kernel
theorem dX5_inSet_49 : decode cX5_inSet 49 = .ok (.iaload, 1) := by decide +kernel
theorem dX5_inSet_50 : decode cX5_inSet 50 = .ok (.goto 5, 3) := by decide +kernel
theorem dX5_inSet_53 : decode cX5_inSet 53 = .ok (.ldc 34, 2) := by decide +kernel
theorem dX5_inSet_55 : decode cX5_inSet 55 = .ok (.ireturn, 1) := by decide +kernel
theorem dX5_thrownOut_0 : decode cX5_thrownOut 0 = .ok (.iload_n 1, 1) := by decide +kernel
theorem dX5_thrownOut_1 : decode cX5_thrownOut 1 = .ok (.ifCond .ge 6, 3) := by decide +kernel
theorem dX5_thrownOut_4 : decode cX5_thrownOut 4 = .ok (.ldc 77, 2) := by decide +kernel
theorem dX5_thrownOut_6 : decode cX5_thrownOut 6 = .ok (.ireturn, 1) := by decide +kernel
theorem dX5_thrownOut_7 : decode cX5_thrownOut 7 = .ok (.iload_n 1, 1) := by decide +kernel
theorem dX5_thrownOut_8 : decode cX5_thrownOut 8 = .ok (.aload_n 0, 1) := by decide +kernel
theorem dX5_thrownOut_9 : decode cX5_thrownOut 9 = .ok (.getfield 7, 3) := by decide +kernel
theorem dX5_thrownOut_12 : decode cX5_thrownOut 12 = .ok (.sipush 348, 3) := by decide +kernel
theorem dX5_thrownOut_15 : decode cX5_thrownOut 15 = .ok (.iaload, 1) := by decide +kernel
theorem dX5_thrownOut_16 : decode cX5_thrownOut 16 = .ok (.if_icmp .ge 17, 3) := by decide +kernel
theorem dX5_thrownOut_19 : decode cX5_thrownOut 19 = .ok (.aload_n 0, 1) := by decide +kernel
theorem dX5_thrownOut_20 : decode cX5_thrownOut 20 = .ok (.getfield 7, 3) := by decide +kernel
theorem dX5_thrownOut_23 : decode cX5_thrownOut 23 = .ok (.bipush 104, 2) := by decide +kernel
theorem dX5_thrownOut_25 : decode cX5_thrownOut 25 = .ok (.iconst 2, 1) := by decide +kernel
theorem dX5_thrownOut_26 : decode cX5_thrownOut 26 = .ok (.iload_n 1, 1) := by decide +kernel
theorem dX5_thrownOut_27 : decode cX5_thrownOut 27 = .ok (.imul, 1) := by decide +kernel
theorem dX5_thrownOut_28 : decode cX5_thrownOut 28 = .ok (.iadd, 1) := by decide +kernel
theorem dX5_thrownOut_29 : decode cX5_thrownOut 29 = .ok (.iaload, 1) := by decide +kernel
theorem dX5_thrownOut_30 : decode cX5_thrownOut 30 = .ok (.goto 5, 3) := by decide +kernel
theorem dX5_thrownOut_33 : decode cX5_thrownOut 33 = .ok (.ldc 34, 2) := by decide +kernel
theorem dX5_thrownOut_35 : decode cX5_thrownOut 35 = .ok (.ireturn, 1) := by decide +kernel
theorem dX5_newOf_0 : decode cX5_newOf 0 = .ok (.iconst 0, 1) := by decide +kernel
theorem dX5_newOf_1 : decode cX5_newOf 1 = .ok (.istore_n 2, 1) := by decide +kernel
theorem dX5_newOf_2 : decode cX5_newOf 2 = .ok (.iconst 0, 1) := by decide +kernel
theorem dX5_newOf_3 : decode cX5_newOf 3 = .ok (.istore_n 3, 1) := by decide +kernel
theorem dX5_newOf_4 : decode cX5_newOf 4 = .ok (.iload_n 3, 1) := by decide +kernel
theorem dX5_newOf_5 : decode cX5_newOf 5 = .ok (.aload_n 0, 1) := by decide +kernel
theorem dX5_newOf_6 : decode cX5_newOf 6 = .ok (.getfield 7, 3) := by decide +kernel
theorem dX5_newOf_9 : decode cX5_newOf 9 = .ok (.sipush 349, 3) := by decide +kernel
theorem dX5_newOf_12 : decode cX5_newOf 12 = .ok (.iaload, 1) := by decide +kernel
theorem dX5_newOf_13 : decode cX5_newOf 13 = .ok (.if_icmp .ge 77, 3) := by decide +kernel
theorem dX5_newOf_16 : decode cX5_newOf 16 = .ok (.iconst 0, 1) := by decide +kernel
theorem dX5_newOf_17 : decode cX5_newOf 17 = .ok (.istore 4, 2) := by decide +kernel
theorem dX5_newOf_19 : decode cX5_newOf 19 = .ok (.iload 4, 2) := by decide +kernel
theorem dX5_newOf_21 : decode cX5_newOf 21 = .ok (.aload_n 0, 1) := by decide +kernel
theorem dX5_newOf_22 : decode cX5_newOf 22 = .ok (.getfield 7, 3) := by decide +kernel
theorem dX5_newOf_25 : decode cX5_newOf 25 = .ok (.iconst 0, 1) := by decide +kernel
theorem dX5_newOf_26 : decode cX5_newOf 26 = .ok (.iload_n 3, 1) := by decide +kernel
theorem dX5_newOf_27 : decode cX5_newOf 27 = .ok (.iadd, 1) := by decide +kernel
theorem dX5_newOf_28 : decode cX5_newOf 28 = .ok (.iaload, 1) := by decide +kernel
theorem dX5_newOf_29 : decode cX5_newOf 29 = .ok (.if_icmp .ge 55, 3) := by decide +kernel
theorem dX5_newOf_32 : decode cX5_newOf 32 = .ok (.iload_n 3, 1) := by decide +kernel
theorem dX5_newOf_33 : decode cX5_newOf 33 = .ok (.iload 4, 2) := by decide +kernel
theorem dX5_newOf_35 : decode cX5_newOf 35 = .ok (.invokestatic 42, 3) := by decide +kernel
theorem dX5_newOf_38 : decode cX5_newOf 38 = .ok (.istore 5, 2) := by decide +kernel
theorem dX5_newOf_40 : decode cX5_newOf 40 = .ok (.iload_n 2, 1) := by decide +kernel
theorem dX5_newOf_41 : decode cX5_newOf 41 = .ok (.aload_n 0, 1) := by decide +kernel
theorem dX5_newOf_42 : decode cX5_newOf 42 = .ok (.getfield 7, 3) := by decide +kernel
theorem dX5_newOf_45 : decode cX5_newOf 45 = .ok (.iload 5, 2) := by decide +kernel
theorem dX5_newOf_47 : decode cX5_newOf 47 = .ok (.iconst 2, 1) := by decide +kernel
theorem dX5_newOf_48 : decode cX5_newOf 48 = .ok (.iadd, 1) := by decide +kernel
theorem dX5_newOf_49 : decode cX5_newOf 49 = .ok (.iaload, 1) := by decide +kernel
theorem dX5_newOf_50 : decode cX5_newOf 50 = .ok (.iconst 1, 1) := by decide +kernel
theorem dX5_newOf_51 : decode cX5_newOf 51 = .ok (.if_icmp .ne 24, 3) := by decide +kernel
theorem dX5_newOf_54 : decode cX5_newOf 54 = .ok (.iload_n 1, 1) := by decide +kernel
theorem dX5_newOf_55 : decode cX5_newOf 55 = .ok (.ifCond .lt 16, 3) := by decide +kernel
theorem dX5_newOf_58 : decode cX5_newOf 58 = .ok (.aload_n 0, 1) := by decide +kernel
theorem dX5_newOf_59 : decode cX5_newOf 59 = .ok (.getfield 7, 3) := by decide +kernel
theorem dX5_newOf_62 : decode cX5_newOf 62 = .ok (.iload 5, 2) := by decide +kernel
theorem dX5_newOf_64 : decode cX5_newOf 64 = .ok (.iconst 1, 1) := by decide +kernel
theorem dX5_newOf_65 : decode cX5_newOf 65 = .ok (.iadd, 1) := by decide +kernel
theorem dX5_newOf_66 : decode cX5_newOf 66 = .ok (.iaload, 1) := by decide +kernel
theorem dX5_newOf_67 : decode cX5_newOf 67 = .ok (.iload_n 1, 1) := by decide +kernel
theorem dX5_newOf_68 : decode cX5_newOf 68 = .ok (.if_icmp .ne 7, 3) := by decide +kernel
theorem dX5_newOf_71 : decode cX5_newOf 71 = .ok (.iconst 1, 1) := by decide +kernel
theorem dX5_newOf_72 : decode cX5_newOf 72 = .ok (.goto 4, 3) := by decide +kernel
theorem dX5_newOf_75 : decode cX5_newOf 75 = .ok (.iconst 0, 1) := by decide +kernel
theorem dX5_newOf_76 : decode cX5_newOf 76 = .ok (.iadd, 1) := by decide +kernel
theorem dX5_newOf_77 : decode cX5_newOf 77 = .ok (.istore_n 2, 1) := by decide +kernel
theorem dX5_newOf_78 : decode cX5_newOf 78 = .ok (.iinc 4 1, 3) := by decide +kernel
theorem dX5_newOf_81 : decode cX5_newOf 81 = .ok (.goto (-62), 3) := by decide +kernel
theorem dX5_newOf_84 : decode cX5_newOf 84 = .ok (.iinc 3 1, 3) := by decide +kernel
theorem dX5_newOf_87 : decode cX5_newOf 87 = .ok (.goto (-83), 3) := by decide +kernel
theorem dX5_newOf_90 : decode cX5_newOf 90 = .ok (.iload_n 2, 1) := by decide +kernel
theorem dX5_newOf_91 : decode cX5_newOf 91 = .ok (.ireturn, 1) := by decide +kernel
theorem dX5_helper_0 : decode cX5_helper 0 = .ok (.aload_n 0, 1) := by decide +kernel
theorem dX5_helper_1 : decode cX5_helper 1 = .ok (.iload_n 1, 1) := by decide +kernel
theorem dX5_helper_2 : decode cX5_helper 2 = .ok (.invokevirtual 82, 3) := by decide +kernel
theorem dX5_helper_5 : decode cX5_helper 5 = .ok (.ifCond .ne 6, 3) := by decide +kernel
theorem dX5_helper_8 : decode cX5_helper 8 = .ok (.ldc 86, 2) := by decide +kernel
theorem dX5_helper_10 : decode cX5_helper 10 = .ok (.ireturn, 1) := by decide +kernel
theorem dX5_helper_11 : decode cX5_helper 11 = .ok (.iload_n 2, 1) := by decide +kernel
theorem dX5_helper_12 : decode cX5_helper 12 = .ok (.tableswitch 153 0 15 #[80, 80, 80, 80, 80, 80, 91, 97, 97, 97, 110, 116, 116, 116, 129, 141], 80) := by decide +kernel
theorem dX5_helper_92 : decode cX5_helper 92 = .ok (.aload_n 0, 1) := by decide +kernel
theorem dX5_helper_93 : decode cX5_helper 93 = .ok (.getfield 7, 3) := by decide +kernel
theorem dX5_helper_96 : decode cX5_helper 96 = .ok (.iload_n 1, 1) := by decide +kernel
theorem dX5_helper_97 : decode cX5_helper 97 = .ok (.iload_n 2, 1) := by decide +kernel
theorem dX5_helper_98 : decode cX5_helper 98 = .ok (.invokestatic 54, 3) := by decide +kernel
theorem dX5_helper_101 : decode cX5_helper 101 = .ok (.iaload, 1) := by decide +kernel
theorem dX5_helper_102 : decode cX5_helper 102 = .ok (.ireturn, 1) := by decide +kernel
theorem dX5_helper_103 : decode cX5_helper 103 = .ok (.aload_n 0, 1) := by decide +kernel
theorem dX5_helper_104 : decode cX5_helper 104 = .ok (.iload_n 1, 1) := by decide +kernel
theorem dX5_helper_105 : decode cX5_helper 105 = .ok (.invokevirtual 108, 3) := by decide +kernel
theorem dX5_helper_108 : decode cX5_helper 108 = .ok (.ireturn, 1) := by decide +kernel
theorem dX5_helper_109 : decode cX5_helper 109 = .ok (.aload_n 0, 1) := by decide +kernel
theorem dX5_helper_110 : decode cX5_helper 110 = .ok (.getfield 7, 3) := by decide +kernel
theorem dX5_helper_113 : decode cX5_helper 113 = .ok (.iload_n 1, 1) := by decide +kernel
theorem dX5_helper_114 : decode cX5_helper 114 = .ok (.iload_n 2, 1) := by decide +kernel
theorem dX5_helper_115 : decode cX5_helper 115 = .ok (.iconst 1, 1) := by decide +kernel
theorem dX5_helper_116 : decode cX5_helper 116 = .ok (.isub, 1) := by decide +kernel
theorem dX5_helper_117 : decode cX5_helper 117 = .ok (.invokestatic 54, 3) := by decide +kernel
theorem dX5_helper_120 : decode cX5_helper 120 = .ok (.iaload, 1) := by decide +kernel
theorem dX5_helper_121 : decode cX5_helper 121 = .ok (.ireturn, 1) := by decide +kernel
theorem dX5_helper_122 : decode cX5_helper 122 = .ok (.aload_n 0, 1) := by decide +kernel
theorem dX5_helper_123 : decode cX5_helper 123 = .ok (.iload_n 1, 1) := by decide +kernel
theorem dX5_helper_124 : decode cX5_helper 124 = .ok (.invokevirtual 159, 3) := by decide +kernel
theorem dX5_helper_127 : decode cX5_helper 127 = .ok (.ireturn, 1) := by decide +kernel
theorem dX5_helper_128 : decode cX5_helper 128 = .ok (.aload_n 0, 1) := by decide +kernel
theorem dX5_helper_129 : decode cX5_helper 129 = .ok (.getfield 7, 3) := by decide +kernel
theorem dX5_helper_132 : decode cX5_helper 132 = .ok (.iload_n 1, 1) := by decide +kernel
theorem dX5_helper_133 : decode cX5_helper 133 = .ok (.iload_n 2, 1) := by decide +kernel
theorem dX5_helper_134 : decode cX5_helper 134 = .ok (.iconst 2, 1) := by decide +kernel
theorem dX5_helper_135 : decode cX5_helper 135 = .ok (.isub, 1) := by decide +kernel
theorem dX5_helper_136 : decode cX5_helper 136 = .ok (.invokestatic 54, 3) := by decide +kernel
theorem dX5_helper_139 : decode cX5_helper 139 = .ok (.iaload, 1) := by decide +kernel
theorem dX5_helper_140 : decode cX5_helper 140 = .ok (.ireturn, 1) := by decide +kernel
theorem dX5_helper_141 : decode cX5_helper 141 = .ok (.aload_n 0, 1) := by decide +kernel
theorem dX5_helper_142 : decode cX5_helper 142 = .ok (.getfield 7, 3) := by decide +kernel
theorem dX5_helper_145 : decode cX5_helper 145 = .ok (.iload_n 1, 1) := by decide +kernel
theorem dX5_helper_146 : decode cX5_helper 146 = .ok (.bipush 13, 2) := by decide +kernel
theorem dX5_helper_148 : decode cX5_helper 148 = .ok (.invokestatic 54, 3) := by decide +kernel
theorem dX5_helper_151 : decode cX5_helper 151 = .ok (.iaload, 1) := by decide +kernel
theorem dX5_helper_152 : decode cX5_helper 152 = .ok (.ireturn, 1) := by decide +kernel
theorem dX5_helper_153 : decode cX5_helper 153 = .ok (.aload_n 0, 1) := by decide +kernel
theorem dX5_helper_154 : decode cX5_helper 154 = .ok (.getfield 7, 3) := by decide +kernel
theorem dX5_helper_157 : decode cX5_helper 157 = .ok (.iload_n 1, 1) := by decide +kernel
theorem dX5_helper_158 : decode cX5_helper 158 = .ok (.bipush 12, 2) := by decide +kernel
theorem dX5_helper_160 : decode cX5_helper 160 = .ok (.invokestatic 54, 3) := by decide +kernel
theorem dX5_helper_163 : decode cX5_helper 163 = .ok (.iaload, 1) := by decide +kernel
theorem dX5_helper_164 : decode cX5_helper 164 = .ok (.ireturn, 1) := by decide +kernel
theorem dX5_helper_165 : decode cX5_helper 165 = .ok (.ldc 77, 2) := by decide +kernel
theorem dX5_helper_167 : decode cX5_helper 167 = .ok (.ireturn, 1) := by decide +kernel
theorem dX5_table_0 : decode cX5_table 0 = .ok (.aload_n 0, 1) := by decide +kernel
theorem dX5_table_1 : decode cX5_table 1 = .ok (.iload_n 1, 1) := by decide +kernel
theorem dX5_table_2 : decode cX5_table 2 = .ok (.invokevirtual 82, 3) := by decide +kernel
theorem dX5_table_5 : decode cX5_table 5 = .ok (.ifCond .ne 6, 3) := by decide +kernel
theorem dX5_table_8 : decode cX5_table 8 = .ok (.ldc 86, 2) := by decide +kernel
theorem dX5_table_10 : decode cX5_table 10 = .ok (.ireturn, 1) := by decide +kernel
theorem dX5_table_11 : decode cX5_table 11 = .ok (.iload_n 2, 1) := by decide +kernel
theorem dX5_table_12 : decode cX5_table 12 = .ok (.ifCond .lt 12, 3) := by decide +kernel
theorem dX5_table_15 : decode cX5_table 15 = .ok (.iload_n 3, 1) := by decide +kernel
theorem dX5_table_16 : decode cX5_table 16 = .ok (.iconst 0, 1) := by decide +kernel
theorem dX5_table_17 : decode cX5_table 17 = .ok (.iconst 3, 1) := by decide +kernel
theorem dX5_table_18 : decode cX5_table 18 = .ok (.invokestatic 23, 3) := by decide +kernel
theorem dX5_table_21 : decode cX5_table 21 = .ok (.ifCond .ne 6, 3) := by decide +kernel
theorem dX5_table_24 : decode cX5_table 24 = .ok (.ldc 77, 2) := by decide +kernel
theorem dX5_table_26 : decode cX5_table 26 = .ok (.ireturn, 1) := by decide +kernel
theorem dX5_table_27 : decode cX5_table 27 = .ok (.iload_n 2, 1) := by decide +kernel
theorem dX5_table_28 : decode cX5_table 28 = .ok (.aload_n 0, 1) := by decide +kernel
theorem dX5_table_29 : decode cX5_table 29 = .ok (.getfield 7, 3) := by decide +kernel
theorem dX5_table_32 : decode cX5_table 32 = .ok (.iload_n 1, 1) := by decide +kernel
theorem dX5_table_33 : decode cX5_table 33 = .ok (.bipush 13, 2) := by decide +kernel
theorem dX5_table_35 : decode cX5_table 35 = .ok (.invokestatic 54, 3) := by decide +kernel
theorem dX5_table_38 : decode cX5_table 38 = .ok (.iaload, 1) := by decide +kernel
theorem dX5_table_39 : decode cX5_table 39 = .ok (.if_icmp .lt 6, 3) := by decide +kernel
theorem dX5_table_42 : decode cX5_table 42 = .ok (.ldc 34, 2) := by decide +kernel
theorem dX5_table_44 : decode cX5_table 44 = .ok (.ireturn, 1) := by decide +kernel
theorem dX5_table_45 : decode cX5_table 45 = .ok (.iload_n 3, 1) := by decide +kernel
theorem dX5_table_46 : decode cX5_table 46 = .ok (.ifCond .ne 22, 3) := by decide +kernel
theorem dX5_table_49 : decode cX5_table 49 = .ok (.aload_n 0, 1) := by decide +kernel
theorem dX5_table_50 : decode cX5_table 50 = .ok (.getfield 7, 3) := by decide +kernel
theorem dX5_table_53 : decode cX5_table 53 = .ok (.iload_n 1, 1) := by decide +kernel
theorem dX5_table_54 : decode cX5_table 54 = .ok (.iconst 0, 1) := by decide +kernel
theorem dX5_table_55 : decode cX5_table 55 = .ok (.invokestatic 54, 3) := by decide +kernel
theorem dX5_table_58 : decode cX5_table 58 = .ok (.iaload, 1) := by decide +kernel
theorem dX5_table_59 : decode cX5_table 59 = .ok (.iconst 1, 1) := by decide +kernel
theorem dX5_table_60 : decode cX5_table 60 = .ok (.if_icmp .ne 8, 3) := by decide +kernel
theorem dX5_table_63 : decode cX5_table 63 = .ok (.ldc 34, 2) := by decide +kernel
theorem dX5_table_65 : decode cX5_table 65 = .ok (.goto 15, 3) := by decide +kernel
theorem dX5_table_68 : decode cX5_table 68 = .ok (.aload_n 0, 1) := by decide +kernel
theorem dX5_table_69 : decode cX5_table 69 = .ok (.getfield 7, 3) := by decide +kernel
theorem dX5_table_72 : decode cX5_table 72 = .ok (.iload_n 1, 1) := by decide +kernel
theorem dX5_table_73 : decode cX5_table 73 = .ok (.iload_n 2, 1) := by decide +kernel
theorem dX5_table_74 : decode cX5_table 74 = .ok (.invokestatic 88, 3) := by decide +kernel
theorem dX5_table_77 : decode cX5_table 77 = .ok (.iload_n 3, 1) := by decide +kernel
theorem dX5_table_78 : decode cX5_table 78 = .ok (.iadd, 1) := by decide +kernel
theorem dX5_table_79 : decode cX5_table 79 = .ok (.iaload, 1) := by decide +kernel
theorem dX5_table_80 : decode cX5_table 80 = .ok (.ireturn, 1) := by decide +kernel
theorem dX5_bestHelper_0 : decode cX5_bestHelper 0 = .ok (.ldc 34, 2) := by decide +kernel
theorem dX5_bestHelper_2 : decode cX5_bestHelper 2 = .ok (.istore_n 1, 1) := by decide +kernel
theorem dX5_bestHelper_3 : decode cX5_bestHelper 3 = .ok (.iconst 0, 1) := by decide +kernel
theorem dX5_bestHelper_4 : decode cX5_bestHelper 4 = .ok (.istore_n 2, 1) := by decide +kernel
theorem dX5_bestHelper_5 : decode cX5_bestHelper 5 = .ok (.iconst 0, 1) := by decide +kernel
theorem dX5_bestHelper_6 : decode cX5_bestHelper 6 = .ok (.istore_n 3, 1) := by decide +kernel
theorem dX5_bestHelper_7 : decode cX5_bestHelper 7 = .ok (.iload_n 3, 1) := by decide +kernel
theorem dX5_bestHelper_8 : decode cX5_bestHelper 8 = .ok (.aload_n 0, 1) := by decide +kernel
theorem dX5_bestHelper_9 : decode cX5_bestHelper 9 = .ok (.getfield 7, 3) := by decide +kernel
theorem dX5_bestHelper_12 : decode cX5_bestHelper 12 = .ok (.sipush 351, 3) := by decide +kernel
theorem dX5_bestHelper_15 : decode cX5_bestHelper 15 = .ok (.iaload, 1) := by decide +kernel
theorem dX5_bestHelper_16 : decode cX5_bestHelper 16 = .ok (.if_icmp .ge 51, 3) := by decide +kernel
theorem dX5_bestHelper_19 : decode cX5_bestHelper 19 = .ok (.aload_n 0, 1) := by decide +kernel
theorem dX5_bestHelper_20 : decode cX5_bestHelper 20 = .ok (.getfield 7, 3) := by decide +kernel
theorem dX5_bestHelper_23 : decode cX5_bestHelper 23 = .ok (.iload_n 3, 1) := by decide +kernel
theorem dX5_bestHelper_24 : decode cX5_bestHelper 24 = .ok (.bipush 7, 2) := by decide +kernel
theorem dX5_bestHelper_26 : decode cX5_bestHelper 26 = .ok (.invokestatic 54, 3) := by decide +kernel
theorem dX5_bestHelper_29 : decode cX5_bestHelper 29 = .ok (.iaload, 1) := by decide +kernel
theorem dX5_bestHelper_30 : decode cX5_bestHelper 30 = .ok (.aload_n 0, 1) := by decide +kernel
theorem dX5_bestHelper_31 : decode cX5_bestHelper 31 = .ok (.getfield 7, 3) := by decide +kernel
theorem dX5_bestHelper_34 : decode cX5_bestHelper 34 = .ok (.iload_n 3, 1) := by decide +kernel
theorem dX5_bestHelper_35 : decode cX5_bestHelper 35 = .ok (.bipush 8, 2) := by decide +kernel
theorem dX5_bestHelper_37 : decode cX5_bestHelper 37 = .ok (.invokestatic 54, 3) := by decide +kernel
theorem dX5_bestHelper_40 : decode cX5_bestHelper 40 = .ok (.iaload, 1) := by decide +kernel
theorem dX5_bestHelper_41 : decode cX5_bestHelper 41 = .ok (.isub, 1) := by decide +kernel
theorem dX5_bestHelper_42 : decode cX5_bestHelper 42 = .ok (.istore 4, 2) := by decide +kernel
theorem dX5_bestHelper_44 : decode cX5_bestHelper 44 = .ok (.iload_n 1, 1) := by decide +kernel
theorem dX5_bestHelper_45 : decode cX5_bestHelper 45 = .ok (.ldc 34, 2) := by decide +kernel
theorem dX5_bestHelper_47 : decode cX5_bestHelper 47 = .ok (.if_icmp .eq 9, 3) := by decide +kernel
theorem dX5_bestHelper_50 : decode cX5_bestHelper 50 = .ok (.iload 4, 2) := by decide +kernel
theorem dX5_bestHelper_52 : decode cX5_bestHelper 52 = .ok (.iload_n 2, 1) := by decide +kernel
theorem dX5_bestHelper_53 : decode cX5_bestHelper 53 = .ok (.if_icmp .le 8, 3) := by decide +kernel
theorem dX5_bestHelper_56 : decode cX5_bestHelper 56 = .ok (.iload_n 3, 1) := by decide +kernel
theorem dX5_bestHelper_57 : decode cX5_bestHelper 57 = .ok (.istore_n 1, 1) := by decide +kernel
theorem dX5_bestHelper_58 : decode cX5_bestHelper 58 = .ok (.iload 4, 2) := by decide +kernel
theorem dX5_bestHelper_60 : decode cX5_bestHelper 60 = .ok (.istore_n 2, 1) := by decide +kernel
theorem dX5_bestHelper_61 : decode cX5_bestHelper 61 = .ok (.iinc 3 1, 3) := by decide +kernel
theorem dX5_bestHelper_64 : decode cX5_bestHelper 64 = .ok (.goto (-57), 3) := by decide +kernel
theorem dX5_bestHelper_67 : decode cX5_bestHelper 67 = .ok (.iload_n 1, 1) := by decide +kernel
theorem dX5_bestHelper_68 : decode cX5_bestHelper 68 = .ok (.ireturn, 1) := by decide +kernel
theorem dX5_loggedMany_0 : decode cX5_loggedMany 0 = .ok (.aload_n 0, 1) := by decide +kernel
theorem dX5_loggedMany_1 : decode cX5_loggedMany 1 = .ok (.getfield 7, 3) := by decide +kernel
theorem dX5_loggedMany_4 : decode cX5_loggedMany 4 = .ok (.sipush 353, 3) := by decide +kernel
theorem dX5_loggedMany_7 : decode cX5_loggedMany 7 = .ok (.iaload, 1) := by decide +kernel
theorem dX5_loggedMany_8 : decode cX5_loggedMany 8 = .ok (.bipush 12, 2) := by decide +kernel
theorem dX5_loggedMany_10 : decode cX5_loggedMany 10 = .ok (.if_icmp .ge 14, 3) := by decide +kernel
theorem dX5_loggedMany_13 : decode cX5_loggedMany 13 = .ok (.aload_n 0, 1) := by decide +kernel
theorem dX5_loggedMany_14 : decode cX5_loggedMany 14 = .ok (.getfield 7, 3) := by decide +kernel
theorem dX5_loggedMany_17 : decode cX5_loggedMany 17 = .ok (.sipush 353, 3) := by decide +kernel
theorem dX5_loggedMany_20 : decode cX5_loggedMany 20 = .ok (.iaload, 1) := by decide +kernel
theorem dX5_loggedMany_21 : decode cX5_loggedMany 21 = .ok (.goto 5, 3) := by decide +kernel
theorem dX5_loggedMany_24 : decode cX5_loggedMany 24 = .ok (.bipush 12, 2) := by decide +kernel
theorem dX5_loggedMany_26 : decode cX5_loggedMany 26 = .ok (.ireturn, 1) := by decide +kernel
theorem dX5_logged_0 : decode cX5_logged 0 = .ok (.iload_n 1, 1) := by decide +kernel
theorem dX5_logged_1 : decode cX5_logged 1 = .ok (.ifCond .lt 12, 3) := by decide +kernel
theorem dX5_logged_4 : decode cX5_logged 4 = .ok (.iload_n 2, 1) := by decide +kernel
theorem dX5_logged_5 : decode cX5_logged 5 = .ok (.iconst 0, 1) := by decide +kernel
theorem dX5_logged_6 : decode cX5_logged 6 = .ok (.iconst 4, 1) := by decide +kernel
theorem dX5_logged_7 : decode cX5_logged 7 = .ok (.invokestatic 23, 3) := by decide +kernel
theorem dX5_logged_10 : decode cX5_logged 10 = .ok (.ifCond .ne 6, 3) := by decide +kernel
theorem dX5_logged_13 : decode cX5_logged 13 = .ok (.ldc 77, 2) := by decide +kernel
theorem dX5_logged_15 : decode cX5_logged 15 = .ok (.ireturn, 1) := by decide +kernel
theorem dX5_logged_16 : decode cX5_logged 16 = .ok (.iload_n 1, 1) := by decide +kernel
theorem dX5_logged_17 : decode cX5_logged 17 = .ok (.aload_n 0, 1) := by decide +kernel
theorem dX5_logged_18 : decode cX5_logged 18 = .ok (.invokevirtual 162, 3) := by decide +kernel
theorem dX5_logged_21 : decode cX5_logged 21 = .ok (.if_icmp .lt 6, 3) := by decide +kernel
theorem dX5_logged_24 : decode cX5_logged 24 = .ok (.ldc 34, 2) := by decide +kernel
theorem dX5_logged_26 : decode cX5_logged 26 = .ok (.ireturn, 1) := by decide +kernel
theorem dX5_logged_27 : decode cX5_logged 27 = .ok (.aload_n 0, 1) := by decide +kernel
theorem dX5_logged_28 : decode cX5_logged 28 = .ok (.getfield 7, 3) := by decide +kernel
theorem dX5_logged_31 : decode cX5_logged 31 = .ok (.sipush 353, 3) := by decide +kernel
theorem dX5_logged_34 : decode cX5_logged 34 = .ok (.iaload, 1) := by decide +kernel
theorem dX5_logged_35 : decode cX5_logged 35 = .ok (.iconst 1, 1) := by decide +kernel
theorem dX5_logged_36 : decode cX5_logged 36 = .ok (.isub, 1) := by decide +kernel
theorem dX5_logged_37 : decode cX5_logged 37 = .ok (.iload_n 1, 1) := by decide +kernel
theorem dX5_logged_38 : decode cX5_logged 38 = .ok (.isub, 1) := by decide +kernel
theorem dX5_logged_39 : decode cX5_logged 39 = .ok (.istore_n 3, 1) := by decide +kernel
theorem dX5_logged_40 : decode cX5_logged 40 = .ok (.iload_n 2, 1) := by decide +kernel
theorem dX5_logged_41 : decode cX5_logged 41 = .ok (.iconst 4, 1) := by decide +kernel
theorem dX5_logged_42 : decode cX5_logged 42 = .ok (.if_icmp .ne 7, 3) := by decide +kernel
theorem dX5_logged_45 : decode cX5_logged 45 = .ok (.iload_n 3, 1) := by decide +kernel
theorem dX5_logged_46 : decode cX5_logged 46 = .ok (.goto 20, 3) := by decide +kernel
theorem dX5_logged_49 : decode cX5_logged 49 = .ok (.aload_n 0, 1) := by decide +kernel
theorem dX5_logged_50 : decode cX5_logged 50 = .ok (.getfield 7, 3) := by decide +kernel
theorem dX5_logged_53 : decode cX5_logged 53 = .ok (.sipush 300, 3) := by decide +kernel
theorem dX5_logged_56 : decode cX5_logged 56 = .ok (.iconst 4, 1) := by decide +kernel
theorem dX5_logged_57 : decode cX5_logged 57 = .ok (.iload_n 3, 1) := by decide +kernel
theorem dX5_logged_58 : decode cX5_logged 58 = .ok (.bipush 12, 2) := by decide +kernel
theorem dX5_logged_60 : decode cX5_logged 60 = .ok (.irem, 1) := by decide +kernel
theorem dX5_logged_61 : decode cX5_logged 61 = .ok (.imul, 1) := by decide +kernel
theorem dX5_logged_62 : decode cX5_logged 62 = .ok (.iadd, 1) := by decide +kernel
theorem dX5_logged_63 : decode cX5_logged 63 = .ok (.iload_n 2, 1) := by decide +kernel
theorem dX5_logged_64 : decode cX5_logged 64 = .ok (.iadd, 1) := by decide +kernel
theorem dX5_logged_65 : decode cX5_logged 65 = .ok (.iaload, 1) := by decide +kernel
theorem dX5_logged_66 : decode cX5_logged 66 = .ok (.ireturn, 1) := by decide +kernel
theorem dX5_programsLogged_0 : decode cX5_programsLogged 0 = .ok (.iconst 0, 1) := by decide +kernel
theorem dX5_programsLogged_1 : decode cX5_programsLogged 1 = .ok (.istore_n 1, 1) := by decide +kernel
theorem dX5_programsLogged_2 : decode cX5_programsLogged 2 = .ok (.iconst 0, 1) := by decide +kernel
theorem dX5_programsLogged_3 : decode cX5_programsLogged 3 = .ok (.istore_n 2, 1) := by decide +kernel
theorem dX5_programsLogged_4 : decode cX5_programsLogged 4 = .ok (.iconst 0, 1) := by decide +kernel
theorem dX5_programsLogged_5 : decode cX5_programsLogged 5 = .ok (.istore_n 3, 1) := by decide +kernel
theorem dX5_programsLogged_6 : decode cX5_programsLogged 6 = .ok (.iload_n 3, 1) := by decide +kernel
theorem dX5_programsLogged_7 : decode cX5_programsLogged 7 = .ok (.aload_n 0, 1) := by decide +kernel
theorem dX5_programsLogged_8 : decode cX5_programsLogged 8 = .ok (.invokevirtual 162, 3) := by decide +kernel
theorem dX5_programsLogged_11 : decode cX5_programsLogged 11 = .ok (.if_icmp .ge 47, 3) := by decide +kernel
theorem dX5_programsLogged_14 : decode cX5_programsLogged 14 = .ok (.aload_n 0, 1) := by decide +kernel
theorem dX5_programsLogged_15 : decode cX5_programsLogged 15 = .ok (.getfield 7, 3) := by decide +kernel
theorem dX5_programsLogged_18 : decode cX5_programsLogged 18 = .ok (.sipush 300, 3) := by decide +kernel
theorem dX5_programsLogged_21 : decode cX5_programsLogged 21 = .ok (.iconst 4, 1) := by decide +kernel
theorem dX5_programsLogged_22 : decode cX5_programsLogged 22 = .ok (.iload_n 3, 1) := by decide +kernel
theorem dX5_programsLogged_23 : decode cX5_programsLogged 23 = .ok (.imul, 1) := by decide +kernel
theorem dX5_programsLogged_24 : decode cX5_programsLogged 24 = .ok (.iadd, 1) := by decide +kernel
theorem dX5_programsLogged_25 : decode cX5_programsLogged 25 = .ok (.iaload, 1) := by decide +kernel
theorem dX5_programsLogged_26 : decode cX5_programsLogged 26 = .ok (.istore 4, 2) := by decide +kernel
theorem dX5_programsLogged_28 : decode cX5_programsLogged 28 = .ok (.iload_n 2, 1) := by decide +kernel
theorem dX5_programsLogged_29 : decode cX5_programsLogged 29 = .ok (.iload_n 1, 1) := by decide +kernel
theorem dX5_programsLogged_30 : decode cX5_programsLogged 30 = .ok (.iload 4, 2) := by decide +kernel
theorem dX5_programsLogged_32 : decode cX5_programsLogged 32 = .ok (.ishr, 1) := by decide +kernel
theorem dX5_programsLogged_33 : decode cX5_programsLogged 33 = .ok (.iconst 1, 1) := by decide +kernel
theorem dX5_programsLogged_34 : decode cX5_programsLogged 34 = .ok (.iand, 1) := by decide +kernel
theorem dX5_programsLogged_35 : decode cX5_programsLogged 35 = .ok (.ifCond .ne 7, 3) := by decide +kernel
theorem dX5_programsLogged_38 : decode cX5_programsLogged 38 = .ok (.iconst 1, 1) := by decide +kernel
theorem dX5_programsLogged_39 : decode cX5_programsLogged 39 = .ok (.goto 4, 3) := by decide +kernel
theorem dX5_programsLogged_42 : decode cX5_programsLogged 42 = .ok (.iconst 0, 1) := by decide +kernel
theorem dX5_programsLogged_43 : decode cX5_programsLogged 43 = .ok (.iadd, 1) := by decide +kernel
theorem dX5_programsLogged_44 : decode cX5_programsLogged 44 = .ok (.istore_n 2, 1) := by decide +kernel
theorem dX5_programsLogged_45 : decode cX5_programsLogged 45 = .ok (.iload_n 1, 1) := by decide +kernel
theorem dX5_programsLogged_46 : decode cX5_programsLogged 46 = .ok (.iconst 1, 1) := by decide +kernel
theorem dX5_programsLogged_47 : decode cX5_programsLogged 47 = .ok (.iload 4, 2) := by decide +kernel
theorem dX5_programsLogged_49 : decode cX5_programsLogged 49 = .ok (.ishl, 1) := by decide +kernel
theorem dX5_programsLogged_50 : decode cX5_programsLogged 50 = .ok (.ior, 1) := by decide +kernel
theorem dX5_programsLogged_51 : decode cX5_programsLogged 51 = .ok (.istore_n 1, 1) := by decide +kernel
theorem dX5_programsLogged_52 : decode cX5_programsLogged 52 = .ok (.iinc 3 1, 3) := by decide +kernel
theorem dX5_programsLogged_55 : decode cX5_programsLogged 55 = .ok (.goto (-49), 3) := by decide +kernel
theorem dX5_programsLogged_58 : decode cX5_programsLogged 58 = .ok (.iload_n 2, 1) := by decide +kernel
theorem dX5_programsLogged_59 : decode cX5_programsLogged 59 = .ok (.ireturn, 1) := by decide +kernel
theorem dX5_hoursOfAll_0 : decode cX5_hoursOfAll 0 = .ok (.iconst 0, 1) := by decide +kernel
theorem dX5_hoursOfAll_1 : decode cX5_hoursOfAll 1 = .ok (.istore_n 1, 1) := by decide +kernel
theorem dX5_hoursOfAll_2 : decode cX5_hoursOfAll 2 = .ok (.iconst 0, 1) := by decide +kernel
theorem dX5_hoursOfAll_3 : decode cX5_hoursOfAll 3 = .ok (.istore_n 2, 1) := by decide +kernel
theorem dX5_hoursOfAll_4 : decode cX5_hoursOfAll 4 = .ok (.iload_n 2, 1) := by decide +kernel
theorem dX5_hoursOfAll_5 : decode cX5_hoursOfAll 5 = .ok (.aload_n 0, 1) := by decide +kernel
theorem dX5_hoursOfAll_6 : decode cX5_hoursOfAll 6 = .ok (.getfield 7, 3) := by decide +kernel
theorem dX5_hoursOfAll_9 : decode cX5_hoursOfAll 9 = .ok (.sipush 351, 3) := by decide +kernel
theorem dX5_hoursOfAll_12 : decode cX5_hoursOfAll 12 = .ok (.iaload, 1) := by decide +kernel
theorem dX5_hoursOfAll_13 : decode cX5_hoursOfAll 13 = .ok (.if_icmp .ge 22, 3) := by decide +kernel
theorem dX5_hoursOfAll_16 : decode cX5_hoursOfAll 16 = .ok (.iload_n 1, 1) := by decide +kernel
theorem dX5_hoursOfAll_17 : decode cX5_hoursOfAll 17 = .ok (.aload_n 0, 1) := by decide +kernel
theorem dX5_hoursOfAll_18 : decode cX5_hoursOfAll 18 = .ok (.getfield 7, 3) := by decide +kernel
theorem dX5_hoursOfAll_21 : decode cX5_hoursOfAll 21 = .ok (.iload_n 2, 1) := by decide +kernel
theorem dX5_hoursOfAll_22 : decode cX5_hoursOfAll 22 = .ok (.iconst 4, 1) := by decide +kernel
theorem dX5_hoursOfAll_23 : decode cX5_hoursOfAll 23 = .ok (.invokestatic 54, 3) := by decide +kernel
theorem dX5_hoursOfAll_26 : decode cX5_hoursOfAll 26 = .ok (.iaload, 1) := by decide +kernel
theorem dX5_hoursOfAll_27 : decode cX5_hoursOfAll 27 = .ok (.iadd, 1) := by decide +kernel
theorem dX5_hoursOfAll_28 : decode cX5_hoursOfAll 28 = .ok (.istore_n 1, 1) := by decide +kernel
theorem dX5_hoursOfAll_29 : decode cX5_hoursOfAll 29 = .ok (.iinc 2 1, 3) := by decide +kernel
theorem dX5_hoursOfAll_32 : decode cX5_hoursOfAll 32 = .ok (.goto (-28), 3) := by decide +kernel
theorem dX5_hoursOfAll_35 : decode cX5_hoursOfAll 35 = .ok (.iload_n 1, 1) := by decide +kernel
theorem dX5_hoursOfAll_36 : decode cX5_hoursOfAll 36 = .ok (.ireturn, 1) := by decide +kernel
theorem dX5_count_0 : decode cX5_count 0 = .ok (.iload_n 1, 1) := by decide +kernel
theorem dX5_count_1 : decode cX5_count 1 = .ok (.tableswitch 222 0 16 #[83, 92, 101, 110, 128, 137, 146, 155, 164, 169, 175, 184, 193, 198, 207, 212, 217], 83) := by decide +kernel
theorem dX5_count_84 : decode cX5_count 84 = .ok (.aload_n 0, 1) := by decide +kernel
theorem dX5_count_85 : decode cX5_count 85 = .ok (.getfield 7, 3) := by decide +kernel
theorem dX5_count_88 : decode cX5_count 88 = .ok (.sipush 353, 3) := by decide +kernel
theorem dX5_count_91 : decode cX5_count 91 = .ok (.iaload, 1) := by decide +kernel
theorem dX5_count_92 : decode cX5_count 92 = .ok (.ireturn, 1) := by decide +kernel
theorem dX5_count_93 : decode cX5_count 93 = .ok (.aload_n 0, 1) := by decide +kernel
theorem dX5_count_94 : decode cX5_count 94 = .ok (.getfield 7, 3) := by decide +kernel
theorem dX5_count_97 : decode cX5_count 97 = .ok (.sipush 354, 3) := by decide +kernel
theorem dX5_count_100 : decode cX5_count 100 = .ok (.iaload, 1) := by decide +kernel
theorem dX5_count_101 : decode cX5_count 101 = .ok (.ireturn, 1) := by decide +kernel
theorem dX5_count_102 : decode cX5_count 102 = .ok (.aload_n 0, 1) := by decide +kernel
theorem dX5_count_103 : decode cX5_count 103 = .ok (.getfield 7, 3) := by decide +kernel
theorem dX5_count_106 : decode cX5_count 106 = .ok (.sipush 355, 3) := by decide +kernel
theorem dX5_count_109 : decode cX5_count 109 = .ok (.iaload, 1) := by decide +kernel
theorem dX5_count_110 : decode cX5_count 110 = .ok (.ireturn, 1) := by decide +kernel
theorem dX5_count_111 : decode cX5_count 111 = .ok (.aload_n 0, 1) := by decide +kernel
theorem dX5_count_112 : decode cX5_count 112 = .ok (.getfield 7, 3) := by decide +kernel
theorem dX5_count_115 : decode cX5_count 115 = .ok (.sipush 353, 3) := by decide +kernel
theorem dX5_count_118 : decode cX5_count 118 = .ok (.iaload, 1) := by decide +kernel
theorem dX5_count_119 : decode cX5_count 119 = .ok (.aload_n 0, 1) := by decide +kernel
theorem dX5_count_120 : decode cX5_count 120 = .ok (.getfield 7, 3) := by decide +kernel
theorem dX5_count_123 : decode cX5_count 123 = .ok (.sipush 354, 3) := by decide +kernel
theorem dX5_count_126 : decode cX5_count 126 = .ok (.iaload, 1) := by decide +kernel
theorem dX5_count_127 : decode cX5_count 127 = .ok (.isub, 1) := by decide +kernel
theorem dX5_count_128 : decode cX5_count 128 = .ok (.ireturn, 1) := by decide +kernel
theorem dX5_count_129 : decode cX5_count 129 = .ok (.aload_n 0, 1) := by decide +kernel
theorem dX5_count_130 : decode cX5_count 130 = .ok (.getfield 7, 3) := by decide +kernel
theorem dX5_count_133 : decode cX5_count 133 = .ok (.sipush 356, 3) := by decide +kernel
theorem dX5_count_136 : decode cX5_count 136 = .ok (.iaload, 1) := by decide +kernel
theorem dX5_count_137 : decode cX5_count 137 = .ok (.ireturn, 1) := by decide +kernel
theorem dX5_count_138 : decode cX5_count 138 = .ok (.aload_n 0, 1) := by decide +kernel
theorem dX5_count_139 : decode cX5_count 139 = .ok (.getfield 7, 3) := by decide +kernel
theorem dX5_count_142 : decode cX5_count 142 = .ok (.sipush 357, 3) := by decide +kernel
theorem dX5_count_145 : decode cX5_count 145 = .ok (.iaload, 1) := by decide +kernel
theorem dX5_count_146 : decode cX5_count 146 = .ok (.ireturn, 1) := by decide +kernel
theorem dX5_count_147 : decode cX5_count 147 = .ok (.aload_n 0, 1) := by decide +kernel
theorem dX5_count_148 : decode cX5_count 148 = .ok (.getfield 7, 3) := by decide +kernel
theorem dX5_count_151 : decode cX5_count 151 = .ok (.sipush 349, 3) := by decide +kernel
theorem dX5_count_154 : decode cX5_count 154 = .ok (.iaload, 1) := by decide +kernel
theorem dX5_count_155 : decode cX5_count 155 = .ok (.ireturn, 1) := by decide +kernel
theorem dX5_count_156 : decode cX5_count 156 = .ok (.aload_n 0, 1) := by decide +kernel
theorem dX5_count_157 : decode cX5_count 157 = .ok (.getfield 7, 3) := by decide +kernel
theorem dX5_count_160 : decode cX5_count 160 = .ok (.sipush 350, 3) := by decide +kernel
theorem dX5_count_163 : decode cX5_count 163 = .ok (.iaload, 1) := by decide +kernel
theorem dX5_count_164 : decode cX5_count 164 = .ok (.ireturn, 1) := by decide +kernel
theorem dX5_count_165 : decode cX5_count 165 = .ok (.aload_n 0, 1) := by decide +kernel
theorem dX5_count_166 : decode cX5_count 166 = .ok (.invokevirtual 73, 3) := by decide +kernel
theorem dX5_count_169 : decode cX5_count 169 = .ok (.ireturn, 1) := by decide +kernel
theorem dX5_count_170 : decode cX5_count 170 = .ok (.aload_n 0, 1) := by decide +kernel
theorem dX5_count_171 : decode cX5_count 171 = .ok (.iconst (-1), 1) := by decide +kernel
theorem dX5_count_172 : decode cX5_count 172 = .ok (.invokevirtual 159, 3) := by decide +kernel
theorem dX5_count_175 : decode cX5_count 175 = .ok (.ireturn, 1) := by decide +kernel
theorem dX5_count_176 : decode cX5_count 176 = .ok (.aload_n 0, 1) := by decide +kernel
theorem dX5_count_177 : decode cX5_count 177 = .ok (.getfield 7, 3) := by decide +kernel
theorem dX5_count_180 : decode cX5_count 180 = .ok (.sipush 351, 3) := by decide +kernel
theorem dX5_count_183 : decode cX5_count 183 = .ok (.iaload, 1) := by decide +kernel
theorem dX5_count_184 : decode cX5_count 184 = .ok (.ireturn, 1) := by decide +kernel
theorem dX5_count_185 : decode cX5_count 185 = .ok (.aload_n 0, 1) := by decide +kernel
theorem dX5_count_186 : decode cX5_count 186 = .ok (.getfield 7, 3) := by decide +kernel
theorem dX5_count_189 : decode cX5_count 189 = .ok (.sipush 352, 3) := by decide +kernel
theorem dX5_count_192 : decode cX5_count 192 = .ok (.iaload, 1) := by decide +kernel
theorem dX5_count_193 : decode cX5_count 193 = .ok (.ireturn, 1) := by decide +kernel
theorem dX5_count_194 : decode cX5_count 194 = .ok (.aload_n 0, 1) := by decide +kernel
theorem dX5_count_195 : decode cX5_count 195 = .ok (.invokevirtual 165, 3) := by decide +kernel
theorem dX5_count_198 : decode cX5_count 198 = .ok (.ireturn, 1) := by decide +kernel
theorem dX5_count_199 : decode cX5_count 199 = .ok (.aload_n 0, 1) := by decide +kernel
theorem dX5_count_200 : decode cX5_count 200 = .ok (.getfield 7, 3) := by decide +kernel
theorem dX5_count_203 : decode cX5_count 203 = .ok (.sipush 348, 3) := by decide +kernel
theorem dX5_count_206 : decode cX5_count 206 = .ok (.iaload, 1) := by decide +kernel
theorem dX5_count_207 : decode cX5_count 207 = .ok (.ireturn, 1) := by decide +kernel
theorem dX5_count_208 : decode cX5_count 208 = .ok (.aload_n 0, 1) := by decide +kernel
theorem dX5_count_209 : decode cX5_count 209 = .ok (.getfield 27, 3) := by decide +kernel
theorem dX5_count_212 : decode cX5_count 212 = .ok (.ireturn, 1) := by decide +kernel
theorem dX5_count_213 : decode cX5_count 213 = .ok (.aload_n 0, 1) := by decide +kernel
theorem dX5_count_214 : decode cX5_count 214 = .ok (.getfield 153, 3) := by decide +kernel
theorem dX5_count_217 : decode cX5_count 217 = .ok (.ireturn, 1) := by decide +kernel
theorem dX5_count_218 : decode cX5_count 218 = .ok (.aload_n 0, 1) := by decide +kernel
theorem dX5_count_219 : decode cX5_count 219 = .ok (.invokevirtual 168, 3) := by decide +kernel
theorem dX5_count_222 : decode cX5_count 222 = .ok (.ireturn, 1) := by decide +kernel
theorem dX5_count_223 : decode cX5_count 223 = .ok (.ldc 77, 2) := by decide +kernel
theorem dX5_count_225 : decode cX5_count 225 = .ok (.ireturn, 1) := by decide +kernel
theorem dJ6_bitCount_0f7a4_0 : decode cJ6_bitCount_0f7a4 0 = .ok (.iload_n 0, 1) := by decide +kernel
theorem dJ6_bitCount_0f7a4_1 : decode cJ6_bitCount_0f7a4 1 = .ok (.iload_n 0, 1) := by decide +kernel
theorem dJ6_bitCount_0f7a4_2 : decode cJ6_bitCount_0f7a4 2 = .ok (.iconst 1, 1) := by decide +kernel
theorem dJ6_bitCount_0f7a4_3 : decode cJ6_bitCount_0f7a4 3 = .ok (.iushr, 1) := by decide +kernel
theorem dJ6_bitCount_0f7a4_4 : decode cJ6_bitCount_0f7a4 4 = .ok (.ldc_w 265, 3) := by decide +kernel
theorem dJ6_bitCount_0f7a4_7 : decode cJ6_bitCount_0f7a4 7 = .ok (.iand, 1) := by decide +kernel
theorem dJ6_bitCount_0f7a4_8 : decode cJ6_bitCount_0f7a4 8 = .ok (.isub, 1) := by decide +kernel
theorem dJ6_bitCount_0f7a4_9 : decode cJ6_bitCount_0f7a4 9 = .ok (.istore_n 0, 1) := by decide +kernel
theorem dJ6_bitCount_0f7a4_10 : decode cJ6_bitCount_0f7a4 10 = .ok (.iload_n 0, 1) := by decide +kernel
theorem dJ6_bitCount_0f7a4_11 : decode cJ6_bitCount_0f7a4 11 = .ok (.ldc_w 266, 3) := by decide +kernel
theorem dJ6_bitCount_0f7a4_14 : decode cJ6_bitCount_0f7a4 14 = .ok (.iand, 1) := by decide +kernel
theorem dJ6_bitCount_0f7a4_15 : decode cJ6_bitCount_0f7a4 15 = .ok (.iload_n 0, 1) := by decide +kernel
theorem dJ6_bitCount_0f7a4_16 : decode cJ6_bitCount_0f7a4 16 = .ok (.iconst 2, 1) := by decide +kernel
theorem dJ6_bitCount_0f7a4_17 : decode cJ6_bitCount_0f7a4 17 = .ok (.iushr, 1) := by decide +kernel
theorem dJ6_bitCount_0f7a4_18 : decode cJ6_bitCount_0f7a4 18 = .ok (.ldc_w 266, 3) := by decide +kernel
theorem dJ6_bitCount_0f7a4_21 : decode cJ6_bitCount_0f7a4 21 = .ok (.iand, 1) := by decide +kernel
theorem dJ6_bitCount_0f7a4_22 : decode cJ6_bitCount_0f7a4 22 = .ok (.iadd, 1) := by decide +kernel
theorem dJ6_bitCount_0f7a4_23 : decode cJ6_bitCount_0f7a4 23 = .ok (.istore_n 0, 1) := by decide +kernel
theorem dJ6_bitCount_0f7a4_24 : decode cJ6_bitCount_0f7a4 24 = .ok (.iload_n 0, 1) := by decide +kernel
theorem dJ6_bitCount_0f7a4_25 : decode cJ6_bitCount_0f7a4 25 = .ok (.iload_n 0, 1) := by decide +kernel
theorem dJ6_bitCount_0f7a4_26 : decode cJ6_bitCount_0f7a4 26 = .ok (.iconst 4, 1) := by decide +kernel
theorem dJ6_bitCount_0f7a4_27 : decode cJ6_bitCount_0f7a4 27 = .ok (.iushr, 1) := by decide +kernel
theorem dJ6_bitCount_0f7a4_28 : decode cJ6_bitCount_0f7a4 28 = .ok (.iadd, 1) := by decide +kernel
theorem dJ6_bitCount_0f7a4_29 : decode cJ6_bitCount_0f7a4 29 = .ok (.ldc_w 267, 3) := by decide +kernel
theorem dJ6_bitCount_0f7a4_32 : decode cJ6_bitCount_0f7a4 32 = .ok (.iand, 1) := by decide +kernel
theorem dJ6_bitCount_0f7a4_33 : decode cJ6_bitCount_0f7a4 33 = .ok (.istore_n 0, 1) := by decide +kernel
theorem dJ6_bitCount_0f7a4_34 : decode cJ6_bitCount_0f7a4 34 = .ok (.iload_n 0, 1) := by decide +kernel
theorem dJ6_bitCount_0f7a4_35 : decode cJ6_bitCount_0f7a4 35 = .ok (.iload_n 0, 1) := by decide +kernel
theorem dJ6_bitCount_0f7a4_36 : decode cJ6_bitCount_0f7a4 36 = .ok (.bipush 8, 2) := by decide +kernel
theorem dJ6_bitCount_0f7a4_38 : decode cJ6_bitCount_0f7a4 38 = .ok (.iushr, 1) := by decide +kernel
theorem dJ6_bitCount_0f7a4_39 : decode cJ6_bitCount_0f7a4 39 = .ok (.iadd, 1) := by decide +kernel
theorem dJ6_bitCount_0f7a4_40 : decode cJ6_bitCount_0f7a4 40 = .ok (.istore_n 0, 1) := by decide +kernel
theorem dJ6_bitCount_0f7a4_41 : decode cJ6_bitCount_0f7a4 41 = .ok (.iload_n 0, 1) := by decide +kernel
theorem dJ6_bitCount_0f7a4_42 : decode cJ6_bitCount_0f7a4 42 = .ok (.iload_n 0, 1) := by decide +kernel
theorem dJ6_bitCount_0f7a4_43 : decode cJ6_bitCount_0f7a4 43 = .ok (.bipush 16, 2) := by decide +kernel
theorem dJ6_bitCount_0f7a4_45 : decode cJ6_bitCount_0f7a4 45 = .ok (.iushr, 1) := by decide +kernel
theorem dJ6_bitCount_0f7a4_46 : decode cJ6_bitCount_0f7a4 46 = .ok (.iadd, 1) := by decide +kernel
theorem dJ6_bitCount_0f7a4_47 : decode cJ6_bitCount_0f7a4 47 = .ok (.istore_n 0, 1) := by decide +kernel
theorem dJ6_bitCount_0f7a4_48 : decode cJ6_bitCount_0f7a4 48 = .ok (.iload_n 0, 1) := by decide +kernel
theorem dJ6_bitCount_0f7a4_49 : decode cJ6_bitCount_0f7a4 49 = .ok (.bipush 63, 2) := by decide +kernel
theorem dJ6_bitCount_0f7a4_51 : decode cJ6_bitCount_0f7a4 51 = .ok (.iand, 1) := by decide +kernel
theorem dJ6_bitCount_0f7a4_52 : decode cJ6_bitCount_0f7a4 52 = .ok (.ireturn, 1) := by decide +kernel
theorem dJ9_abs_0f7a4_0 : decode cJ9_abs_0f7a4 0 = .ok (.iload_n 0, 1) := by decide +kernel
theorem dJ9_abs_0f7a4_1 : decode cJ9_abs_0f7a4 1 = .ok (.ifCond .ge 8, 3) := by decide +kernel
theorem dJ9_abs_0f7a4_4 : decode cJ9_abs_0f7a4 4 = .ok (.iload_n 0, 1) := by decide +kernel
theorem dJ9_abs_0f7a4_5 : decode cJ9_abs_0f7a4 5 = .ok (.ineg, 1) := by decide +kernel
theorem dJ9_abs_0f7a4_6 : decode cJ9_abs_0f7a4 6 = .ok (.goto 4, 3) := by decide +kernel
theorem dJ9_abs_0f7a4_9 : decode cJ9_abs_0f7a4 9 = .ok (.iload_n 0, 1) := by decide +kernel
theorem dJ9_abs_0f7a4_10 : decode cJ9_abs_0f7a4 10 = .ok (.ireturn, 1) := by decide +kernel
theorem dJ9_max_7cf53_0 : decode cJ9_max_7cf53 0 = .ok (.iload_n 0, 1) := by decide +kernel
theorem dJ9_max_7cf53_1 : decode cJ9_max_7cf53 1 = .ok (.iload_n 1, 1) := by decide +kernel
theorem dJ9_max_7cf53_2 : decode cJ9_max_7cf53 2 = .ok (.if_icmp .lt 7, 3) := by decide +kernel
theorem dJ9_max_7cf53_5 : decode cJ9_max_7cf53 5 = .ok (.iload_n 0, 1) := by decide +kernel
theorem dJ9_max_7cf53_6 : decode cJ9_max_7cf53 6 = .ok (.goto 4, 3) := by decide +kernel
theorem dJ9_max_7cf53_9 : decode cJ9_max_7cf53 9 = .ok (.iload_n 1, 1) := by decide +kernel
theorem dJ9_max_7cf53_10 : decode cJ9_max_7cf53 10 = .ok (.ireturn, 1) := by decide +kernel
theorem dJ9_min_7cf53_0 : decode cJ9_min_7cf53 0 = .ok (.iload_n 0, 1) := by decide +kernel
theorem dJ9_min_7cf53_1 : decode cJ9_min_7cf53 1 = .ok (.iload_n 1, 1) := by decide +kernel
theorem dJ9_min_7cf53_2 : decode cJ9_min_7cf53 2 = .ok (.if_icmp .gt 7, 3) := by decide +kernel
theorem dJ9_min_7cf53_5 : decode cJ9_min_7cf53 5 = .ok (.iload_n 0, 1) := by decide +kernel
theorem dJ9_min_7cf53_6 : decode cJ9_min_7cf53 6 = .ok (.goto 4, 3) := by decide +kernel
theorem dJ9_min_7cf53_9 : decode cJ9_min_7cf53 9 = .ok (.iload_n 1, 1) := by decide +kernel
theorem dJ9_min_7cf53_10 : decode cJ9_min_7cf53 10 = .ok (.ireturn, 1) := by decide +kernel
end
