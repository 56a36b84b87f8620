section
-- ===== PART A: goes FIRST, ahead of the names: the tables' words, and 'selects' of the private methods out of them =====
/-- a private method of a class that the tables say can be made, by its rows of tables_1 -/
def lw_okq (q : MethodName × Nat) : Prop := (q.1.cls ≠ "java/lang/invoke/MethodHandle" ∧ q.1.cls ≠ "java/lang/invoke/VarHandle") ∧ Cond.instantiable q.1.cls q.2 ∈ tables_1 ∧ Cond.privateMethod q.1 ∈ tables_1 ∧ Cond.instanceMethod q.1 ∈ tables_1
theorem lw_p0 : lw_okq (⟨"ParoleCache$Helper", "begin", "(III)V"⟩, 16) := ⟨⟨by decide +kernel, by decide +kernel⟩, List.mem_of_getElem? (i := 52) (by decide +kernel), List.mem_of_getElem? (i := 60) (by decide +kernel), List.mem_of_getElem? (i := 61) (by decide +kernel)⟩
theorem lw_p1 : lw_okq (⟨"ParoleCache", "remember", "()V"⟩, 7) := ⟨⟨by decide +kernel, by decide +kernel⟩, List.mem_of_getElem? (i := 10) (by decide +kernel), List.mem_of_getElem? (i := 233) (by decide +kernel), List.mem_of_getElem? (i := 234) (by decide +kernel)⟩
theorem lw_p2 : lw_okq (⟨"ParoleCache$State", "copyFrom", "(LParoleCache$State;)V"⟩, 13) := ⟨⟨by decide +kernel, by decide +kernel⟩, List.mem_of_getElem? (i := 18) (by decide +kernel), List.mem_of_getElem? (i := 237) (by decide +kernel), List.mem_of_getElem? (i := 238) (by decide +kernel)⟩
theorem lw_p3 : lw_okq (⟨"ParoleCache$Rows", "copyFrom", "(LParoleCache$Rows;)V"⟩, 4) := ⟨⟨by decide +kernel, by decide +kernel⟩, List.mem_of_getElem? (i := 25) (by decide +kernel), List.mem_of_getElem? (i := 241) (by decide +kernel), List.mem_of_getElem? (i := 242) (by decide +kernel)⟩
theorem lw_p4 : lw_okq (⟨"ParoleCache$Helper", "copyFrom", "(LParoleCache$Helper;)V"⟩, 16) := ⟨⟨by decide +kernel, by decide +kernel⟩, List.mem_of_getElem? (i := 52) (by decide +kernel), List.mem_of_getElem? (i := 248) (by decide +kernel), List.mem_of_getElem? (i := 249) (by decide +kernel)⟩
theorem lw_p5 : lw_okq (⟨"ParoleCache$State", "throwAllOut", "()I"⟩, 13) := ⟨⟨by decide +kernel, by decide +kernel⟩, List.mem_of_getElem? (i := 18) (by decide +kernel), List.mem_of_getElem? (i := 253) (by decide +kernel), List.mem_of_getElem? (i := 254) (by decide +kernel)⟩
theorem lw_p6 : lw_okq (⟨"ParoleCache$State", "throwOldest", "(LParoleCache$Rows;I)V"⟩, 13) := ⟨⟨by decide +kernel, by decide +kernel⟩, List.mem_of_getElem? (i := 18) (by decide +kernel), List.mem_of_getElem? (i := 258) (by decide +kernel), List.mem_of_getElem? (i := 259) (by decide +kernel)⟩
theorem lw_p7 : lw_okq (⟨"ParoleCache$Rows", "get", "(II)I"⟩, 4) := ⟨⟨by decide +kernel, by decide +kernel⟩, List.mem_of_getElem? (i := 25) (by decide +kernel), List.mem_of_getElem? (i := 262) (by decide +kernel), List.mem_of_getElem? (i := 263) (by decide +kernel)⟩
theorem lw_p8 : lw_okq (⟨"ParoleCache$Rows", "holds", "(II)Z"⟩, 4) := ⟨⟨by decide +kernel, by decide +kernel⟩, List.mem_of_getElem? (i := 25) (by decide +kernel), List.mem_of_getElem? (i := 266) (by decide +kernel), List.mem_of_getElem? (i := 267) (by decide +kernel)⟩
theorem lw_p9 : lw_okq (⟨"ParoleCache$State", "helperAt", "(I)LParoleCache$Helper;"⟩, 13) := ⟨⟨by decide +kernel, by decide +kernel⟩, List.mem_of_getElem? (i := 18) (by decide +kernel), List.mem_of_getElem? (i := 271) (by decide +kernel), List.mem_of_getElem? (i := 272) (by decide +kernel)⟩
theorem lw_p10 : lw_okq (⟨"ParoleCache$Rows", "remove", "(I)V"⟩, 4) := ⟨⟨by decide +kernel, by decide +kernel⟩, List.mem_of_getElem? (i := 25) (by decide +kernel), List.mem_of_getElem? (i := 277) (by decide +kernel), List.mem_of_getElem? (i := 278) (by decide +kernel)⟩
theorem lw_p11 : lw_okq (⟨"ParoleCache$Rows", "touch", "(I)V"⟩, 4) := ⟨⟨by decide +kernel, by decide +kernel⟩, List.mem_of_getElem? (i := 25) (by decide +kernel), List.mem_of_getElem? (i := 281) (by decide +kernel), List.mem_of_getElem? (i := 282) (by decide +kernel)⟩
theorem lw_p12 : lw_okq (⟨"ParoleCache$Rows", "open", "(I)I"⟩, 4) := ⟨⟨by decide +kernel, by decide +kernel⟩, List.mem_of_getElem? (i := 25) (by decide +kernel), List.mem_of_getElem? (i := 285) (by decide +kernel), List.mem_of_getElem? (i := 286) (by decide +kernel)⟩
theorem lw_p13 : lw_okq (⟨"ParoleCache$Rows", "put", "(III)V"⟩, 4) := ⟨⟨by decide +kernel, by decide +kernel⟩, List.mem_of_getElem? (i := 25) (by decide +kernel), List.mem_of_getElem? (i := 289) (by decide +kernel), List.mem_of_getElem? (i := 290) (by decide +kernel)⟩
theorem lw_p14 : lw_okq (⟨"ParoleCache$Helper", "sentence", "(I)V"⟩, 16) := ⟨⟨by decide +kernel, by decide +kernel⟩, List.mem_of_getElem? (i := 52) (by decide +kernel), List.mem_of_getElem? (i := 293) (by decide +kernel), List.mem_of_getElem? (i := 294) (by decide +kernel)⟩
theorem lw_p15 : lw_okq (⟨"ParoleCache$State", "linesInCache", "()I"⟩, 13) := ⟨⟨by decide +kernel, by decide +kernel⟩, List.mem_of_getElem? (i := 18) (by decide +kernel), List.mem_of_getElem? (i := 301) (by decide +kernel), List.mem_of_getElem? (i := 302) (by decide +kernel)⟩
def lw_privs_1 : List (MethodName × Nat) := [(⟨"ParoleCache$Helper", "begin", "(III)V"⟩, 16), (⟨"ParoleCache", "remember", "()V"⟩, 7), (⟨"ParoleCache$State", "copyFrom", "(LParoleCache$State;)V"⟩, 13), (⟨"ParoleCache$Rows", "copyFrom", "(LParoleCache$Rows;)V"⟩, 4), (⟨"ParoleCache$Helper", "copyFrom", "(LParoleCache$Helper;)V"⟩, 16), (⟨"ParoleCache$State", "throwAllOut", "()I"⟩, 13), (⟨"ParoleCache$State", "throwOldest", "(LParoleCache$Rows;I)V"⟩, 13), (⟨"ParoleCache$Rows", "get", "(II)I"⟩, 4), (⟨"ParoleCache$Rows", "holds", "(II)Z"⟩, 4), (⟨"ParoleCache$State", "helperAt", "(I)LParoleCache$Helper;"⟩, 13), (⟨"ParoleCache$Rows", "remove", "(I)V"⟩, 4), (⟨"ParoleCache$Rows", "touch", "(I)V"⟩, 4), (⟨"ParoleCache$Rows", "open", "(I)I"⟩, 4), (⟨"ParoleCache$Rows", "put", "(III)V"⟩, 4), (⟨"ParoleCache$Helper", "sentence", "(I)V"⟩, 16), (⟨"ParoleCache$State", "linesInCache", "()I"⟩, 13)]
theorem lw_r1 : ∀ q ∈ lw_privs_1, lw_okq q := List.forall_mem_cons.mpr ⟨lw_p0, List.forall_mem_cons.mpr ⟨lw_p1, List.forall_mem_cons.mpr ⟨lw_p2, List.forall_mem_cons.mpr ⟨lw_p3, List.forall_mem_cons.mpr ⟨lw_p4, List.forall_mem_cons.mpr ⟨lw_p5, List.forall_mem_cons.mpr ⟨lw_p6, List.forall_mem_cons.mpr ⟨lw_p7, List.forall_mem_cons.mpr ⟨lw_p8, List.forall_mem_cons.mpr ⟨lw_p9, List.forall_mem_cons.mpr ⟨lw_p10, List.forall_mem_cons.mpr ⟨lw_p11, List.forall_mem_cons.mpr ⟨lw_p12, List.forall_mem_cons.mpr ⟨lw_p13, List.forall_mem_cons.mpr ⟨lw_p14, List.forall_mem_cons.mpr ⟨lw_p15, fun _ h => absurd h List.not_mem_nil⟩⟩⟩⟩⟩⟩⟩⟩⟩⟩⟩⟩⟩⟩⟩⟩
theorem lw_p16 : lw_okq (⟨"ParoleCache$State", "hire", "(III)I"⟩, 13) := ⟨⟨by decide +kernel, by decide +kernel⟩, List.mem_of_getElem? (i := 18) (by decide +kernel), List.mem_of_getElem? (i := 310) (by decide +kernel), List.mem_of_getElem? (i := 311) (by decide +kernel)⟩
theorem lw_p17 : lw_okq (⟨"ParoleCache$Helper", "release", "()I"⟩, 16) := ⟨⟨by decide +kernel, by decide +kernel⟩, List.mem_of_getElem? (i := 52) (by decide +kernel), List.mem_of_getElem? (i := 330) (by decide +kernel), List.mem_of_getElem? (i := 331) (by decide +kernel)⟩
theorem lw_p18 : lw_okq (⟨"ParoleCache$State", "perform", "(II)I"⟩, 13) := ⟨⟨by decide +kernel, by decide +kernel⟩, List.mem_of_getElem? (i := 18) (by decide +kernel), List.mem_of_getElem? (i := 343) (by decide +kernel), List.mem_of_getElem? (i := 344) (by decide +kernel)⟩
theorem lw_p19 : lw_okq (⟨"ParoleCache$Helper", "workOneHour", "(I)V"⟩, 16) := ⟨⟨by decide +kernel, by decide +kernel⟩, List.mem_of_getElem? (i := 52) (by decide +kernel), List.mem_of_getElem? (i := 347) (by decide +kernel), List.mem_of_getElem? (i := 348) (by decide +kernel)⟩
theorem lw_p20 : lw_okq (⟨"ParoleCache$State", "serve", "(I)I"⟩, 13) := ⟨⟨by decide +kernel, by decide +kernel⟩, List.mem_of_getElem? (i := 18) (by decide +kernel), List.mem_of_getElem? (i := 351) (by decide +kernel), List.mem_of_getElem? (i := 352) (by decide +kernel)⟩
theorem lw_p21 : lw_okq (⟨"ParoleCache$State", "setOf", "(I)LParoleCache$Rows;"⟩, 13) := ⟨⟨by decide +kernel, by decide +kernel⟩, List.mem_of_getElem? (i := 18) (by decide +kernel), List.mem_of_getElem? (i := 355) (by decide +kernel), List.mem_of_getElem? (i := 356) (by decide +kernel)⟩
theorem lw_p22 : lw_okq (⟨"ParoleCache$State", "setAt", "(I)LParoleCache$Rows;"⟩, 13) := ⟨⟨by decide +kernel, by decide +kernel⟩, List.mem_of_getElem? (i := 18) (by decide +kernel), List.mem_of_getElem? (i := 359) (by decide +kernel), List.mem_of_getElem? (i := 360) (by decide +kernel)⟩
theorem lw_p23 : lw_okq (⟨"ParoleCache$Rows", "find", "(I)I"⟩, 4) := ⟨⟨by decide +kernel, by decide +kernel⟩, List.mem_of_getElem? (i := 25) (by decide +kernel), List.mem_of_getElem? (i := 363) (by decide +kernel), List.mem_of_getElem? (i := 364) (by decide +kernel)⟩
theorem lw_p24 : lw_okq (⟨"ParoleCache$State", "punishThrower", "(I)V"⟩, 13) := ⟨⟨by decide +kernel, by decide +kernel⟩, List.mem_of_getElem? (i := 18) (by decide +kernel), List.mem_of_getElem? (i := 367) (by decide +kernel), List.mem_of_getElem? (i := 368) (by decide +kernel)⟩
theorem lw_p25 : lw_okq (⟨"ParoleCache$State", "fetch", "(II)V"⟩, 13) := ⟨⟨by decide +kernel, by decide +kernel⟩, List.mem_of_getElem? (i := 18) (by decide +kernel), List.mem_of_getElem? (i := 371) (by decide +kernel), List.mem_of_getElem? (i := 372) (by decide +kernel)⟩
theorem lw_p26 : lw_okq (⟨"ParoleCache$Helper", "lineWasUsed", "()V"⟩, 16) := ⟨⟨by decide +kernel, by decide +kernel⟩, List.mem_of_getElem? (i := 52) (by decide +kernel), List.mem_of_getElem? (i := 376) (by decide +kernel), List.mem_of_getElem? (i := 377) (by decide +kernel)⟩
theorem lw_p27 : lw_okq (⟨"ParoleCache$Helper", "learn", "(III)V"⟩, 16) := ⟨⟨by decide +kernel, by decide +kernel⟩, List.mem_of_getElem? (i := 52) (by decide +kernel), List.mem_of_getElem? (i := 380) (by decide +kernel), List.mem_of_getElem? (i := 381) (by decide +kernel)⟩
theorem lw_p28 : lw_okq (⟨"ParoleCache$Helper", "learnStride", "(II)V"⟩, 16) := ⟨⟨by decide +kernel, by decide +kernel⟩, List.mem_of_getElem? (i := 52) (by decide +kernel), List.mem_of_getElem? (i := 384) (by decide +kernel), List.mem_of_getElem? (i := 385) (by decide +kernel)⟩
theorem lw_p29 : lw_okq (⟨"ParoleCache$Helper", "addRow", "(III)V"⟩, 16) := ⟨⟨by decide +kernel, by decide +kernel⟩, List.mem_of_getElem? (i := 52) (by decide +kernel), List.mem_of_getElem? (i := 389) (by decide +kernel), List.mem_of_getElem? (i := 390) (by decide +kernel)⟩
theorem lw_p30 : lw_okq (⟨"ParoleCache$Helper", "updateRow", "(IIII)V"⟩, 16) := ⟨⟨by decide +kernel, by decide +kernel⟩, List.mem_of_getElem? (i := 52) (by decide +kernel), List.mem_of_getElem? (i := 398) (by decide +kernel), List.mem_of_getElem? (i := 399) (by decide +kernel)⟩
theorem lw_p31 : lw_okq (⟨"ParoleCache$Helper", "wish", "(II)V"⟩, 16) := ⟨⟨by decide +kernel, by decide +kernel⟩, List.mem_of_getElem? (i := 52) (by decide +kernel), List.mem_of_getElem? (i := 403) (by decide +kernel), List.mem_of_getElem? (i := 404) (by decide +kernel)⟩
def lw_privs_2 : List (MethodName × Nat) := [(⟨"ParoleCache$State", "hire", "(III)I"⟩, 13), (⟨"ParoleCache$Helper", "release", "()I"⟩, 16), (⟨"ParoleCache$State", "perform", "(II)I"⟩, 13), (⟨"ParoleCache$Helper", "workOneHour", "(I)V"⟩, 16), (⟨"ParoleCache$State", "serve", "(I)I"⟩, 13), (⟨"ParoleCache$State", "setOf", "(I)LParoleCache$Rows;"⟩, 13), (⟨"ParoleCache$State", "setAt", "(I)LParoleCache$Rows;"⟩, 13), (⟨"ParoleCache$Rows", "find", "(I)I"⟩, 4), (⟨"ParoleCache$State", "punishThrower", "(I)V"⟩, 13), (⟨"ParoleCache$State", "fetch", "(II)V"⟩, 13), (⟨"ParoleCache$Helper", "lineWasUsed", "()V"⟩, 16), (⟨"ParoleCache$Helper", "learn", "(III)V"⟩, 16), (⟨"ParoleCache$Helper", "learnStride", "(II)V"⟩, 16), (⟨"ParoleCache$Helper", "addRow", "(III)V"⟩, 16), (⟨"ParoleCache$Helper", "updateRow", "(IIII)V"⟩, 16), (⟨"ParoleCache$Helper", "wish", "(II)V"⟩, 16)]
theorem lw_r2 : ∀ q ∈ lw_privs_2, lw_okq q := List.forall_mem_cons.mpr ⟨lw_p16, List.forall_mem_cons.mpr ⟨lw_p17, List.forall_mem_cons.mpr ⟨lw_p18, List.forall_mem_cons.mpr ⟨lw_p19, List.forall_mem_cons.mpr ⟨lw_p20, List.forall_mem_cons.mpr ⟨lw_p21, List.forall_mem_cons.mpr ⟨lw_p22, List.forall_mem_cons.mpr ⟨lw_p23, List.forall_mem_cons.mpr ⟨lw_p24, List.forall_mem_cons.mpr ⟨lw_p25, List.forall_mem_cons.mpr ⟨lw_p26, List.forall_mem_cons.mpr ⟨lw_p27, List.forall_mem_cons.mpr ⟨lw_p28, List.forall_mem_cons.mpr ⟨lw_p29, List.forall_mem_cons.mpr ⟨lw_p30, List.forall_mem_cons.mpr ⟨lw_p31, fun _ h => absurd h List.not_mem_nil⟩⟩⟩⟩⟩⟩⟩⟩⟩⟩⟩⟩⟩⟩⟩⟩
theorem lw_p32 : lw_okq (⟨"ParoleCache$Helper", "reach", "()I"⟩, 16) := ⟨⟨by decide +kernel, by decide +kernel⟩, List.mem_of_getElem? (i := 52) (by decide +kernel), List.mem_of_getElem? (i := 407) (by decide +kernel), List.mem_of_getElem? (i := 408) (by decide +kernel)⟩
theorem lw_p33 : lw_okq (⟨"ParoleCache$Helper", "learnStream", "(I)V"⟩, 16) := ⟨⟨by decide +kernel, by decide +kernel⟩, List.mem_of_getElem? (i := 52) (by decide +kernel), List.mem_of_getElem? (i := 412) (by decide +kernel), List.mem_of_getElem? (i := 413) (by decide +kernel)⟩
theorem lw_p34 : lw_okq (⟨"ParoleCache$Helper", "streamNear", "(I)I"⟩, 16) := ⟨⟨by decide +kernel, by decide +kernel⟩, List.mem_of_getElem? (i := 52) (by decide +kernel), List.mem_of_getElem? (i := 416) (by decide +kernel), List.mem_of_getElem? (i := 417) (by decide +kernel)⟩
theorem lw_p35 : lw_okq (⟨"ParoleCache$State", "fetchWishes", "(I)I"⟩, 13) := ⟨⟨by decide +kernel, by decide +kernel⟩, List.mem_of_getElem? (i := 18) (by decide +kernel), List.mem_of_getElem? (i := 424) (by decide +kernel), List.mem_of_getElem? (i := 425) (by decide +kernel)⟩
theorem lw_p36 : lw_okq (⟨"ParoleCache$State", "writeLog", "(IIII)V"⟩, 13) := ⟨⟨by decide +kernel, by decide +kernel⟩, List.mem_of_getElem? (i := 18) (by decide +kernel), List.mem_of_getElem? (i := 428) (by decide +kernel), List.mem_of_getElem? (i := 429) (by decide +kernel)⟩
theorem lw_p37 : lw_okq (⟨"ParoleCache$State", "performWalk", "(IIII)I"⟩, 13) := ⟨⟨by decide +kernel, by decide +kernel⟩, List.mem_of_getElem? (i := 18) (by decide +kernel), List.mem_of_getElem? (i := 439) (by decide +kernel), List.mem_of_getElem? (i := 440) (by decide +kernel)⟩
theorem lw_p38 : lw_okq (⟨"ParoleCache$Trace", "append", "(C)Z"⟩, 2) := ⟨⟨by decide +kernel, by decide +kernel⟩, List.mem_of_getElem? (i := 187) (by decide +kernel), List.mem_of_getElem? (i := 448) (by decide +kernel), List.mem_of_getElem? (i := 449) (by decide +kernel)⟩
theorem lw_p39 : lw_okq (⟨"ParoleCache$Trace", "fault", "()I"⟩, 2) := ⟨⟨by decide +kernel, by decide +kernel⟩, List.mem_of_getElem? (i := 187) (by decide +kernel), List.mem_of_getElem? (i := 461) (by decide +kernel), List.mem_of_getElem? (i := 462) (by decide +kernel)⟩
theorem lw_p40 : lw_okq (⟨"ParoleCache$Trace", "performOn", "(LParoleCache$State;)I"⟩, 2) := ⟨⟨by decide +kernel, by decide +kernel⟩, List.mem_of_getElem? (i := 187) (by decide +kernel), List.mem_of_getElem? (i := 472) (by decide +kernel), List.mem_of_getElem? (i := 473) (by decide +kernel)⟩
theorem lw_p41 : lw_okq (⟨"ParoleCache$State", "newLinesOf", "(I)I"⟩, 13) := ⟨⟨by decide +kernel, by decide +kernel⟩, List.mem_of_getElem? (i := 18) (by decide +kernel), List.mem_of_getElem? (i := 510) (by decide +kernel), List.mem_of_getElem? (i := 511) (by decide +kernel)⟩
theorem lw_p42 : lw_okq (⟨"ParoleCache$Helper", "wishAt", "(I)I"⟩, 16) := ⟨⟨by decide +kernel, by decide +kernel⟩, List.mem_of_getElem? (i := 52) (by decide +kernel), List.mem_of_getElem? (i := 522) (by decide +kernel), List.mem_of_getElem? (i := 523) (by decide +kernel)⟩
theorem lw_p43 : lw_okq (⟨"ParoleCache$State", "newLines", "()I"⟩, 13) := ⟨⟨by decide +kernel, by decide +kernel⟩, List.mem_of_getElem? (i := 18) (by decide +kernel), List.mem_of_getElem? (i := 542) (by decide +kernel), List.mem_of_getElem? (i := 543) (by decide +kernel)⟩
theorem lw_p44 : lw_okq (⟨"ParoleCache$State", "allHours", "()I"⟩, 13) := ⟨⟨by decide +kernel, by decide +kernel⟩, List.mem_of_getElem? (i := 18) (by decide +kernel), List.mem_of_getElem? (i := 547) (by decide +kernel), List.mem_of_getElem? (i := 548) (by decide +kernel)⟩
theorem lw_p45 : lw_okq (⟨"ParoleCache$State", "programsInLog", "()I"⟩, 13) := ⟨⟨by decide +kernel, by decide +kernel⟩, List.mem_of_getElem? (i := 18) (by decide +kernel), List.mem_of_getElem? (i := 551) (by decide +kernel), List.mem_of_getElem? (i := 552) (by decide +kernel)⟩
theorem lw_p46 : lw_okq (⟨"ParoleCacheModel", "copy", "(II)V"⟩, 9) := ⟨⟨by decide +kernel, by decide +kernel⟩, List.mem_of_getElem? (i := 561) (by decide +kernel), List.mem_of_getElem? (i := 600) (by decide +kernel), List.mem_of_getElem? (i := 601) (by decide +kernel)⟩
theorem lw_p47 : lw_okq (⟨"ParoleCacheModel", "record", "()V"⟩, 9) := ⟨⟨by decide +kernel, by decide +kernel⟩, List.mem_of_getElem? (i := 561) (by decide +kernel), List.mem_of_getElem? (i := 612) (by decide +kernel), List.mem_of_getElem? (i := 613) (by decide +kernel)⟩
def lw_privs_3 : List (MethodName × Nat) := [(⟨"ParoleCache$Helper", "reach", "()I"⟩, 16), (⟨"ParoleCache$Helper", "learnStream", "(I)V"⟩, 16), (⟨"ParoleCache$Helper", "streamNear", "(I)I"⟩, 16), (⟨"ParoleCache$State", "fetchWishes", "(I)I"⟩, 13), (⟨"ParoleCache$State", "writeLog", "(IIII)V"⟩, 13), (⟨"ParoleCache$State", "performWalk", "(IIII)I"⟩, 13), (⟨"ParoleCache$Trace", "append", "(C)Z"⟩, 2), (⟨"ParoleCache$Trace", "fault", "()I"⟩, 2), (⟨"ParoleCache$Trace", "performOn", "(LParoleCache$State;)I"⟩, 2), (⟨"ParoleCache$State", "newLinesOf", "(I)I"⟩, 13), (⟨"ParoleCache$Helper", "wishAt", "(I)I"⟩, 16), (⟨"ParoleCache$State", "newLines", "()I"⟩, 13), (⟨"ParoleCache$State", "allHours", "()I"⟩, 13), (⟨"ParoleCache$State", "programsInLog", "()I"⟩, 13), (⟨"ParoleCacheModel", "copy", "(II)V"⟩, 9), (⟨"ParoleCacheModel", "record", "()V"⟩, 9)]
theorem lw_r3 : ∀ q ∈ lw_privs_3, lw_okq q := List.forall_mem_cons.mpr ⟨lw_p32, List.forall_mem_cons.mpr ⟨lw_p33, List.forall_mem_cons.mpr ⟨lw_p34, List.forall_mem_cons.mpr ⟨lw_p35, List.forall_mem_cons.mpr ⟨lw_p36, List.forall_mem_cons.mpr ⟨lw_p37, List.forall_mem_cons.mpr ⟨lw_p38, List.forall_mem_cons.mpr ⟨lw_p39, List.forall_mem_cons.mpr ⟨lw_p40, List.forall_mem_cons.mpr ⟨lw_p41, List.forall_mem_cons.mpr ⟨lw_p42, List.forall_mem_cons.mpr ⟨lw_p43, List.forall_mem_cons.mpr ⟨lw_p44, List.forall_mem_cons.mpr ⟨lw_p45, List.forall_mem_cons.mpr ⟨lw_p46, List.forall_mem_cons.mpr ⟨lw_p47, fun _ h => absurd h List.not_mem_nil⟩⟩⟩⟩⟩⟩⟩⟩⟩⟩⟩⟩⟩⟩⟩⟩
theorem lw_p48 : lw_okq (⟨"ParoleCacheModel", "empty", "()I"⟩, 9) := ⟨⟨by decide +kernel, by decide +kernel⟩, List.mem_of_getElem? (i := 561) (by decide +kernel), List.mem_of_getElem? (i := 624) (by decide +kernel), List.mem_of_getElem? (i := 625) (by decide +kernel)⟩
theorem lw_p49 : lw_okq (⟨"ParoleCacheModel", "linesIn", "()I"⟩, 9) := ⟨⟨by decide +kernel, by decide +kernel⟩, List.mem_of_getElem? (i := 561) (by decide +kernel), List.mem_of_getElem? (i := 628) (by decide +kernel), List.mem_of_getElem? (i := 629) (by decide +kernel)⟩
theorem lw_p50 : lw_okq (⟨"ParoleCacheModel", "throwOut", "(II)V"⟩, 9) := ⟨⟨by decide +kernel, by decide +kernel⟩, List.mem_of_getElem? (i := 561) (by decide +kernel), List.mem_of_getElem? (i := 632) (by decide +kernel), List.mem_of_getElem? (i := 633) (by decide +kernel)⟩
theorem lw_p51 : lw_okq (⟨"ParoleCacheModel", "giveHours", "(II)V"⟩, 9) := ⟨⟨by decide +kernel, by decide +kernel⟩, List.mem_of_getElem? (i := 561) (by decide +kernel), List.mem_of_getElem? (i := 642) (by decide +kernel), List.mem_of_getElem? (i := 643) (by decide +kernel)⟩
theorem lw_p52 : lw_okq (⟨"ParoleCacheModel", "closeUp", "(II)V"⟩, 9) := ⟨⟨by decide +kernel, by decide +kernel⟩, List.mem_of_getElem? (i := 561) (by decide +kernel), List.mem_of_getElem? (i := 646) (by decide +kernel), List.mem_of_getElem? (i := 647) (by decide +kernel)⟩
theorem lw_p53 : lw_okq (⟨"ParoleCacheModel", "forgetLine", "(I)V"⟩, 9) := ⟨⟨by decide +kernel, by decide +kernel⟩, List.mem_of_getElem? (i := 561) (by decide +kernel), List.mem_of_getElem? (i := 650) (by decide +kernel), List.mem_of_getElem? (i := 651) (by decide +kernel)⟩
theorem lw_p54 : lw_okq (⟨"ParoleCacheModel", "outPlaceOf", "(I)I"⟩, 9) := ⟨⟨by decide +kernel, by decide +kernel⟩, List.mem_of_getElem? (i := 561) (by decide +kernel), List.mem_of_getElem? (i := 654) (by decide +kernel), List.mem_of_getElem? (i := 655) (by decide +kernel)⟩
theorem lw_p55 : lw_okq (⟨"ParoleCacheModel", "forgetOut", "(I)V"⟩, 9) := ⟨⟨by decide +kernel, by decide +kernel⟩, List.mem_of_getElem? (i := 561) (by decide +kernel), List.mem_of_getElem? (i := 658) (by decide +kernel), List.mem_of_getElem? (i := 659) (by decide +kernel)⟩
theorem lw_p56 : lw_okq (⟨"ParoleCacheModel", "isHelper", "(I)Z"⟩, 9) := ⟨⟨by decide +kernel, by decide +kernel⟩, List.mem_of_getElem? (i := 561) (by decide +kernel), List.mem_of_getElem? (i := 675) (by decide +kernel), List.mem_of_getElem? (i := 676) (by decide +kernel)⟩
theorem lw_p57 : lw_okq (⟨"ParoleCacheModel", "go", "(II)I"⟩, 9) := ⟨⟨by decide +kernel, by decide +kernel⟩, List.mem_of_getElem? (i := 561) (by decide +kernel), List.mem_of_getElem? (i := 703) (by decide +kernel), List.mem_of_getElem? (i := 704) (by decide +kernel)⟩
theorem lw_p58 : lw_okq (⟨"ParoleCacheModel", "work", "()V"⟩, 9) := ⟨⟨by decide +kernel, by decide +kernel⟩, List.mem_of_getElem? (i := 561) (by decide +kernel), List.mem_of_getElem? (i := 707) (by decide +kernel), List.mem_of_getElem? (i := 708) (by decide +kernel)⟩
theorem lw_p59 : lw_okq (⟨"ParoleCacheModel", "find", "(I)I"⟩, 9) := ⟨⟨by decide +kernel, by decide +kernel⟩, List.mem_of_getElem? (i := 561) (by decide +kernel), List.mem_of_getElem? (i := 711) (by decide +kernel), List.mem_of_getElem? (i := 712) (by decide +kernel)⟩
theorem lw_p60 : lw_okq (⟨"ParoleCacheModel", "placeOf", "(I)I"⟩, 9) := ⟨⟨by decide +kernel, by decide +kernel⟩, List.mem_of_getElem? (i := 561) (by decide +kernel), List.mem_of_getElem? (i := 715) (by decide +kernel), List.mem_of_getElem? (i := 716) (by decide +kernel)⟩
theorem lw_p61 : lw_okq (⟨"ParoleCacheModel", "fetch", "(II)V"⟩, 9) := ⟨⟨by decide +kernel, by decide +kernel⟩, List.mem_of_getElem? (i := 561) (by decide +kernel), List.mem_of_getElem? (i := 719) (by decide +kernel), List.mem_of_getElem? (i := 720) (by decide +kernel)⟩
theorem lw_p62 : lw_okq (⟨"ParoleCacheModel", "append", "(IIII)V"⟩, 9) := ⟨⟨by decide +kernel, by decide +kernel⟩, List.mem_of_getElem? (i := 561) (by decide +kernel), List.mem_of_getElem? (i := 723) (by decide +kernel), List.mem_of_getElem? (i := 724) (by decide +kernel)⟩
theorem lw_p63 : lw_okq (⟨"ParoleCacheModel", "use", "(I)V"⟩, 9) := ⟨⟨by decide +kernel, by decide +kernel⟩, List.mem_of_getElem? (i := 561) (by decide +kernel), List.mem_of_getElem? (i := 727) (by decide +kernel), List.mem_of_getElem? (i := 728) (by decide +kernel)⟩
def lw_privs_4 : List (MethodName × Nat) := [(⟨"ParoleCacheModel", "empty", "()I"⟩, 9), (⟨"ParoleCacheModel", "linesIn", "()I"⟩, 9), (⟨"ParoleCacheModel", "throwOut", "(II)V"⟩, 9), (⟨"ParoleCacheModel", "giveHours", "(II)V"⟩, 9), (⟨"ParoleCacheModel", "closeUp", "(II)V"⟩, 9), (⟨"ParoleCacheModel", "forgetLine", "(I)V"⟩, 9), (⟨"ParoleCacheModel", "outPlaceOf", "(I)I"⟩, 9), (⟨"ParoleCacheModel", "forgetOut", "(I)V"⟩, 9), (⟨"ParoleCacheModel", "isHelper", "(I)Z"⟩, 9), (⟨"ParoleCacheModel", "go", "(II)I"⟩, 9), (⟨"ParoleCacheModel", "work", "()V"⟩, 9), (⟨"ParoleCacheModel", "find", "(I)I"⟩, 9), (⟨"ParoleCacheModel", "placeOf", "(I)I"⟩, 9), (⟨"ParoleCacheModel", "fetch", "(II)V"⟩, 9), (⟨"ParoleCacheModel", "append", "(IIII)V"⟩, 9), (⟨"ParoleCacheModel", "use", "(I)V"⟩, 9)]
theorem lw_r4 : ∀ q ∈ lw_privs_4, lw_okq q := List.forall_mem_cons.mpr ⟨lw_p48, List.forall_mem_cons.mpr ⟨lw_p49, List.forall_mem_cons.mpr ⟨lw_p50, List.forall_mem_cons.mpr ⟨lw_p51, List.forall_mem_cons.mpr ⟨lw_p52, List.forall_mem_cons.mpr ⟨lw_p53, List.forall_mem_cons.mpr ⟨lw_p54, List.forall_mem_cons.mpr ⟨lw_p55, List.forall_mem_cons.mpr ⟨lw_p56, List.forall_mem_cons.mpr ⟨lw_p57, List.forall_mem_cons.mpr ⟨lw_p58, List.forall_mem_cons.mpr ⟨lw_p59, List.forall_mem_cons.mpr ⟨lw_p60, List.forall_mem_cons.mpr ⟨lw_p61, List.forall_mem_cons.mpr ⟨lw_p62, List.forall_mem_cons.mpr ⟨lw_p63, fun _ h => absurd h List.not_mem_nil⟩⟩⟩⟩⟩⟩⟩⟩⟩⟩⟩⟩⟩⟩⟩⟩
theorem lw_p64 : lw_okq (⟨"ParoleCacheModel", "learn", "(IIII)V"⟩, 9) := ⟨⟨by decide +kernel, by decide +kernel⟩, List.mem_of_getElem? (i := 561) (by decide +kernel), List.mem_of_getElem? (i := 731) (by decide +kernel), List.mem_of_getElem? (i := 732) (by decide +kernel)⟩
theorem lw_p65 : lw_okq (⟨"ParoleCacheModel", "learnStride", "(III)V"⟩, 9) := ⟨⟨by decide +kernel, by decide +kernel⟩, List.mem_of_getElem? (i := 561) (by decide +kernel), List.mem_of_getElem? (i := 735) (by decide +kernel), List.mem_of_getElem? (i := 736) (by decide +kernel)⟩
theorem lw_p66 : lw_okq (⟨"ParoleCacheModel", "dropRow", "(II)V"⟩, 9) := ⟨⟨by decide +kernel, by decide +kernel⟩, List.mem_of_getElem? (i := 561) (by decide +kernel), List.mem_of_getElem? (i := 742) (by decide +kernel), List.mem_of_getElem? (i := 743) (by decide +kernel)⟩
theorem lw_p67 : lw_okq (⟨"ParoleCacheModel", "addRow", "(IIIII)V"⟩, 9) := ⟨⟨by decide +kernel, by decide +kernel⟩, List.mem_of_getElem? (i := 561) (by decide +kernel), List.mem_of_getElem? (i := 746) (by decide +kernel), List.mem_of_getElem? (i := 747) (by decide +kernel)⟩
theorem lw_p68 : lw_okq (⟨"ParoleCacheModel", "learnStream", "(II)V"⟩, 9) := ⟨⟨by decide +kernel, by decide +kernel⟩, List.mem_of_getElem? (i := 561) (by decide +kernel), List.mem_of_getElem? (i := 750) (by decide +kernel), List.mem_of_getElem? (i := 751) (by decide +kernel)⟩
theorem lw_p69 : lw_okq (⟨"ParoleCacheModel", "fetchAhead", "(II)I"⟩, 9) := ⟨⟨by decide +kernel, by decide +kernel⟩, List.mem_of_getElem? (i := 561) (by decide +kernel), List.mem_of_getElem? (i := 754) (by decide +kernel), List.mem_of_getElem? (i := 755) (by decide +kernel)⟩
theorem lw_p70 : lw_okq (⟨"ParoleCacheModel", "reachOf", "(I)I"⟩, 9) := ⟨⟨by decide +kernel, by decide +kernel⟩, List.mem_of_getElem? (i := 561) (by decide +kernel), List.mem_of_getElem? (i := 758) (by decide +kernel), List.mem_of_getElem? (i := 759) (by decide +kernel)⟩
theorem lw_p71 : lw_okq (⟨"ParoleCacheModel", "goOn", "(IIII)I"⟩, 9) := ⟨⟨by decide +kernel, by decide +kernel⟩, List.mem_of_getElem? (i := 561) (by decide +kernel), List.mem_of_getElem? (i := 769) (by decide +kernel), List.mem_of_getElem? (i := 770) (by decide +kernel)⟩
theorem lw_p72 : lw_okq (⟨"ParoleCacheModel", "faultOf", "()I"⟩, 9) := ⟨⟨by decide +kernel, by decide +kernel⟩, List.mem_of_getElem? (i := 561) (by decide +kernel), List.mem_of_getElem? (i := 793) (by decide +kernel), List.mem_of_getElem? (i := 794) (by decide +kernel)⟩
theorem lw_p73 : lw_okq (⟨"ParoleCacheModel", "newOf", "(I)I"⟩, 9) := ⟨⟨by decide +kernel, by decide +kernel⟩, List.mem_of_getElem? (i := 561) (by decide +kernel), List.mem_of_getElem? (i := 813) (by decide +kernel), List.mem_of_getElem? (i := 814) (by decide +kernel)⟩
theorem lw_p74 : lw_okq (⟨"ParoleCacheModel", "loggedMany", "()I"⟩, 9) := ⟨⟨by decide +kernel, by decide +kernel⟩, List.mem_of_getElem? (i := 561) (by decide +kernel), List.mem_of_getElem? (i := 829) (by decide +kernel), List.mem_of_getElem? (i := 830) (by decide +kernel)⟩
theorem lw_p75 : lw_okq (⟨"ParoleCacheModel", "hoursOfAll", "()I"⟩, 9) := ⟨⟨by decide +kernel, by decide +kernel⟩, List.mem_of_getElem? (i := 561) (by decide +kernel), List.mem_of_getElem? (i := 837) (by decide +kernel), List.mem_of_getElem? (i := 838) (by decide +kernel)⟩
theorem lw_p76 : lw_okq (⟨"ParoleCacheModel", "programsLogged", "()I"⟩, 9) := ⟨⟨by decide +kernel, by decide +kernel⟩, List.mem_of_getElem? (i := 561) (by decide +kernel), List.mem_of_getElem? (i := 841) (by decide +kernel), List.mem_of_getElem? (i := 842) (by decide +kernel)⟩
def lw_privs_5 : List (MethodName × Nat) := [(⟨"ParoleCacheModel", "learn", "(IIII)V"⟩, 9), (⟨"ParoleCacheModel", "learnStride", "(III)V"⟩, 9), (⟨"ParoleCacheModel", "dropRow", "(II)V"⟩, 9), (⟨"ParoleCacheModel", "addRow", "(IIIII)V"⟩, 9), (⟨"ParoleCacheModel", "learnStream", "(II)V"⟩, 9), (⟨"ParoleCacheModel", "fetchAhead", "(II)I"⟩, 9), (⟨"ParoleCacheModel", "reachOf", "(I)I"⟩, 9), (⟨"ParoleCacheModel", "goOn", "(IIII)I"⟩, 9), (⟨"ParoleCacheModel", "faultOf", "()I"⟩, 9), (⟨"ParoleCacheModel", "newOf", "(I)I"⟩, 9), (⟨"ParoleCacheModel", "loggedMany", "()I"⟩, 9), (⟨"ParoleCacheModel", "hoursOfAll", "()I"⟩, 9), (⟨"ParoleCacheModel", "programsLogged", "()I"⟩, 9)]
theorem lw_r5 : ∀ q ∈ lw_privs_5, lw_okq q := List.forall_mem_cons.mpr ⟨lw_p64, List.forall_mem_cons.mpr ⟨lw_p65, List.forall_mem_cons.mpr ⟨lw_p66, List.forall_mem_cons.mpr ⟨lw_p67, List.forall_mem_cons.mpr ⟨lw_p68, List.forall_mem_cons.mpr ⟨lw_p69, List.forall_mem_cons.mpr ⟨lw_p70, List.forall_mem_cons.mpr ⟨lw_p71, List.forall_mem_cons.mpr ⟨lw_p72, List.forall_mem_cons.mpr ⟨lw_p73, List.forall_mem_cons.mpr ⟨lw_p74, List.forall_mem_cons.mpr ⟨lw_p75, List.forall_mem_cons.mpr ⟨lw_p76, fun _ h => absurd h List.not_mem_nil⟩⟩⟩⟩⟩⟩⟩⟩⟩⟩⟩⟩⟩
def lw_privs : List (MethodName × Nat) := lw_privs_1 ++ (lw_privs_2 ++ (lw_privs_3 ++ (lw_privs_4 ++ (lw_privs_5))))
def lw_tbl : List Cond := k2_sels lw_privs ++ tables_1
theorem lw_privs_ok : ∀ q ∈ lw_privs, lw_okq q := by
  show ∀ q ∈ lw_privs_1 ++ (lw_privs_2 ++ (lw_privs_3 ++ (lw_privs_4 ++ (lw_privs_5)))), lw_okq q
  exact List.forall_mem_append.mpr ⟨lw_r1, List.forall_mem_append.mpr ⟨lw_r2, List.forall_mem_append.mpr ⟨lw_r3, List.forall_mem_append.mpr ⟨lw_r4, lw_r5⟩⟩⟩⟩
-- ===== end of PART A; then your names; then what follows =====
end
section
def RX0 : String := "ParoleCache$Helper"
def TX0 : u_T := fun k => match k with
  | 0 => ("ParoleCache$Helper", "table", "LParoleCache$Rows;", true)
  | 1 => ("ParoleCache$Helper", "wishes", "[I", true)
  | 2 => ("ParoleCache$Helper", "wishCount", "I", false)
  | 3 => ("ParoleCache$Helper", "kind", "I", false)
  | 4 => ("ParoleCache$Helper", "degree", "I", false)
  | 5 => ("ParoleCache$Helper", "price", "I", false)
  | 6 => ("ParoleCache$Helper", "state", "I", false)
  | 7 => ("ParoleCache$Helper", "hours", "I", false)
  | 8 => ("ParoleCache$Helper", "linesLeft", "I", false)
  | 9 => ("ParoleCache$Helper", "fetched", "I", false)
  | 10 => ("ParoleCache$Helper", "used", "I", false)
  | 11 => ("ParoleCache$Helper", "vain", "I", false)
  | 12 => ("ParoleCache$Helper", "harms", "I", false)
  | 13 => ("ParoleCache$Helper", "worked", "I", false)
  | 14 => ("ParoleCache$Helper", "pardoned", "I", false)
  | _ => ("ParoleCache$Helper", "probations", "I", false)
def tyX0 : Nat → FieldType := fun k => match k with
  | 0 => .object "ParoleCache$Rows"
  | 1 => .array .int
  | 2 => .int
  | 3 => .int
  | 4 => .int
  | 5 => .int
  | 6 => .int
  | 7 => .int
  | 8 => .int
  | 9 => .int
  | 10 => .int
  | 11 => .int
  | 12 => .int
  | 13 => .int
  | 14 => .int
  | _ => .int
abbrev wsX00 : List Cond := u_ws RX0 TX0 16
theorem nmX0 : ∀ a, a < 16 → ∀ b, b < 16 → a ≠ b → (TX0 a).2.1 ≠ (TX0 b).2.1 := by decide +kernel
theorem tyX0_ok : ∀ k, k < 16 → parseFieldDescriptor (TX0 k).2.2.1 = some (tyX0 k) := by decide +kernel
abbrev cX0_init : ByteArray := prog_2_method_1_code
def yX0_init : MethodName := ⟨RX0, "<init>", "()V"⟩
abbrev cX0_begin : ByteArray := prog_2_method_2_code
def yX0_begin : MethodName := ⟨RX0, "begin", "(III)V"⟩
abbrev cX0_copyFrom : ByteArray := prog_2_method_3_code
def yX0_copyFrom : MethodName := ⟨RX0, "copyFrom", "(LParoleCache$Helper;)V"⟩
abbrev cX0_reach : ByteArray := prog_2_method_4_code
def yX0_reach : MethodName := ⟨RX0, "reach", "()I"⟩
abbrev cX0_sentence : ByteArray := prog_2_method_5_code
def yX0_sentence : MethodName := ⟨RX0, "sentence", "(I)V"⟩
abbrev cX0_workOneHour : ByteArray := prog_2_method_6_code
def yX0_workOneHour : MethodName := ⟨RX0, "workOneHour", "(I)V"⟩
abbrev cX0_lineWasUsed : ByteArray := prog_2_method_7_code
def yX0_lineWasUsed : MethodName := ⟨RX0, "lineWasUsed", "()V"⟩
abbrev cX0_release : ByteArray := prog_2_method_8_code
def yX0_release : MethodName := ⟨RX0, "release", "()I"⟩
abbrev cX0_learn : ByteArray := prog_2_method_9_code
def yX0_learn : MethodName := ⟨RX0, "learn", "(III)V"⟩
abbrev cX0_learnStride : ByteArray := prog_2_method_10_code
def yX0_learnStride : MethodName := ⟨RX0, "learnStride", "(II)V"⟩
abbrev cX0_learnStream : ByteArray := prog_2_method_11_code
def yX0_learnStream : MethodName := ⟨RX0, "learnStream", "(I)V"⟩
abbrev cX0_streamNear : ByteArray := prog_2_method_12_code
def yX0_streamNear : MethodName := ⟨RX0, "streamNear", "(I)I"⟩
abbrev cX0_addRow : ByteArray := prog_2_method_13_code
def yX0_addRow : MethodName := ⟨RX0, "addRow", "(III)V"⟩
abbrev cX0_updateRow : ByteArray := prog_2_method_14_code
def yX0_updateRow : MethodName := ⟨RX0, "updateRow", "(IIII)V"⟩
abbrev cX0_wish : ByteArray := prog_2_method_15_code
def yX0_wish : MethodName := ⟨RX0, "wish", "(II)V"⟩
abbrev cX0_wishAt : ByteArray := prog_2_method_16_code
def yX0_wishAt : MethodName := ⟨RX0, "wishAt", "(I)I"⟩
def RX1 : String := "ParoleCache$Rows"
def TX1 : u_T := fun k => match k with
  | 0 => ("ParoleCache$Rows", "capacity", "I", true)
  | 1 => ("ParoleCache$Rows", "columns", "I", true)
  | 2 => ("ParoleCache$Rows", "cells", "[I", true)
  | _ => ("ParoleCache$Rows", "size", "I", false)
def tyX1 : Nat → FieldType := fun k => match k with
  | 0 => .int
  | 1 => .int
  | 2 => .array .int
  | _ => .int
abbrev wsX10 : List Cond := u_ws RX1 TX1 4
theorem nmX1 : ∀ a, a < 4 → ∀ b, b < 4 → a ≠ b → (TX1 a).2.1 ≠ (TX1 b).2.1 := by decide +kernel
theorem tyX1_ok : ∀ k, k < 4 → parseFieldDescriptor (TX1 k).2.2.1 = some (tyX1 k) := by decide +kernel
abbrev cX1_init : ByteArray := prog_3_method_1_code
def yX1_init : MethodName := ⟨RX1, "<init>", "(II)V"⟩
abbrev cX1_copyFrom : ByteArray := prog_3_method_2_code
def yX1_copyFrom : MethodName := ⟨RX1, "copyFrom", "(LParoleCache$Rows;)V"⟩
abbrev cX1_holds : ByteArray := prog_3_method_3_code
def yX1_holds : MethodName := ⟨RX1, "holds", "(II)Z"⟩
abbrev cX1_get : ByteArray := prog_3_method_4_code
def yX1_get : MethodName := ⟨RX1, "get", "(II)I"⟩
abbrev cX1_put : ByteArray := prog_3_method_5_code
def yX1_put : MethodName := ⟨RX1, "put", "(III)V"⟩
abbrev cX1_find : ByteArray := prog_3_method_6_code
def yX1_find : MethodName := ⟨RX1, "find", "(I)I"⟩
abbrev cX1_touch : ByteArray := prog_3_method_7_code
def yX1_touch : MethodName := ⟨RX1, "touch", "(I)V"⟩
abbrev cX1_remove : ByteArray := prog_3_method_8_code
def yX1_remove : MethodName := ⟨RX1, "remove", "(I)V"⟩
abbrev cX1_open : ByteArray := prog_3_method_9_code
def yX1_open : MethodName := ⟨RX1, "open", "(I)I"⟩
def RX2 : String := "ParoleCache$State"
def TX2 : u_T := fun k => match k with
  | 0 => ("ParoleCache$State", "sets", "[LParoleCache$Rows;", true)
  | 1 => ("ParoleCache$State", "thrown", "LParoleCache$Rows;", true)
  | 2 => ("ParoleCache$State", "helpers", "[LParoleCache$Helper;", true)
  | 3 => ("ParoleCache$State", "log", "LParoleCache$Rows;", true)
  | 4 => ("ParoleCache$State", "setCount", "I", false)
  | 5 => ("ParoleCache$State", "wayCount", "I", false)
  | 6 => ("ParoleCache$State", "helperCount", "I", false)
  | 7 => ("ParoleCache$State", "trial", "I", false)
  | 8 => ("ParoleCache$State", "accesses", "I", false)
  | 9 => ("ParoleCache$State", "hits", "I", false)
  | 10 => ("ParoleCache$State", "newHits", "I", false)
  | 11 => ("ParoleCache$State", "fetchedAhead", "I", false)
  | _ => ("ParoleCache$State", "thrownTotal", "I", false)
def tyX2 : Nat → FieldType := fun k => match k with
  | 0 => .array (.object "ParoleCache$Rows")
  | 1 => .object "ParoleCache$Rows"
  | 2 => .array (.object "ParoleCache$Helper")
  | 3 => .object "ParoleCache$Rows"
  | 4 => .int
  | 5 => .int
  | 6 => .int
  | 7 => .int
  | 8 => .int
  | 9 => .int
  | 10 => .int
  | 11 => .int
  | _ => .int
abbrev wsX20 : List Cond := u_ws RX2 TX2 13
theorem nmX2 : ∀ a, a < 13 → ∀ b, b < 13 → a ≠ b → (TX2 a).2.1 ≠ (TX2 b).2.1 := by decide +kernel
theorem tyX2_ok : ∀ k, k < 13 → parseFieldDescriptor (TX2 k).2.2.1 = some (tyX2 k) := by decide +kernel
abbrev cX2_init : ByteArray := prog_4_method_1_code
def yX2_init : MethodName := ⟨RX2, "<init>", "()V"⟩
abbrev cX2_copyFrom : ByteArray := prog_4_method_2_code
def yX2_copyFrom : MethodName := ⟨RX2, "copyFrom", "(LParoleCache$State;)V"⟩
abbrev cX2_setAt : ByteArray := prog_4_method_3_code
def yX2_setAt : MethodName := ⟨RX2, "setAt", "(I)LParoleCache$Rows;"⟩
abbrev cX2_setOf : ByteArray := prog_4_method_4_code
def yX2_setOf : MethodName := ⟨RX2, "setOf", "(I)LParoleCache$Rows;"⟩
abbrev cX2_helperAt : ByteArray := prog_4_method_5_code
def yX2_helperAt : MethodName := ⟨RX2, "helperAt", "(I)LParoleCache$Helper;"⟩
abbrev cX2_hire : ByteArray := prog_4_method_6_code
def yX2_hire : MethodName := ⟨RX2, "hire", "(III)I"⟩
abbrev cX2_perform : ByteArray := prog_4_method_7_code
def yX2_perform : MethodName := ⟨RX2, "perform", "(II)I"⟩
abbrev cX2_performWalk : ByteArray := prog_4_method_8_code
def yX2_performWalk : MethodName := ⟨RX2, "performWalk", "(IIII)I"⟩
abbrev cX2_serve : ByteArray := prog_4_method_9_code
def yX2_serve : MethodName := ⟨RX2, "serve", "(I)I"⟩
abbrev cX2_punishThrower : ByteArray := prog_4_method_10_code
def yX2_punishThrower : MethodName := ⟨RX2, "punishThrower", "(I)V"⟩
abbrev cX2_fetchWishes : ByteArray := prog_4_method_11_code
def yX2_fetchWishes : MethodName := ⟨RX2, "fetchWishes", "(I)I"⟩
abbrev cX2_fetch : ByteArray := prog_4_method_12_code
def yX2_fetch : MethodName := ⟨RX2, "fetch", "(II)V"⟩
abbrev cX2_throwOldest : ByteArray := prog_4_method_13_code
def yX2_throwOldest : MethodName := ⟨RX2, "throwOldest", "(LParoleCache$Rows;I)V"⟩
abbrev cX2_throwAllOut : ByteArray := prog_4_method_14_code
def yX2_throwAllOut : MethodName := ⟨RX2, "throwAllOut", "()I"⟩
abbrev cX2_writeLog : ByteArray := prog_4_method_15_code
def yX2_writeLog : MethodName := ⟨RX2, "writeLog", "(IIII)V"⟩
abbrev cX2_linesInCache : ByteArray := prog_4_method_16_code
def yX2_linesInCache : MethodName := ⟨RX2, "linesInCache", "()I"⟩
abbrev cX2_newLinesOf : ByteArray := prog_4_method_17_code
def yX2_newLinesOf : MethodName := ⟨RX2, "newLinesOf", "(I)I"⟩
abbrev cX2_newLines : ByteArray := prog_4_method_18_code
def yX2_newLines : MethodName := ⟨RX2, "newLines", "()I"⟩
abbrev cX2_allHours : ByteArray := prog_4_method_19_code
def yX2_allHours : MethodName := ⟨RX2, "allHours", "()I"⟩
abbrev cX2_programsInLog : ByteArray := prog_4_method_20_code
def yX2_programsInLog : MethodName := ⟨RX2, "programsInLog", "()I"⟩
def RX3 : String := "ParoleCache$Trace"
def TX3 : u_T := fun k => match k with
  | 0 => ("ParoleCache$Trace", "signs", "[C", true)
  | _ => ("ParoleCache$Trace", "length", "I", false)
def tyX3 : Nat → FieldType := fun k => match k with
  | 0 => .array .char
  | _ => .int
abbrev wsX30 : List Cond := u_ws RX3 TX3 2
theorem nmX3 : ∀ a, a < 2 → ∀ b, b < 2 → a ≠ b → (TX3 a).2.1 ≠ (TX3 b).2.1 := by decide +kernel
theorem tyX3_ok : ∀ k, k < 2 → parseFieldDescriptor (TX3 k).2.2.1 = some (tyX3 k) := by decide +kernel
abbrev cX3_init : ByteArray := prog_5_method_1_code
def yX3_init : MethodName := ⟨RX3, "<init>", "()V"⟩
abbrev cX3_append : ByteArray := prog_5_method_2_code
def yX3_append : MethodName := ⟨RX3, "append", "(C)Z"⟩
abbrev cX3_fault : ByteArray := prog_5_method_3_code
def yX3_fault : MethodName := ⟨RX3, "fault", "()I"⟩
abbrev cX3_dueBehind : ByteArray := prog_5_method_4_code
def yX3_dueBehind : MethodName := ⟨RX3, "dueBehind", "(ICI)I"⟩
abbrev cX3_isDigit : ByteArray := prog_5_method_5_code
def yX3_isDigit : MethodName := ⟨RX3, "isDigit", "(C)Z"⟩
abbrev cX3_performOn : ByteArray := prog_5_method_6_code
def yX3_performOn : MethodName := ⟨RX3, "performOn", "(LParoleCache$State;)I"⟩
def RX4 : String := "ParoleCache"
def TX4 : u_T := fun k => match k with
  | 0 => ("ParoleCache", "current", "LParoleCache$State;", true)
  | 1 => ("ParoleCache", "scratch", "LParoleCache$State;", true)
  | 2 => ("ParoleCache", "snapshot", "LParoleCache$State;", true)
  | 3 => ("ParoleCache", "history", "[LParoleCache$State;", true)
  | 4 => ("ParoleCache", "trace", "LParoleCache$Trace;", true)
  | 5 => ("ParoleCache", "hasSnapshot", "Z", false)
  | _ => ("ParoleCache", "historySize", "I", false)
def tyX4 : Nat → FieldType := fun k => match k with
  | 0 => .object "ParoleCache$State"
  | 1 => .object "ParoleCache$State"
  | 2 => .object "ParoleCache$State"
  | 3 => .array (.object "ParoleCache$State")
  | 4 => .object "ParoleCache$Trace"
  | 5 => .boolean
  | _ => .int
abbrev wsX40 : List Cond := u_ws RX4 TX4 7
theorem nmX4 : ∀ a, a < 7 → ∀ b, b < 7 → a ≠ b → (TX4 a).2.1 ≠ (TX4 b).2.1 := by decide +kernel
theorem tyX4_ok : ∀ k, k < 7 → parseFieldDescriptor (TX4 k).2.2.1 = some (tyX4 k) := by decide +kernel
abbrev cX4_init : ByteArray := prog_1_method_1_code
def yX4_init : MethodName := ⟨RX4, "<init>", "()V"⟩
abbrev cX4_shape : ByteArray := prog_1_method_2_code
def yX4_shape : MethodName := ⟨RX4, "shape", "(II)I"⟩
abbrev cX4_flush : ByteArray := prog_1_method_3_code
def yX4_flush : MethodName := ⟨RX4, "flush", "()I"⟩
abbrev cX4_addHelper : ByteArray := prog_1_method_4_code
def yX4_addHelper : MethodName := ⟨RX4, "addHelper", "(III)I"⟩
abbrev cX4_setDegree : ByteArray := prog_1_method_5_code
def yX4_setDegree : MethodName := ⟨RX4, "setDegree", "(II)I"⟩
abbrev cX4_setTrial : ByteArray := prog_1_method_6_code
def yX4_setTrial : MethodName := ⟨RX4, "setTrial", "(I)I"⟩
abbrev cX4_pardon : ByteArray := prog_1_method_7_code
def yX4_pardon : MethodName := ⟨RX4, "pardon", "(I)I"⟩
abbrev cX4_forget : ByteArray := prog_1_method_8_code
def yX4_forget : MethodName := ⟨RX4, "forget", "(I)I"⟩
abbrev cX4_access : ByteArray := prog_1_method_9_code
def yX4_access : MethodName := ⟨RX4, "access", "(II)I"⟩
abbrev cX4_walk : ByteArray := prog_1_method_10_code
def yX4_walk : MethodName := ⟨RX4, "walk", "(IIII)I"⟩
abbrev cX4_type : ByteArray := prog_1_method_11_code
def yX4_type : MethodName := ⟨RX4, "type", "(C)I"⟩
abbrev cX4_clearText : ByteArray := prog_1_method_12_code
def yX4_clearText : MethodName := ⟨RX4, "clearText", "()I"⟩
abbrev cX4_run : ByteArray := prog_1_method_13_code
def yX4_run : MethodName := ⟨RX4, "run", "()I"⟩
abbrev cX4_undo : ByteArray := prog_1_method_14_code
def yX4_undo : MethodName := ⟨RX4, "undo", "()I"⟩
abbrev cX4_keep : ByteArray := prog_1_method_15_code
def yX4_keep : MethodName := ⟨RX4, "keep", "()I"⟩
abbrev cX4_restore : ByteArray := prog_1_method_16_code
def yX4_restore : MethodName := ⟨RX4, "restore", "()I"⟩
abbrev cX4_line : ByteArray := prog_1_method_17_code
def yX4_line : MethodName := ⟨RX4, "line", "(II)I"⟩
abbrev cX4_inSet : ByteArray := prog_1_method_18_code
def yX4_inSet : MethodName := ⟨RX4, "inSet", "(II)I"⟩
abbrev cX4_thrownOut : ByteArray := prog_1_method_19_code
def yX4_thrownOut : MethodName := ⟨RX4, "thrownOut", "(I)I"⟩
abbrev cX4_helper : ByteArray := prog_1_method_20_code
def yX4_helper : MethodName := ⟨RX4, "helper", "(II)I"⟩
abbrev cX4_table : ByteArray := prog_1_method_21_code
def yX4_table : MethodName := ⟨RX4, "table", "(III)I"⟩
abbrev cX4_wouldAsk : ByteArray := prog_1_method_22_code
def yX4_wouldAsk : MethodName := ⟨RX4, "wouldAsk", "(IIII)I"⟩
abbrev cX4_wouldHit : ByteArray := prog_1_method_23_code
def yX4_wouldHit : MethodName := ⟨RX4, "wouldHit", "(IIII)I"⟩
abbrev cX4_bestHelper : ByteArray := prog_1_method_24_code
def yX4_bestHelper : MethodName := ⟨RX4, "bestHelper", "()I"⟩
abbrev cX4_logged : ByteArray := prog_1_method_25_code
def yX4_logged : MethodName := ⟨RX4, "logged", "(II)I"⟩
abbrev cX4_count : ByteArray := prog_1_method_26_code
def yX4_count : MethodName := ⟨RX4, "count", "(I)I"⟩
abbrev cX4_isOutside : ByteArray := prog_1_method_27_code
def yX4_isOutside : MethodName := ⟨RX4, "isOutside", "(III)Z"⟩
abbrev cX4_isWalk : ByteArray := prog_1_method_28_code
def yX4_isWalk : MethodName := ⟨RX4, "isWalk", "(IIII)Z"⟩
abbrev cX4_remember : ByteArray := prog_1_method_29_code
def yX4_remember : MethodName := ⟨RX4, "remember", "()V"⟩
def RX5 : String := "ParoleCacheModel"
def TX5 : u_T := fun k => match k with
  | 0 => ("ParoleCacheModel", "row", "[I", true)
  | 1 => ("ParoleCacheModel", "states", "I", false)
  | 2 => ("ParoleCacheModel", "isKept", "Z", false)
  | 3 => ("ParoleCacheModel", "text", "[I", true)
  | 4 => ("ParoleCacheModel", "length", "I", false)
  | 5 => ("ParoleCacheModel", "askedStep", "I", false)
  | 6 => ("ParoleCacheModel", "watched", "I", false)
  | 7 => ("ParoleCacheModel", "asked", "[I", true)
  | _ => ("ParoleCacheModel", "askedMany", "I", false)
def tyX5 : Nat → FieldType := fun k => match k with
  | 0 => .array .int
  | 1 => .int
  | 2 => .boolean
  | 3 => .array .int
  | 4 => .int
  | 5 => .int
  | 6 => .int
  | 7 => .array .int
  | _ => .int
abbrev wsX50 : List Cond := u_ws RX5 TX5 9
theorem nmX5 : ∀ a, a < 9 → ∀ b, b < 9 → a ≠ b → (TX5 a).2.1 ≠ (TX5 b).2.1 := by decide +kernel
theorem tyX5_ok : ∀ k, k < 9 → parseFieldDescriptor (TX5 k).2.2.1 = some (tyX5 k) := by decide +kernel
abbrev cX5_init : ByteArray := prog_7_method_1_code
def yX5_init : MethodName := ⟨RX5, "<init>", "()V"⟩
abbrev cX5_in : ByteArray := prog_7_method_2_code
def yX5_in : MethodName := ⟨RX5, "in", "(III)Z"⟩
abbrev cX5_isLine : ByteArray := prog_7_method_3_code
def yX5_isLine : MethodName := ⟨RX5, "isLine", "(I)Z"⟩
abbrev cX5_isHelper : ByteArray := prog_7_method_4_code
def yX5_isHelper : MethodName := ⟨RX5, "isHelper", "(I)Z"⟩
abbrev cX5_of : ByteArray := prog_7_method_5_code
def yX5_of : MethodName := ⟨RX5, "of", "(II)I"⟩
abbrev cX5_copy : ByteArray := prog_7_method_6_code
def yX5_copy : MethodName := ⟨RX5, "copy", "(II)V"⟩
abbrev cX5_record : ByteArray := prog_7_method_7_code
def yX5_record : MethodName := ⟨RX5, "record", "()V"⟩
abbrev cX5_undo : ByteArray := prog_7_method_8_code
def yX5_undo : MethodName := ⟨RX5, "undo", "()I"⟩
abbrev cX5_keep : ByteArray := prog_7_method_9_code
def yX5_keep : MethodName := ⟨RX5, "keep", "()I"⟩
abbrev cX5_restore : ByteArray := prog_7_method_10_code
def yX5_restore : MethodName := ⟨RX5, "restore", "()I"⟩
abbrev cX5_cellOf : ByteArray := prog_7_method_11_code
def yX5_cellOf : MethodName := ⟨RX5, "cellOf", "(II)I"⟩
abbrev cX5_placeOf : ByteArray := prog_7_method_12_code
def yX5_placeOf : MethodName := ⟨RX5, "placeOf", "(I)I"⟩
abbrev cX5_outPlaceOf : ByteArray := prog_7_method_13_code
def yX5_outPlaceOf : MethodName := ⟨RX5, "outPlaceOf", "(I)I"⟩
abbrev cX5_forgetOut : ByteArray := prog_7_method_14_code
def yX5_forgetOut : MethodName := ⟨RX5, "forgetOut", "(I)V"⟩
abbrev cX5_forgetLine : ByteArray := prog_7_method_15_code
def yX5_forgetLine : MethodName := ⟨RX5, "forgetLine", "(I)V"⟩
abbrev cX5_giveHours : ByteArray := prog_7_method_16_code
def yX5_giveHours : MethodName := ⟨RX5, "giveHours", "(II)V"⟩
abbrev cX5_closeUp : ByteArray := prog_7_method_17_code
def yX5_closeUp : MethodName := ⟨RX5, "closeUp", "(II)V"⟩
abbrev cX5_append : ByteArray := prog_7_method_18_code
def yX5_append : MethodName := ⟨RX5, "append", "(IIII)V"⟩
abbrev cX5_throwOut : ByteArray := prog_7_method_19_code
def yX5_throwOut : MethodName := ⟨RX5, "throwOut", "(II)V"⟩
abbrev cX5_fetch : ByteArray := prog_7_method_20_code
def yX5_fetch : MethodName := ⟨RX5, "fetch", "(II)V"⟩
abbrev cX5_linesIn : ByteArray := prog_7_method_21_code
def yX5_linesIn : MethodName := ⟨RX5, "linesIn", "()I"⟩
abbrev cX5_empty : ByteArray := prog_7_method_22_code
def yX5_empty : MethodName := ⟨RX5, "empty", "()I"⟩
abbrev cX5_shape : ByteArray := prog_7_method_23_code
def yX5_shape : MethodName := ⟨RX5, "shape", "(II)I"⟩
abbrev cX5_flush : ByteArray := prog_7_method_24_code
def yX5_flush : MethodName := ⟨RX5, "flush", "()I"⟩
abbrev cX5_addHelper : ByteArray := prog_7_method_25_code
def yX5_addHelper : MethodName := ⟨RX5, "addHelper", "(III)I"⟩
abbrev cX5_setDegree : ByteArray := prog_7_method_26_code
def yX5_setDegree : MethodName := ⟨RX5, "setDegree", "(II)I"⟩
abbrev cX5_setTrial : ByteArray := prog_7_method_27_code
def yX5_setTrial : MethodName := ⟨RX5, "setTrial", "(I)I"⟩
abbrev cX5_pardon : ByteArray := prog_7_method_28_code
def yX5_pardon : MethodName := ⟨RX5, "pardon", "(I)I"⟩
abbrev cX5_forget : ByteArray := prog_7_method_29_code
def yX5_forget : MethodName := ⟨RX5, "forget", "(I)I"⟩
abbrev cX5_reachOf : ByteArray := prog_7_method_30_code
def yX5_reachOf : MethodName := ⟨RX5, "reachOf", "(I)I"⟩
abbrev cX5_rowOf : ByteArray := prog_7_method_31_code
def yX5_rowOf : MethodName := ⟨RX5, "rowOf", "(II)I"⟩
abbrev cX5_dropRow : ByteArray := prog_7_method_32_code
def yX5_dropRow : MethodName := ⟨RX5, "dropRow", "(II)V"⟩
abbrev cX5_addRow : ByteArray := prog_7_method_33_code
def yX5_addRow : MethodName := ⟨RX5, "addRow", "(IIIII)V"⟩
abbrev cX5_learnStride : ByteArray := prog_7_method_34_code
def yX5_learnStride : MethodName := ⟨RX5, "learnStride", "(III)V"⟩
abbrev cX5_learnStream : ByteArray := prog_7_method_35_code
def yX5_learnStream : MethodName := ⟨RX5, "learnStream", "(II)V"⟩
abbrev cX5_learn : ByteArray := prog_7_method_36_code
def yX5_learn : MethodName := ⟨RX5, "learn", "(IIII)V"⟩
abbrev cX5_fetchAhead : ByteArray := prog_7_method_37_code
def yX5_fetchAhead : MethodName := ⟨RX5, "fetchAhead", "(II)I"⟩
abbrev cX5_work : ByteArray := prog_7_method_38_code
def yX5_work : MethodName := ⟨RX5, "work", "()V"⟩
abbrev cX5_use : ByteArray := prog_7_method_39_code
def yX5_use : MethodName := ⟨RX5, "use", "(I)V"⟩
abbrev cX5_find : ByteArray := prog_7_method_40_code
def yX5_find : MethodName := ⟨RX5, "find", "(I)I"⟩
abbrev cX5_go : ByteArray := prog_7_method_41_code
def yX5_go : MethodName := ⟨RX5, "go", "(II)I"⟩
abbrev cX5_isAccess : ByteArray := prog_7_method_42_code
def yX5_isAccess : MethodName := ⟨RX5, "isAccess", "(II)Z"⟩
abbrev cX5_access : ByteArray := prog_7_method_43_code
def yX5_access : MethodName := ⟨RX5, "access", "(II)I"⟩
abbrev cX5_isWalk : ByteArray := prog_7_method_44_code
def yX5_isWalk : MethodName := ⟨RX5, "isWalk", "(IIII)Z"⟩
abbrev cX5_goOn : ByteArray := prog_7_method_45_code
def yX5_goOn : MethodName := ⟨RX5, "goOn", "(IIII)I"⟩
abbrev cX5_walk : ByteArray := prog_7_method_46_code
def yX5_walk : MethodName := ⟨RX5, "walk", "(IIII)I"⟩
abbrev cX5_wouldHit : ByteArray := prog_7_method_47_code
def yX5_wouldHit : MethodName := ⟨RX5, "wouldHit", "(IIII)I"⟩
abbrev cX5_wouldAsk : ByteArray := prog_7_method_48_code
def yX5_wouldAsk : MethodName := ⟨RX5, "wouldAsk", "(IIII)I"⟩
abbrev cX5_type : ByteArray := prog_7_method_49_code
def yX5_type : MethodName := ⟨RX5, "type", "(C)I"⟩
abbrev cX5_clearText : ByteArray := prog_7_method_50_code
def yX5_clearText : MethodName := ⟨RX5, "clearText", "()I"⟩
abbrev cX5_faultOf : ByteArray := prog_7_method_51_code
def yX5_faultOf : MethodName := ⟨RX5, "faultOf", "()I"⟩
abbrev cX5_run : ByteArray := prog_7_method_52_code
def yX5_run : MethodName := ⟨RX5, "run", "()I"⟩
abbrev cX5_line : ByteArray := prog_7_method_53_code
def yX5_line : MethodName := ⟨RX5, "line", "(II)I"⟩
abbrev cX5_inSet : ByteArray := prog_7_method_54_code
def yX5_inSet : MethodName := ⟨RX5, "inSet", "(II)I"⟩
abbrev cX5_thrownOut : ByteArray := prog_7_method_55_code
def yX5_thrownOut : MethodName := ⟨RX5, "thrownOut", "(I)I"⟩
abbrev cX5_newOf : ByteArray := prog_7_method_56_code
def yX5_newOf : MethodName := ⟨RX5, "newOf", "(I)I"⟩
abbrev cX5_helper : ByteArray := prog_7_method_57_code
def yX5_helper : MethodName := ⟨RX5, "helper", "(II)I"⟩
abbrev cX5_table : ByteArray := prog_7_method_58_code
def yX5_table : MethodName := ⟨RX5, "table", "(III)I"⟩
abbrev cX5_bestHelper : ByteArray := prog_7_method_59_code
def yX5_bestHelper : MethodName := ⟨RX5, "bestHelper", "()I"⟩
abbrev cX5_loggedMany : ByteArray := prog_7_method_60_code
def yX5_loggedMany : MethodName := ⟨RX5, "loggedMany", "()I"⟩
abbrev cX5_logged : ByteArray := prog_7_method_61_code
def yX5_logged : MethodName := ⟨RX5, "logged", "(II)I"⟩
abbrev cX5_programsLogged : ByteArray := prog_7_method_62_code
def yX5_programsLogged : MethodName := ⟨RX5, "programsLogged", "()I"⟩
abbrev cX5_hoursOfAll : ByteArray := prog_7_method_63_code
def yX5_hoursOfAll : MethodName := ⟨RX5, "hoursOfAll", "()I"⟩
abbrev cX5_count : ByteArray := prog_7_method_64_code
def yX5_count : MethodName := ⟨RX5, "count", "(I)I"⟩
def RJ6 : String := "java/lang/Integer"
def TJ6 : u_T := fun k => match k with
  | _ => ("", "", "", false)
def tyJ6 : Nat → FieldType := fun k => match k with
  | _ => .int
abbrev wsJ60 : List Cond := u_ws RJ6 TJ6 0
theorem nmJ6 : ∀ a, a < 0 → ∀ b, b < 0 → a ≠ b → (TJ6 a).2.1 ≠ (TJ6 b).2.1 := by decide +kernel
theorem tyJ6_ok : ∀ k, k < 0 → parseFieldDescriptor (TJ6 k).2.2.1 = some (tyJ6 k) := by decide +kernel
abbrev cJ6_bitCount_0f7a4 : ByteArray := prog_8_method_49_code
def yJ6_bitCount_0f7a4 : MethodName := ⟨RJ6, "bitCount", "(I)I"⟩
def RJ9 : String := "java/lang/Math"
def TJ9 : u_T := fun k => match k with
  | _ => ("", "", "", false)
def tyJ9 : Nat → FieldType := fun k => match k with
  | _ => .int
abbrev wsJ90 : List Cond := u_ws RJ9 TJ9 0
theorem nmJ9 : ∀ a, a < 0 → ∀ b, b < 0 → a ≠ b → (TJ9 a).2.1 ≠ (TJ9 b).2.1 := by decide +kernel
theorem tyJ9_ok : ∀ k, k < 0 → parseFieldDescriptor (TJ9 k).2.2.1 = some (tyJ9 k) := by decide +kernel
abbrev cJ9_abs_0f7a4 : ByteArray := prog_9_method_59_code
def yJ9_abs_0f7a4 : MethodName := ⟨RJ9, "abs", "(I)I"⟩
abbrev cJ9_max_7cf53 : ByteArray := prog_9_method_65_code
def yJ9_max_7cf53 : MethodName := ⟨RJ9, "max", "(II)I"⟩
abbrev cJ9_min_7cf53 : ByteArray := prog_9_method_69_code
def yJ9_min_7cf53 : MethodName := ⟨RJ9, "min", "(II)I"⟩
def RL : String := "ParoleCacheLaw"
abbrev cL_law : ByteArray := code
def yL_law : MethodName := ⟨RL, "law", "([I)Z"⟩
abbrev vwCl : List vw_C := [(RX0, TX0, 16), (RX1, TX1, 4), (RX2, TX2, 13), (RX3, TX3, 2), (RX4, TX4, 7), (RX5, TX5, 9)]
/-! the words that all methods share: those of the tables that stay as the machine warms up -/
def x_nest : Cond → Bool
  | .fieldLinkNest .. => true
  | .methodLinkNest .. => true
  | _ => false
def x_good (w : Cond) : Bool := goodWord w || x_nest w
def lw_use : List Cond := lw_tbl.filter x_good
theorem x_use {w : Cond} (i : Nat) (h : lw_tbl[i]? = some w) (hg : x_good w = true) : w ∈ lw_use := List.mem_filter.mpr ⟨List.mem_of_getElem? h, hg⟩
theorem x_warm {w : Cond} (h : x_good w = true) {s U : State} {a a' : Array Value} (hW : s.WarmedH U.vm) (hb : w.before a s = true) : w.before a' U = true := by
  rcases Bool.or_eq_true _ _ ▸ h with h | h
  · exact word_at hW (good_of_word h) hb
  · cases w with
    | fieldLinkNest x i b n d h9 => exact va_Nw.use rfl (va_Nw.warmF hW (va_Nw.of rfl hb))
    | methodLinkNest x i y h9 => exact va_Nw.use rfl (va_Nw.warmM hW (va_Nw.of rfl hb))
    | _ => cases h
/-- the tables' words hold -/
def x_N (U : State) : Prop := ∀ (a : Array Value) (w : Cond), w ∈ lw_use → w.before a U = true
theorem x_N_warm {s U : State} (hW : s.WarmedH U.vm) (h : x_N s) : x_N U := fun a w hw => x_warm (List.mem_filter.mp hw).2 hW (h #[] w hw)
theorem x_N_same {s U : State} (hv : U.vm = s.vm) (h : x_N s) : x_N U := x_N_warm (by rw [hv]; exact State.WarmedH.refl s) h
theorem x_N_of {s : State} {a : Array Value} (h : ∀ w ∈ lw_tbl, w.before a s = true) : x_N s := fun a' w hw => x_warm (List.mem_filter.mp hw).2 (State.WarmedH.refl s) (h w (List.mem_filter.mp hw).1)
theorem x_N_in {ws : List Cond} (h : ws.all x_good = true) (hm : ∀ w ∈ ws, w ∈ lw_tbl) : ∀ w ∈ ws, w ∈ lw_use := fun w hw => List.mem_filter.mpr ⟨hm w hw, List.all_eq_true.mp h w hw⟩
theorem inu0 : ∀ w ∈ wsX00, w ∈ lw_use := x_N_in (by decide +kernel) (by decide +kernel)
theorem inu1 : ∀ w ∈ wsX10, w ∈ lw_use := x_N_in (by decide +kernel) (by decide +kernel)
theorem inu2 : ∀ w ∈ wsX20, w ∈ lw_use := x_N_in (by decide +kernel) (by decide +kernel)
theorem inu3 : ∀ w ∈ wsX30, w ∈ lw_use := x_N_in (by decide +kernel) (by decide +kernel)
theorem inu4 : ∀ w ∈ wsX40, w ∈ lw_use := x_N_in (by decide +kernel) (by decide +kernel)
theorem inu5 : ∀ w ∈ wsX50, w ∈ lw_use := x_N_in (by decide +kernel) (by decide +kernel)
end
section
theorem x_nlt {x y : Int32} : ¬ x < y ↔ y ≤ x := by
  rw [Int32.lt_iff_toInt_lt, Int32.le_iff_toInt_le]
  omega
theorem x_nle {x y : Int32} : ¬ x ≤ y ↔ y < x := by
  rw [Int32.lt_iff_toInt_lt, Int32.le_iff_toInt_le]
  omega
def x_rem (x y : Int32) : Int32 := x - x / y * y
/-! worlds of a block of cells under a memory, and the rules of a walk over them -/
abbrev xM : Type := Nat → Nat → Int32
def x_up (σ : xM) (r k : Nat) (v : Int32) : xM := fun r' k' => if r' = r ∧ k' = k then v else σ r' k'
theorem x_up_ne {σ : xM} {r k : Nat} {v : Int32} (r' : Nat) (h : r' ≠ r) (k' : Nat) : σ r' k' = x_up σ r k v r' k' := by simp [x_up, h]
theorem x_up_row {σ : xM} {r k : Nat} {v : Int32} : x_up σ r k v r = upd (σ r) k v := by
  funext j
  simp [x_up, upd]
def x_bl (n : Nat) (ad : Nat → Nat) (wf : xM → Nat → va_E) (σ : xM) : va_W := (List.range n).map (fun r => (ad r, wf σ r))
theorem x_bl_get {n : Nat} {ad : Nat → Nat} {wf : xM → Nat → va_E} {σ : xM} {r : Nat} (h : r < n) : (x_bl n ad wf σ)[r]? = some (ad r, wf σ r) := by
  simp [x_bl, h]
theorem x_bl_len {n : Nat} {ad : Nat → Nat} {wf : xM → Nat → va_E} {σ : xM} : (x_bl n ad wf σ).length = n := by
  simp [x_bl]
theorem x_bl_mem {n : Nat} {ad : Nat → Nat} {wf : xM → Nat → va_E} {σ : xM} {k : Nat} {q : Nat × va_E} (h : (x_bl n ad wf σ)[k]? = some q) : k < n ∧ q = (ad k, wf σ k) := by
  by_cases hk : k < n
  · rw [x_bl_get hk] at h
    exact ⟨hk, (Option.some.inj h).symm⟩
  · rw [List.getElem?_eq_none (by rw [x_bl_len]; exact Nat.not_lt.mp hk)] at h
    cases h
def x_loc (wf : xM → Nat → va_E) : Prop := ∀ (σ σ' : xM) (r : Nat), (∀ k, σ r k = σ' r k) → wf σ r = wf σ' r
theorem x_bl_set {n : Nat} {ad : Nat → Nat} {wf : xM → Nat → va_E} {σ σ' : xM} {r : Nat} {e : va_E} (hl : x_loc wf) (h : r < n) (he : wf σ' r = e) (ho : ∀ r', r' ≠ r → ∀ k, σ r' k = σ' r' k) : (x_bl n ad wf σ).set r (ad r, e) = x_bl n ad wf σ' := by
  apply List.ext_getElem?
  intro i
  rw [List.getElem?_set]
  by_cases hi : i < n
  · rw [x_bl_get hi, x_bl_get hi]
    by_cases hir : r = i
    · subst hir
      rw [if_pos rfl, if_pos (by rw [x_bl_len]; exact h), he]
    · rw [if_neg hir, hl σ σ' i (ho i (fun q => hir q.symm))]
  · rw [if_neg (fun (q : r = i) => hi (q ▸ h)), List.getElem?_eq_none (by rw [x_bl_len]; exact Nat.not_lt.mp hi), List.getElem?_eq_none (by rw [x_bl_len]; exact Nat.not_lt.mp hi)]
theorem x_bl_D {n : Nat} {ad : Nat → Nat} {wf wf' : xM → Nat → va_E} {σ σ' : xM} {A : Nat → Prop} (h : va_D A (x_bl n ad wf σ)) : va_D A (x_bl n ad wf' σ') := by
  refine ⟨fun i j p q hi hj hpq => ?_, fun k q hk => ?_⟩
  · obtain ⟨h1, rfl⟩ := x_bl_mem hi
    obtain ⟨h2, rfl⟩ := x_bl_mem hj
    exact h.1 i j _ _ (x_bl_get h1) (x_bl_get h2) hpq
  · obtain ⟨h1, rfl⟩ := x_bl_mem hk
    exact h.2 k (ad k, wf σ k) (x_bl_get h1)
theorem x_bl_A {n : Nat} {ad : Nat → Nat} {wf wf' : xM → Nat → va_E} {σ σ' : xM} {sz q : Nat} (h : va_A (x_bl n ad wf σ) sz q) : va_A (x_bl n ad wf' σ') sz q := by
  rcases h with ⟨k, e, h⟩ | h
  · obtain ⟨h1, h2⟩ := x_bl_mem h
    exact Or.inl ⟨k, wf' σ' k, by rw [x_bl_get h1, (Prod.mk.inj h2).1]⟩
  · exact Or.inr h
/-- a method's end: its answer, the world behind it, nothing else is changed -/
def x_Q (val : Option Value) (B : State → Prop) (A : Nat → Prop) : Array Value → State → Outcome → State → Prop := fun _ st oc t => (oc = .returned val ∧ B t) ∧ va_F A st t
/-- the contract of a method that makes nothing: it takes the memory σ to σ', and answers val -/
def x_Met (l : Launch) (y : MethodName) (ws : List Cond) (rm : Room) (D : va_G) (cl : List vw_C) (tys : List (ClassId × FieldType)) (n : Nat) (ad : Nat → Nat) (wf : xM → Nat → va_E) (av : List Value) (σ : xM) (val : Option Value) (σ' : xM) : Prop :=
  ∀ sz : Nat, Met l y ws rm (va_Pc av (fun U => U.heap.size = sz ∧ va_P D cl (x_bl n ad wf σ) U.heap ∧ va_K D cl tys U ∧ va_D (fun _ => True) (x_bl n ad wf σ) ∧ x_N U)) (x_Q val (fun t => va_P D cl (x_bl n ad wf σ') t.heap) (va_A (x_bl n ad wf σ) sz)) 0 0 (va_A (x_bl n ad wf σ) sz)
/-- what holds all along a walk -/
def x_C (p : Program) (s : State) (m : MethodId) (args : Array Value) (meth : Method) (c : Code) (D : va_G) (cl : List vw_C) (tys : List (ClassId × FieldType)) (A : Nat → Prop) (H0 : Heap) (n : Nat) (ad : Nat → Nat) (wf : xM → Nat → va_E) (cc : ByteArray) (nL : Nat) (own : String) (ret : Option FieldType) : Prop :=
  CallFix p m c cc nL s args lw_use own ∧ va_K D cl tys s ∧ (∀ σ, va_D A (x_bl n ad wf σ)) ∧ (∀ q, H0.size ≤ q → A q) ∧ x_loc wf ∧ meth.locks = false ∧ meth.sig.returnType = ret ∧ x_N s
def x_W (p : Program) (l : Launch) (e : Env) (R : Room) (s : State) (m : MethodId) (args : Array Value) (below : List Frame) (meth : Method) (c : Code) (D : va_G) (cl : List vw_C) (A : Nat → Prop) (H0 : Heap) (n : Nat) (ad : Nat → Nat) (wf : xM → Nat → va_E) (nL : Nat) (Q : State → Prop) (σ : xM) (pc : Nat) (L : List (Nat × Value)) (st : List Value) : Prop :=
  ∀ (H : Heap) (locs : List Loc) (ls : Array Slot), lv_has ls nL L → va_P D cl (x_bl n ad wf σ) H → va_S A H0 H locs → W p l e R s m args below meth c H locs 0 0 Q (F0 m pc ls st)
/-- a method's end, as the walk's goal -/
def x_E (below : List Frame) (args : Array Value) (s : State) (D : va_G) (cl : List vw_C) (n : Nat) (ad : Nat → Nat) (wf : xM → Nat → va_E) (A : Nat → Prop) (val : Option Value) (σ : xM) : State → Prop := MQ below (x_Q val (fun t => va_P D cl (x_bl n ad wf σ) t.heap) A) args s 0 0 A
theorem x_Met_of {l : Launch} {y : MethodName} {ws ws' : List Cond} {rm : Room} {D : va_G} {cl : List vw_C} {tys : List (ClassId × FieldType)} {n : Nat} {ad : Nat → Nat} {wf : xM → Nat → va_E} {av : List Value} {σ : xM} {val : Option Value} {σ' : xM} {cc : ByteArray} {nL : Nat} {ret : Option FieldType} {L0 : List (Nat × Value)}
    (hy : plainName y.cls = true) (hw : ws = Cond.code y cc nL ret :: ws') (hloc : x_loc wf) (hn : (lg_sl av).length ≤ nL) (hL0 : lv_args 0 av = L0)
    (body : ∀ (p : Program) (e : Env) (s : State) (m : MethodId) (args : Array Value) (below : List Frame) (meth : Method) (c : Code) (A : Nat → Prop), x_C p s m args meth c D cl tys A s.heap n ad wf cc nL y.cls ret → x_W p l e rm s m args below meth c D cl A s.heap n ad wf nL (x_E below args s D cl n ad wf A val σ') σ 0 L0 []) :
    x_Met l y ws rm D cl tys n ad wf av σ val σ' := by
  intro sz
  refine Met.ofW (cc := cc) (maxL := nL) (ret := ret) (ws' := ws') hy hw ?_
  intro p e s m args below meth c s₁ B hml hv
  obtain ⟨rfl, hsz, hP, hK, hD0, hN⟩ := hv
  have hx := B.exec
  have hb := B.bytes
  have hr := B.returns
  have hown : s.vm.findClass y.cls = some m.cls := findClass_of_methodNamed B.named
  have hlocks := B.notSynchronized
  subst hsz
  have hD := hD0.self (sz := s.heap.size)
  have hl := lv_entry av (n := nL) hn
  rw [lg_entry_eq]
  rw [hL0] at hl
  exact body p e s m _ below meth c (va_A (x_bl n ad wf σ) s.heap.size) ⟨⟨hx, hb, hml, hown, fun w hw => hN _ w hw⟩, hK, fun σ1 => x_bl_D hD, fun q h => Or.inr h, hloc, hlocks, hr, hN⟩ s.heap [] _ hl hP va_S.rf
section XR
variable {p : Program} {l : Launch} {e : Env} {R : Room} {s : State} {m : MethodId} {args : Array Value} {below : List Frame} {meth : Method} {c : Code} {D : va_G} {cl : List vw_C} {tys : List (ClassId × FieldType)} {A : Nat → Prop} {H0 : Heap} {n : Nat} {ad : Nat → Nat} {wf : xM → Nat → va_E} {cc : ByteArray} {nL : Nat} {own : String} {ret : Option FieldType} {Q : State → Prop} {σ : xM} {pc : Nat} {L : List (Nat × Value)} {st : List Value}
theorem x_iload (C0 : x_C p s m args meth c D cl tys A H0 n ad wf cc nL own ret) {i : Nat} {x : Int32} (d : decode cc pc = .ok (.iload i, 2)) (k : Nat) (h : L[k]? = some (i, .int x)) (K : x_W p l e R s m args below meth c D cl A H0 n ad wf nL Q σ (pc + 2) L (.int x :: st)) : x_W p l e R s m args below meth c D cl A H0 n ad wf nL Q σ pc L st :=
  fun H locs ls hl hP hS => lv_iload C0.1.1 C0.1.2.1 d (lv_at hl k h) (K H locs ls hl hP hS)
theorem x_iload_n (C0 : x_C p s m args meth c D cl tys A H0 n ad wf cc nL own ret) {f : Fin 4} {i : Nat} {x : Int32} (d : decode cc pc = .ok (.iload_n f, 1)) (hi : (f : Nat) = i) (k : Nat) (h : L[k]? = some (i, .int x)) (K : x_W p l e R s m args below meth c D cl A H0 n ad wf nL Q σ (pc + 1) L (.int x :: st)) : x_W p l e R s m args below meth c D cl A H0 n ad wf nL Q σ pc L st :=
  fun H locs ls hl hP hS => lv_iload_n C0.1.1 C0.1.2.1 d hi (lv_at hl k h) (K H locs ls hl hP hS)
theorem x_aload (C0 : x_C p s m args meth c D cl tys A H0 n ad wf cc nL own ret) {i x : Nat} (d : decode cc pc = .ok (.aload i, 2)) (k : Nat) (h : L[k]? = some (i, .ref x)) (K : x_W p l e R s m args below meth c D cl A H0 n ad wf nL Q σ (pc + 2) L (.ref x :: st)) : x_W p l e R s m args below meth c D cl A H0 n ad wf nL Q σ pc L st :=
  fun H locs ls hl hP hS => lv_aload C0.1.1 C0.1.2.1 d (lv_at hl k h) (K H locs ls hl hP hS)
theorem x_aload_n (C0 : x_C p s m args meth c D cl tys A H0 n ad wf cc nL own ret) {f : Fin 4} {i x : Nat} (d : decode cc pc = .ok (.aload_n f, 1)) (hi : (f : Nat) = i) (k : Nat) (h : L[k]? = some (i, .ref x)) (K : x_W p l e R s m args below meth c D cl A H0 n ad wf nL Q σ (pc + 1) L (.ref x :: st)) : x_W p l e R s m args below meth c D cl A H0 n ad wf nL Q σ pc L st :=
  fun H locs ls hl hP hS => lv_aload_n C0.1.1 C0.1.2.1 d hi (lv_at hl k h) (K H locs ls hl hP hS)
theorem x_aloadN (C0 : x_C p s m args meth c D cl tys A H0 n ad wf cc nL own ret) {i : Nat} (d : decode cc pc = .ok (.aload i, 2)) (k : Nat) (h : L[k]? = some (i, .null)) (K : x_W p l e R s m args below meth c D cl A H0 n ad wf nL Q σ (pc + 2) L (.null :: st)) : x_W p l e R s m args below meth c D cl A H0 n ad wf nL Q σ pc L st :=
  fun H locs ls hl hP hS => lv_aloadN C0.1.1 C0.1.2.1 d (lv_at hl k h) (K H locs ls hl hP hS)
theorem x_aload_nN (C0 : x_C p s m args meth c D cl tys A H0 n ad wf cc nL own ret) {f : Fin 4} {i : Nat} (d : decode cc pc = .ok (.aload_n f, 1)) (hi : (f : Nat) = i) (k : Nat) (h : L[k]? = some (i, .null)) (K : x_W p l e R s m args below meth c D cl A H0 n ad wf nL Q σ (pc + 1) L (.null :: st)) : x_W p l e R s m args below meth c D cl A H0 n ad wf nL Q σ pc L st :=
  fun H locs ls hl hP hS => lv_aload_nN C0.1.1 C0.1.2.1 d hi (lv_at hl k h) (K H locs ls hl hP hS)
theorem x_istore (C0 : x_C p s m args meth c D cl tys A H0 n ad wf cc nL own ret) {i : Nat} {x : Int32} (d : decode cc pc = .ok (.istore i, 2)) {L' : List (Nat × Value)} (hn : i < nL) (hL : (i, Value.int x) :: L.filter (fun q => !(q.1 == i) && !(q.1 + 1 == i && q.2.category == 2)) = L') (K : x_W p l e R s m args below meth c D cl A H0 n ad wf nL Q σ (pc + 2) L' st) : x_W p l e R s m args below meth c D cl A H0 n ad wf nL Q σ pc L (Value.int x :: st) :=
  fun H locs ls hl hP hS => lv_istore C0.1.1 C0.1.2.1 d hl hn hL (fun ls' hl' => K H locs ls' hl' hP hS)
theorem x_istore_n (C0 : x_C p s m args meth c D cl tys A H0 n ad wf cc nL own ret) {f : Fin 4} {i : Nat} {x : Int32} (d : decode cc pc = .ok (.istore_n f, 1)) (hi : (f : Nat) = i) {L' : List (Nat × Value)} (hn : i < nL) (hL : (i, Value.int x) :: L.filter (fun q => !(q.1 == i) && !(q.1 + 1 == i && q.2.category == 2)) = L') (K : x_W p l e R s m args below meth c D cl A H0 n ad wf nL Q σ (pc + 1) L' st) : x_W p l e R s m args below meth c D cl A H0 n ad wf nL Q σ pc L (Value.int x :: st) :=
  fun H locs ls hl hP hS => lv_istore_n C0.1.1 C0.1.2.1 d hi hl hn hL (fun ls' hl' => K H locs ls' hl' hP hS)
theorem x_astore (C0 : x_C p s m args meth c D cl tys A H0 n ad wf cc nL own ret) {i : Nat} {x : Nat} (d : decode cc pc = .ok (.astore i, 2)) {L' : List (Nat × Value)} (hn : i < nL) (hL : (i, Value.ref x) :: L.filter (fun q => !(q.1 == i) && !(q.1 + 1 == i && q.2.category == 2)) = L') (K : x_W p l e R s m args below meth c D cl A H0 n ad wf nL Q σ (pc + 2) L' st) : x_W p l e R s m args below meth c D cl A H0 n ad wf nL Q σ pc L (Value.ref x :: st) :=
  fun H locs ls hl hP hS => lv_astore C0.1.1 C0.1.2.1 d hl hn hL (fun ls' hl' => K H locs ls' hl' hP hS)
theorem x_astore_n (C0 : x_C p s m args meth c D cl tys A H0 n ad wf cc nL own ret) {f : Fin 4} {i : Nat} {x : Nat} (d : decode cc pc = .ok (.astore_n f, 1)) (hi : (f : Nat) = i) {L' : List (Nat × Value)} (hn : i < nL) (hL : (i, Value.ref x) :: L.filter (fun q => !(q.1 == i) && !(q.1 + 1 == i && q.2.category == 2)) = L') (K : x_W p l e R s m args below meth c D cl A H0 n ad wf nL Q σ (pc + 1) L' st) : x_W p l e R s m args below meth c D cl A H0 n ad wf nL Q σ pc L (Value.ref x :: st) :=
  fun H locs ls hl hP hS => lv_astore_n C0.1.1 C0.1.2.1 d hi hl hn hL (fun ls' hl' => K H locs ls' hl' hP hS)
theorem x_astoreN (C0 : x_C p s m args meth c D cl tys A H0 n ad wf cc nL own ret) {i : Nat} (d : decode cc pc = .ok (.astore i, 2)) {L' : List (Nat × Value)} (hn : i < nL) (hL : (i, Value.null) :: L.filter (fun q => !(q.1 == i) && !(q.1 + 1 == i && q.2.category == 2)) = L') (K : x_W p l e R s m args below meth c D cl A H0 n ad wf nL Q σ (pc + 2) L' st) : x_W p l e R s m args below meth c D cl A H0 n ad wf nL Q σ pc L (Value.null :: st) :=
  fun H locs ls hl hP hS => lv_astoreN C0.1.1 C0.1.2.1 d hl hn hL (fun ls' hl' => K H locs ls' hl' hP hS)
theorem x_astore_nN (C0 : x_C p s m args meth c D cl tys A H0 n ad wf cc nL own ret) {f : Fin 4} {i : Nat} (d : decode cc pc = .ok (.astore_n f, 1)) (hi : (f : Nat) = i) {L' : List (Nat × Value)} (hn : i < nL) (hL : (i, Value.null) :: L.filter (fun q => !(q.1 == i) && !(q.1 + 1 == i && q.2.category == 2)) = L') (K : x_W p l e R s m args below meth c D cl A H0 n ad wf nL Q σ (pc + 1) L' st) : x_W p l e R s m args below meth c D cl A H0 n ad wf nL Q σ pc L (Value.null :: st) :=
  fun H locs ls hl hP hS => lv_astore_nN C0.1.1 C0.1.2.1 d hi hl hn hL (fun ls' hl' => K H locs ls' hl' hP hS)
theorem x_iinc (C0 : x_C p s m args meth c D cl tys A H0 n ad wf cc nL own ret) {i : Nat} {z : Int} {x v : Int32} {L' : List (Nat × Value)} (d : decode cc pc = .ok (.iinc i z, 3)) (k : Nat) (h : L[k]? = some (i, .int x)) (hv : Int32.ofInt z = v) (hn : i < nL) (hL : (i, Value.int (x + v)) :: L.filter (fun q => !(q.1 == i) && !(q.1 + 1 == i && q.2.category == 2)) = L') (K : x_W p l e R s m args below meth c D cl A H0 n ad wf nL Q σ (pc + 3) L' st) : x_W p l e R s m args below meth c D cl A H0 n ad wf nL Q σ pc L st :=
  fun H locs ls hl hP hS => lv_iinc C0.1.1 C0.1.2.1 d hl h (by rw [hv]) hn hL (fun ls' hl' => K H locs ls' hl' hP hS)
theorem x_sub (ks : List Nat) {L' : List (Nat × Value)} (hl' : lv_pick L ks = L') (K : x_W p l e R s m args below meth c D cl A H0 n ad wf nL Q σ pc L' st) : x_W p l e R s m args below meth c D cl A H0 n ad wf nL Q σ pc L st :=
  fun H locs ls hl hP hS => K H locs ls (lv_sub hl ks hl') hP hS
theorem x_iconst (C0 : x_C p s m args meth c D cl tys A H0 n ad wf cc nL own ret) {z : Int} {v : Int32} (d : decode cc pc = .ok (.iconst z, 1)) (hv : Int32.ofInt z = v) (K : x_W p l e R s m args below meth c D cl A H0 n ad wf nL Q σ (pc + 1) L (.int v :: st)) : x_W p l e R s m args below meth c D cl A H0 n ad wf nL Q σ pc L st :=
  fun H locs ls hl hP hS => lv_iconst C0.1.1 C0.1.2.1 d hv (K H locs ls hl hP hS)
theorem x_bipush (C0 : x_C p s m args meth c D cl tys A H0 n ad wf cc nL own ret) {z : Int} {v : Int32} (d : decode cc pc = .ok (.bipush z, 2)) (hv : (Int8.ofInt z).toInt32 = v) (K : x_W p l e R s m args below meth c D cl A H0 n ad wf nL Q σ (pc + 2) L (.int v :: st)) : x_W p l e R s m args below meth c D cl A H0 n ad wf nL Q σ pc L st :=
  fun H locs ls hl hP hS => lv_bipush C0.1.1 C0.1.2.1 d hv (K H locs ls hl hP hS)
theorem x_sipush (C0 : x_C p s m args meth c D cl tys A H0 n ad wf cc nL own ret) {z : Int} {v : Int32} (d : decode cc pc = .ok (.sipush z, 3)) (hv : (Int16.ofInt z).toInt32 = v) (K : x_W p l e R s m args below meth c D cl A H0 n ad wf nL Q σ (pc + 3) L (.int v :: st)) : x_W p l e R s m args below meth c D cl A H0 n ad wf nL Q σ pc L st :=
  fun H locs ls hl hP hS => lv_sipush C0.1.1 C0.1.2.1 d hv (K H locs ls hl hP hS)
theorem x_ldc (C0 : x_C p s m args meth c D cl tys A H0 n ad wf cc nL own ret) {i : Nat} {v : Int32} (hw : Cond.constant own i v ∈ lw_use) (d : decode cc pc = .ok (.ldc i, 2)) (K : x_W p l e R s m args below meth c D cl A H0 n ad wf nL Q σ (pc + 2) L (.int v :: st)) : x_W p l e R s m args below meth c D cl A H0 n ad wf nL Q σ pc L st :=
  fun H locs ls hl hP hS => lv_ldc C0.1.1 C0.1.2.1 C0.1.2.2.2.1 (C0.1.2.2.2.2 _ hw) d (K H locs ls hl hP hS)
theorem x_null (C0 : x_C p s m args meth c D cl tys A H0 n ad wf cc nL own ret) (d : decode cc pc = .ok (.aconst_null, 1)) (K : x_W p l e R s m args below meth c D cl A H0 n ad wf nL Q σ (pc + 1) L (.null :: st)) : x_W p l e R s m args below meth c D cl A H0 n ad wf nL Q σ pc L st :=
  fun H locs ls hl hP hS => lv_null C0.1.1 C0.1.2.1 d (K H locs ls hl hP hS)
theorem x_iadd (C0 : x_C p s m args meth c D cl tys A H0 n ad wf cc nL own ret) {x y : Int32} (d : decode cc pc = .ok (.iadd, 1)) (K : x_W p l e R s m args below meth c D cl A H0 n ad wf nL Q σ (pc + 1) L (.int (x + y) :: st)) : x_W p l e R s m args below meth c D cl A H0 n ad wf nL Q σ pc L (.int y :: .int x :: st) :=
  fun H locs ls hl hP hS => lv_iadd C0.1.1 C0.1.2.1 d (K H locs ls hl hP hS)
theorem x_isub (C0 : x_C p s m args meth c D cl tys A H0 n ad wf cc nL own ret) {x y : Int32} (d : decode cc pc = .ok (.isub, 1)) (K : x_W p l e R s m args below meth c D cl A H0 n ad wf nL Q σ (pc + 1) L (.int (x - y) :: st)) : x_W p l e R s m args below meth c D cl A H0 n ad wf nL Q σ pc L (.int y :: .int x :: st) :=
  fun H locs ls hl hP hS => lv_isub C0.1.1 C0.1.2.1 d (K H locs ls hl hP hS)
theorem x_imul (C0 : x_C p s m args meth c D cl tys A H0 n ad wf cc nL own ret) {x y : Int32} (d : decode cc pc = .ok (.imul, 1)) (K : x_W p l e R s m args below meth c D cl A H0 n ad wf nL Q σ (pc + 1) L (.int (x * y) :: st)) : x_W p l e R s m args below meth c D cl A H0 n ad wf nL Q σ pc L (.int y :: .int x :: st) :=
  fun H locs ls hl hP hS => lv_imul C0.1.1 C0.1.2.1 d (K H locs ls hl hP hS)
theorem x_iand (C0 : x_C p s m args meth c D cl tys A H0 n ad wf cc nL own ret) {x y : Int32} (d : decode cc pc = .ok (.iand, 1)) (K : x_W p l e R s m args below meth c D cl A H0 n ad wf nL Q σ (pc + 1) L (.int (x &&& y) :: st)) : x_W p l e R s m args below meth c D cl A H0 n ad wf nL Q σ pc L (.int y :: .int x :: st) :=
  fun H locs ls hl hP hS => lv_iand C0.1.1 C0.1.2.1 d (K H locs ls hl hP hS)
theorem x_ior (C0 : x_C p s m args meth c D cl tys A H0 n ad wf cc nL own ret) {x y : Int32} (d : decode cc pc = .ok (.ior, 1)) (K : x_W p l e R s m args below meth c D cl A H0 n ad wf nL Q σ (pc + 1) L (.int (x ||| y) :: st)) : x_W p l e R s m args below meth c D cl A H0 n ad wf nL Q σ pc L (.int y :: .int x :: st) :=
  fun H locs ls hl hP hS => lv_ior C0.1.1 C0.1.2.1 d (K H locs ls hl hP hS)
theorem x_ishl (C0 : x_C p s m args meth c D cl tys A H0 n ad wf cc nL own ret) {x y : Int32} (d : decode cc pc = .ok (.ishl, 1)) (K : x_W p l e R s m args below meth c D cl A H0 n ad wf nL Q σ (pc + 1) L (.int (x <<< (y &&& 31)) :: st)) : x_W p l e R s m args below meth c D cl A H0 n ad wf nL Q σ pc L (.int y :: .int x :: st) :=
  fun H locs ls hl hP hS => lv_ishl C0.1.1 C0.1.2.1 d (K H locs ls hl hP hS)
theorem x_ishr (C0 : x_C p s m args meth c D cl tys A H0 n ad wf cc nL own ret) {x y : Int32} (d : decode cc pc = .ok (.ishr, 1)) (K : x_W p l e R s m args below meth c D cl A H0 n ad wf nL Q σ (pc + 1) L (.int (x >>> (y &&& 31)) :: st)) : x_W p l e R s m args below meth c D cl A H0 n ad wf nL Q σ pc L (.int y :: .int x :: st) :=
  fun H locs ls hl hP hS => lv_ishr C0.1.1 C0.1.2.1 d (K H locs ls hl hP hS)
theorem x_dup (C0 : x_C p s m args meth c D cl tys A H0 n ad wf cc nL own ret) {v : Value} (d : decode cc pc = .ok (.dup, 1)) (hv : v.category = 1) (K : x_W p l e R s m args below meth c D cl A H0 n ad wf nL Q σ (pc + 1) L (v :: v :: st)) : x_W p l e R s m args below meth c D cl A H0 n ad wf nL Q σ pc L (v :: st) :=
  fun H locs ls hl hP hS => lv_dup C0.1.1 C0.1.2.1 d hv (K H locs ls hl hP hS)
theorem x_dup2 (C0 : x_C p s m args meth c D cl tys A H0 n ad wf cc nL own ret) {v w : Value} (d : decode cc pc = .ok (.dup2, 1)) (hv : v.category = 1) (hw : w.category = 1) (K : x_W p l e R s m args below meth c D cl A H0 n ad wf nL Q σ (pc + 1) L (v :: w :: v :: w :: st)) : x_W p l e R s m args below meth c D cl A H0 n ad wf nL Q σ pc L (v :: w :: st) :=
  fun H locs ls hl hP hS => lv_dup2_11 C0.1.1 C0.1.2.1 d hv hw (K H locs ls hl hP hS)
theorem x_pop (C0 : x_C p s m args meth c D cl tys A H0 n ad wf cc nL own ret) {v : Value} (d : decode cc pc = .ok (.pop, 1)) (hv : v.category = 1) (K : x_W p l e R s m args below meth c D cl A H0 n ad wf nL Q σ (pc + 1) L st) : x_W p l e R s m args below meth c D cl A H0 n ad wf nL Q σ pc L (v :: st) :=
  fun H locs ls hl hP hS => lv_pop C0.1.1 C0.1.2.1 d hv (K H locs ls hl hP hS)
theorem x_i2c (C0 : x_C p s m args meth c D cl tys A H0 n ad wf cc nL own ret) {x v : Int32} (d : decode cc pc = .ok (.i2c, 1)) (hv : (x.toUInt32 % 65536).toInt32 = v) (K : x_W p l e R s m args below meth c D cl A H0 n ad wf nL Q σ (pc + 1) L (.int v :: st)) : x_W p l e R s m args below meth c D cl A H0 n ad wf nL Q σ pc L (.int x :: st) :=
  fun H locs ls hl hP hS => lv_i2c C0.1.1 C0.1.2.1 d hv (K H locs ls hl hP hS)
theorem x_irem (C0 : x_C p s m args meth c D cl tys A H0 n ad wf cc nL own ret) {ρ : Type} {x y : Int32} (d : decode cc pc = .ok (.irem, 1)) {b : Option ρ} {res : ρ} (h : (if y = 0 then none else b) = some res) (K : ¬ y = 0 → b = some res → x_W p l e R s m args below meth c D cl A H0 n ad wf nL Q σ (pc + 1) L (.int (x_rem x y) :: st)) : x_W p l e R s m args below meth c D cl A H0 n ad wf nL Q σ pc L (.int y :: .int x :: st) :=
  by
  by_cases hy : y = 0
  · rw [if_pos hy] at h; cases h
  · rw [if_neg hy] at h
    exact fun H locs ls hl hP hS => lv_irem C0.1.1 C0.1.2.1 d hy (K hy h H locs ls hl hP hS)
theorem x_if_eq (C0 : x_C p s m args meth c D cl tys A H0 n ad wf cc nL own ret) {ρ : Type} {x : Int32} {off : Int} {tgt : Nat} (d : decode cc pc = .ok (.ifCond .eq off, 3)) (ht : (pc : Int) + off = (tgt : Int)) {a b : Option ρ} {res : ρ} (h : (if x = 0 then a else b) = some res) (Kt : x = 0 → a = some res → x_W p l e R s m args below meth c D cl A H0 n ad wf nL Q σ tgt L st) (Kf : ¬ x = 0 → b = some res → x_W p l e R s m args below meth c D cl A H0 n ad wf nL Q σ (pc + 3) L st) : x_W p l e R s m args below meth c D cl A H0 n ad wf nL Q σ pc L (.int x :: st) :=
  fun H locs ls hl hP hS => lv_if_eq C0.1.1 C0.1.2.1 d ht (fun q => by rw [if_pos q] at h; exact Kt q h H locs ls hl hP hS) (fun q => by rw [if_neg q] at h; exact Kf q h H locs ls hl hP hS)
theorem x_icmp_eq (C0 : x_C p s m args meth c D cl tys A H0 n ad wf cc nL own ret) {ρ : Type} {x y : Int32} {off : Int} {tgt : Nat} (d : decode cc pc = .ok (.if_icmp .eq off, 3)) (ht : (pc : Int) + off = (tgt : Int)) {a b : Option ρ} {res : ρ} (h : (if x = y then a else b) = some res) (Kt : x = y → a = some res → x_W p l e R s m args below meth c D cl A H0 n ad wf nL Q σ tgt L st) (Kf : ¬ x = y → b = some res → x_W p l e R s m args below meth c D cl A H0 n ad wf nL Q σ (pc + 3) L st) : x_W p l e R s m args below meth c D cl A H0 n ad wf nL Q σ pc L (.int y :: .int x :: st) :=
  fun H locs ls hl hP hS => lv_icmp_eq C0.1.1 C0.1.2.1 d ht (fun q => by rw [if_pos q] at h; exact Kt q h H locs ls hl hP hS) (fun q => by rw [if_neg q] at h; exact Kf q h H locs ls hl hP hS)
theorem x_if_ne (C0 : x_C p s m args meth c D cl tys A H0 n ad wf cc nL own ret) {ρ : Type} {x : Int32} {off : Int} {tgt : Nat} (d : decode cc pc = .ok (.ifCond .ne off, 3)) (ht : (pc : Int) + off = (tgt : Int)) {a b : Option ρ} {res : ρ} (h : (if x = 0 then a else b) = some res) (Kt : x = 0 → a = some res → x_W p l e R s m args below meth c D cl A H0 n ad wf nL Q σ (pc + 3) L st) (Kf : ¬ x = 0 → b = some res → x_W p l e R s m args below meth c D cl A H0 n ad wf nL Q σ tgt L st) : x_W p l e R s m args below meth c D cl A H0 n ad wf nL Q σ pc L (.int x :: st) :=
  fun H locs ls hl hP hS => lv_if_ne C0.1.1 C0.1.2.1 d ht (fun q => by rw [if_neg q] at h; exact Kf q h H locs ls hl hP hS) (fun q => by rw [if_pos q] at h; exact Kt q h H locs ls hl hP hS)
theorem x_icmp_ne (C0 : x_C p s m args meth c D cl tys A H0 n ad wf cc nL own ret) {ρ : Type} {x y : Int32} {off : Int} {tgt : Nat} (d : decode cc pc = .ok (.if_icmp .ne off, 3)) (ht : (pc : Int) + off = (tgt : Int)) {a b : Option ρ} {res : ρ} (h : (if x = y then a else b) = some res) (Kt : x = y → a = some res → x_W p l e R s m args below meth c D cl A H0 n ad wf nL Q σ (pc + 3) L st) (Kf : ¬ x = y → b = some res → x_W p l e R s m args below meth c D cl A H0 n ad wf nL Q σ tgt L st) : x_W p l e R s m args below meth c D cl A H0 n ad wf nL Q σ pc L (.int y :: .int x :: st) :=
  fun H locs ls hl hP hS => lv_icmp_ne C0.1.1 C0.1.2.1 d ht (fun q => by rw [if_neg q] at h; exact Kf q h H locs ls hl hP hS) (fun q => by rw [if_pos q] at h; exact Kt q h H locs ls hl hP hS)
theorem x_if_lt (C0 : x_C p s m args meth c D cl tys A H0 n ad wf cc nL own ret) {ρ : Type} {x : Int32} {off : Int} {tgt : Nat} (d : decode cc pc = .ok (.ifCond .lt off, 3)) (ht : (pc : Int) + off = (tgt : Int)) {a b : Option ρ} {res : ρ} (h : (if x < 0 then a else b) = some res) (Kt : x < 0 → a = some res → x_W p l e R s m args below meth c D cl A H0 n ad wf nL Q σ tgt L st) (Kf : ¬ x < 0 → b = some res → x_W p l e R s m args below meth c D cl A H0 n ad wf nL Q σ (pc + 3) L st) : x_W p l e R s m args below meth c D cl A H0 n ad wf nL Q σ pc L (.int x :: st) :=
  fun H locs ls hl hP hS => lv_if_lt C0.1.1 C0.1.2.1 d ht (fun q => by rw [if_pos q] at h; exact Kt q h H locs ls hl hP hS) (fun q => by rw [if_neg q] at h; exact Kf q h H locs ls hl hP hS)
theorem x_icmp_lt (C0 : x_C p s m args meth c D cl tys A H0 n ad wf cc nL own ret) {ρ : Type} {x y : Int32} {off : Int} {tgt : Nat} (d : decode cc pc = .ok (.if_icmp .lt off, 3)) (ht : (pc : Int) + off = (tgt : Int)) {a b : Option ρ} {res : ρ} (h : (if x < y then a else b) = some res) (Kt : x < y → a = some res → x_W p l e R s m args below meth c D cl A H0 n ad wf nL Q σ tgt L st) (Kf : ¬ x < y → b = some res → x_W p l e R s m args below meth c D cl A H0 n ad wf nL Q σ (pc + 3) L st) : x_W p l e R s m args below meth c D cl A H0 n ad wf nL Q σ pc L (.int y :: .int x :: st) :=
  fun H locs ls hl hP hS => lv_icmp_lt C0.1.1 C0.1.2.1 d ht (fun q => by rw [if_pos q] at h; exact Kt q h H locs ls hl hP hS) (fun q => by rw [if_neg q] at h; exact Kf q h H locs ls hl hP hS)
theorem x_if_ge (C0 : x_C p s m args meth c D cl tys A H0 n ad wf cc nL own ret) {ρ : Type} {x : Int32} {off : Int} {tgt : Nat} (d : decode cc pc = .ok (.ifCond .ge off, 3)) (ht : (pc : Int) + off = (tgt : Int)) {a b : Option ρ} {res : ρ} (h : (if x < 0 then a else b) = some res) (Kt : x < 0 → a = some res → x_W p l e R s m args below meth c D cl A H0 n ad wf nL Q σ (pc + 3) L st) (Kf : ¬ x < 0 → b = some res → x_W p l e R s m args below meth c D cl A H0 n ad wf nL Q σ tgt L st) : x_W p l e R s m args below meth c D cl A H0 n ad wf nL Q σ pc L (.int x :: st) :=
  fun H locs ls hl hP hS => lv_if_ge C0.1.1 C0.1.2.1 d ht (fun q => by have q := x_nlt.mpr q; rw [if_neg q] at h; exact Kf q h H locs ls hl hP hS) (fun q => by have q := x_nle.mp q; rw [if_pos q] at h; exact Kt q h H locs ls hl hP hS)
theorem x_icmp_ge (C0 : x_C p s m args meth c D cl tys A H0 n ad wf cc nL own ret) {ρ : Type} {x y : Int32} {off : Int} {tgt : Nat} (d : decode cc pc = .ok (.if_icmp .ge off, 3)) (ht : (pc : Int) + off = (tgt : Int)) {a b : Option ρ} {res : ρ} (h : (if x < y then a else b) = some res) (Kt : x < y → a = some res → x_W p l e R s m args below meth c D cl A H0 n ad wf nL Q σ (pc + 3) L st) (Kf : ¬ x < y → b = some res → x_W p l e R s m args below meth c D cl A H0 n ad wf nL Q σ tgt L st) : x_W p l e R s m args below meth c D cl A H0 n ad wf nL Q σ pc L (.int y :: .int x :: st) :=
  fun H locs ls hl hP hS => lv_icmp_ge C0.1.1 C0.1.2.1 d ht (fun q => by have q := x_nlt.mpr q; rw [if_neg q] at h; exact Kf q h H locs ls hl hP hS) (fun q => by have q := x_nle.mp q; rw [if_pos q] at h; exact Kt q h H locs ls hl hP hS)
theorem x_if_gt (C0 : x_C p s m args meth c D cl tys A H0 n ad wf cc nL own ret) {ρ : Type} {x : Int32} {off : Int} {tgt : Nat} (d : decode cc pc = .ok (.ifCond .gt off, 3)) (ht : (pc : Int) + off = (tgt : Int)) {a b : Option ρ} {res : ρ} (h : (if 0 < x then a else b) = some res) (Kt : 0 < x → a = some res → x_W p l e R s m args below meth c D cl A H0 n ad wf nL Q σ tgt L st) (Kf : ¬ 0 < x → b = some res → x_W p l e R s m args below meth c D cl A H0 n ad wf nL Q σ (pc + 3) L st) : x_W p l e R s m args below meth c D cl A H0 n ad wf nL Q σ pc L (.int x :: st) :=
  fun H locs ls hl hP hS => lv_if_gt C0.1.1 C0.1.2.1 d ht (fun q => by rw [if_pos q] at h; exact Kt q h H locs ls hl hP hS) (fun q => by rw [if_neg q] at h; exact Kf q h H locs ls hl hP hS)
theorem x_icmp_gt (C0 : x_C p s m args meth c D cl tys A H0 n ad wf cc nL own ret) {ρ : Type} {x y : Int32} {off : Int} {tgt : Nat} (d : decode cc pc = .ok (.if_icmp .gt off, 3)) (ht : (pc : Int) + off = (tgt : Int)) {a b : Option ρ} {res : ρ} (h : (if y < x then a else b) = some res) (Kt : y < x → a = some res → x_W p l e R s m args below meth c D cl A H0 n ad wf nL Q σ tgt L st) (Kf : ¬ y < x → b = some res → x_W p l e R s m args below meth c D cl A H0 n ad wf nL Q σ (pc + 3) L st) : x_W p l e R s m args below meth c D cl A H0 n ad wf nL Q σ pc L (.int y :: .int x :: st) :=
  fun H locs ls hl hP hS => lv_icmp_gt C0.1.1 C0.1.2.1 d ht (fun q => by rw [if_pos q] at h; exact Kt q h H locs ls hl hP hS) (fun q => by rw [if_neg q] at h; exact Kf q h H locs ls hl hP hS)
theorem x_if_le (C0 : x_C p s m args meth c D cl tys A H0 n ad wf cc nL own ret) {ρ : Type} {x : Int32} {off : Int} {tgt : Nat} (d : decode cc pc = .ok (.ifCond .le off, 3)) (ht : (pc : Int) + off = (tgt : Int)) {a b : Option ρ} {res : ρ} (h : (if 0 < x then a else b) = some res) (Kt : 0 < x → a = some res → x_W p l e R s m args below meth c D cl A H0 n ad wf nL Q σ (pc + 3) L st) (Kf : ¬ 0 < x → b = some res → x_W p l e R s m args below meth c D cl A H0 n ad wf nL Q σ tgt L st) : x_W p l e R s m args below meth c D cl A H0 n ad wf nL Q σ pc L (.int x :: st) :=
  fun H locs ls hl hP hS => lv_if_le C0.1.1 C0.1.2.1 d ht (fun q => by have q := x_nlt.mpr q; rw [if_neg q] at h; exact Kf q h H locs ls hl hP hS) (fun q => by have q := x_nle.mp q; rw [if_pos q] at h; exact Kt q h H locs ls hl hP hS)
theorem x_icmp_le (C0 : x_C p s m args meth c D cl tys A H0 n ad wf cc nL own ret) {ρ : Type} {x y : Int32} {off : Int} {tgt : Nat} (d : decode cc pc = .ok (.if_icmp .le off, 3)) (ht : (pc : Int) + off = (tgt : Int)) {a b : Option ρ} {res : ρ} (h : (if y < x then a else b) = some res) (Kt : y < x → a = some res → x_W p l e R s m args below meth c D cl A H0 n ad wf nL Q σ (pc + 3) L st) (Kf : ¬ y < x → b = some res → x_W p l e R s m args below meth c D cl A H0 n ad wf nL Q σ tgt L st) : x_W p l e R s m args below meth c D cl A H0 n ad wf nL Q σ pc L (.int y :: .int x :: st) :=
  fun H locs ls hl hP hS => lv_icmp_le C0.1.1 C0.1.2.1 d ht (fun q => by have q := x_nlt.mpr q; rw [if_neg q] at h; exact Kf q h H locs ls hl hP hS) (fun q => by have q := x_nle.mp q; rw [if_pos q] at h; exact Kt q h H locs ls hl hP hS)
theorem x_goto (C0 : x_C p s m args meth c D cl tys A H0 n ad wf cc nL own ret) {off : Int} {tgt : Nat} (d : decode cc pc = .ok (.goto off, 3)) (ht : (pc : Int) + off = (tgt : Int)) (K : x_W p l e R s m args below meth c D cl A H0 n ad wf nL Q σ tgt L st) : x_W p l e R s m args below meth c D cl A H0 n ad wf nL Q σ pc L st :=
  fun H locs ls hl hP hS => lv_goto C0.1.1 C0.1.2.1 d ht (K H locs ls hl hP hS)
theorem x_ifnull (C0 : x_C p s m args meth c D cl tys A H0 n ad wf cc nL own ret) {x : Nat} {off : Int} (d : decode cc pc = .ok (.ifnull off, 3)) (K : x_W p l e R s m args below meth c D cl A H0 n ad wf nL Q σ (pc + 3) L st) : x_W p l e R s m args below meth c D cl A H0 n ad wf nL Q σ pc L (.ref x :: st) :=
  fun H locs ls hl hP hS => lv_ifnull C0.1.1 C0.1.2.1 d (K H locs ls hl hP hS)
theorem x_ifnullN (C0 : x_C p s m args meth c D cl tys A H0 n ad wf cc nL own ret) {off : Int} {tgt : Nat} (d : decode cc pc = .ok (.ifnull off, 3)) (ht : (pc : Int) + off = (tgt : Int)) (K : x_W p l e R s m args below meth c D cl A H0 n ad wf nL Q σ tgt L st) : x_W p l e R s m args below meth c D cl A H0 n ad wf nL Q σ pc L (.null :: st) :=
  fun H locs ls hl hP hS => lv_ifnullN C0.1.1 C0.1.2.1 d ht (K H locs ls hl hP hS)
theorem x_ifnonnull (C0 : x_C p s m args meth c D cl tys A H0 n ad wf cc nL own ret) {x : Nat} {off : Int} {tgt : Nat} (d : decode cc pc = .ok (.ifnonnull off, 3)) (ht : (pc : Int) + off = (tgt : Int)) (K : x_W p l e R s m args below meth c D cl A H0 n ad wf nL Q σ tgt L st) : x_W p l e R s m args below meth c D cl A H0 n ad wf nL Q σ pc L (.ref x :: st) :=
  fun H locs ls hl hP hS => lv_ifnonnull C0.1.1 C0.1.2.1 d ht (K H locs ls hl hP hS)
theorem x_ifnonnullN (C0 : x_C p s m args meth c D cl tys A H0 n ad wf cc nL own ret) {off : Int} (d : decode cc pc = .ok (.ifnonnull off, 3)) (K : x_W p l e R s m args below meth c D cl A H0 n ad wf nL Q σ (pc + 3) L st) : x_W p l e R s m args below meth c D cl A H0 n ad wf nL Q σ pc L (.null :: st) :=
  fun H locs ls hl hP hS => lv_ifnonnullN C0.1.1 C0.1.2.1 d (K H locs ls hl hP hS)
theorem x_tableIn (C0 : x_C p s m args meth c D cl tys A H0 n ad wf cc nL own ret) {dflt lo hi : Int} {offs : Array Int} {len : Nat} {x : Int32} {off : Int} {tgt : Nat} (d : decode cc pc = .ok (.tableswitch dflt lo hi offs, len)) (h1 : ¬ x.toInt < lo) (h2 : ¬ hi < x.toInt) (ho : offs[(x.toInt - lo).toNat]? = some off) (ht : (pc : Int) + off = (tgt : Int)) (K : x_W p l e R s m args below meth c D cl A H0 n ad wf nL Q σ tgt L st) : x_W p l e R s m args below meth c D cl A H0 n ad wf nL Q σ pc L (.int x :: st) :=
  fun H locs ls hl hP hS => lv_tableIn C0.1.1 C0.1.2.1 d h1 h2 ho ht (K H locs ls hl hP hS)
theorem x_tableOut (C0 : x_C p s m args meth c D cl tys A H0 n ad wf cc nL own ret) {dflt lo hi : Int} {offs : Array Int} {len : Nat} {x : Int32} {tgt : Nat} (d : decode cc pc = .ok (.tableswitch dflt lo hi offs, len)) (h : x.toInt < lo ∨ hi < x.toInt) (ht : (pc : Int) + dflt = (tgt : Int)) (K : x_W p l e R s m args below meth c D cl A H0 n ad wf nL Q σ tgt L st) : x_W p l e R s m args below meth c D cl A H0 n ad wf nL Q σ pc L (.int x :: st) :=
  fun H locs ls hl hP hS => lv_tableOut C0.1.1 C0.1.2.1 d h ht (K H locs ls hl hP hS)
theorem x_lookup (C0 : x_C p s m args meth c D cl tys A H0 n ad wf cc nL own ret) {dflt : Int} {ps : Array (Int × Int)} {len : Nat} {x : Int32} {off : Int} {tgt : Nat} (d : decode cc pc = .ok (.lookupswitch dflt ps, len)) (hp : (ps.toList.zip (ps.toList.drop 1)).all (fun (a, next) => a.1 < next.1) = true) (ho : Op.lookupswitch.offset ps.toList dflt x.toInt = off) (ht : (pc : Int) + off = (tgt : Int)) (K : x_W p l e R s m args below meth c D cl A H0 n ad wf nL Q σ tgt L st) : x_W p l e R s m args below meth c D cl A H0 n ad wf nL Q σ pc L (.int x :: st) :=
  fun H locs ls hl hP hS => lv_lookup C0.1.1 C0.1.2.1 d hp ho ht (K H locs ls hl hP hS)
theorem x_get (C0 : x_C p s m args meth c D cl tys A H0 n ad wf cc nL own ret) {Cn : String} {T : u_T} {N ci index : Nat} (hin : ∀ w ∈ u_ws Cn T N, w ∈ lw_use) (hc : cl[ci]? = some (Cn, T, N)) (k : Nat) (hk : k < N) (hlink : Cond.fieldLink own index (T k).1 (T k).2.1 (T k).2.2.1 ∈ lw_use) {r : Nat} {fs : List Value} {v : Value} (hr : r < n) (hw : wf σ r = .inr (ci, fs)) (hv : fs[k]? = some v) (d : decode cc pc = .ok (.getfield index, 3)) (K : x_W p l e R s m args below meth c D cl A H0 n ad wf nL Q σ (pc + 3) L (v :: st)) : x_W p l e R s m args below meth c D cl A H0 n ad wf nL Q σ pc L (.ref (ad r) :: st) :=
  fun H locs ls hl hP hS => va_get C0.1.1 C0.1.2.1 C0.1.2.2.2.2 hin C0.1.2.2.2.1 C0.2.1 hP r (by rw [x_bl_get hr, hw]) hc k hk (C0.1.2.2.2.2 _ hlink) (fun _ q => q) hv d (K H locs ls hl hP hS)
theorem x_getN (C0 : x_C p s m args meth c D cl tys A H0 n ad wf cc nL own ret) {host : String} {Cn : String} {T : u_T} {N ci index : Nat} (hin : ∀ w ∈ u_ws Cn T N, w ∈ lw_use) (hc : cl[ci]? = some (Cn, T, N)) (k : Nat) (hk : k < N) (hlink : Cond.fieldLinkNest own index (T k).1 (T k).2.1 (T k).2.2.1 host ∈ lw_use) {r : Nat} {fs : List Value} {v : Value} (hr : r < n) (hw : wf σ r = .inr (ci, fs)) (hv : fs[k]? = some v) (d : decode cc pc = .ok (.getfield index, 3)) (K : x_W p l e R s m args below meth c D cl A H0 n ad wf nL Q σ (pc + 3) L (v :: st)) : x_W p l e R s m args below meth c D cl A H0 n ad wf nL Q σ pc L (.ref (ad r) :: st) :=
  fun H locs ls hl hP hS => va_getN C0.1.1 C0.1.2.1 C0.1.2.2.2.2 hin C0.1.2.2.2.1 C0.2.1 hP r (by rw [x_bl_get hr, hw]) hc k hk (C0.1.2.2.2.2 _ hlink) (fun _ q => q) hv d (K H locs ls hl hP hS)
theorem x_put (C0 : x_C p s m args meth c D cl tys A H0 n ad wf cc nL own ret) {Cn : String} {T : u_T} {N ci index : Nat} (hin : ∀ w ∈ u_ws Cn T N, w ∈ lw_use) (ty0 : Nat → FieldType) (hty : ∀ k, k < N → parseFieldDescriptor (T k).2.2.1 = some (ty0 k)) (hnm : ∀ a, a < N → ∀ b, b < N → a ≠ b → (T a).2.1 ≠ (T b).2.1) (hc : cl[ci]? = some (Cn, T, N)) (k : Nat) (hk : k < N) (hlink : Cond.fieldLink own index (T k).1 (T k).2.1 (T k).2.2.1 ∈ lw_use) (hfin : (T k).2.2.2 = false) {v : Value} (hn : narrow (ty0 k) v = v) (hfit : fits (ty0 k) v = true) {r : Nat} {fs : List Value} (hr : r < n) (hw : wf σ r = .inr (ci, fs)) (hl9 : k < fs.length) {σ' : xM} (hw' : wf σ' r = .inr (ci, fs.set k v)) (ho : ∀ r', r' ≠ r → ∀ k', σ r' k' = σ' r' k') (d : decode cc pc = .ok (.putfield index, 3)) (K : x_W p l e R s m args below meth c D cl A H0 n ad wf nL Q σ' (pc + 3) L st) : x_W p l e R s m args below meth c D cl A H0 n ad wf nL Q σ pc L (v :: .ref (ad r) :: st) :=
  fun H locs ls hl hP hS => va_put C0.1.1 C0.1.2.1 C0.1.2.2.2.2 hin ty0 hty hnm C0.1.2.2.2.1 C0.2.1 hP (C0.2.2.1 σ) hS r (by rw [x_bl_get hr, hw]) hc k hk (C0.1.2.2.2.2 _ hlink) (fun _ q => q) hfin (hty k hk) hn hfit hl9 d (fun H1 locs1 hP1 hD1 hS1 => K H1 locs1 ls hl (by rw [x_bl_set C0.2.2.2.2.1 hr hw' ho] at hP1; exact hP1) hS1)
theorem x_putN (C0 : x_C p s m args meth c D cl tys A H0 n ad wf cc nL own ret) {host : String} {Cn : String} {T : u_T} {N ci index : Nat} (hin : ∀ w ∈ u_ws Cn T N, w ∈ lw_use) (ty0 : Nat → FieldType) (hty : ∀ k, k < N → parseFieldDescriptor (T k).2.2.1 = some (ty0 k)) (hnm : ∀ a, a < N → ∀ b, b < N → a ≠ b → (T a).2.1 ≠ (T b).2.1) (hc : cl[ci]? = some (Cn, T, N)) (k : Nat) (hk : k < N) (hlink : Cond.fieldLinkNest own index (T k).1 (T k).2.1 (T k).2.2.1 host ∈ lw_use) (hfin : (T k).2.2.2 = false) {v : Value} (hn : narrow (ty0 k) v = v) (hfit : fits (ty0 k) v = true) {r : Nat} {fs : List Value} (hr : r < n) (hw : wf σ r = .inr (ci, fs)) (hl9 : k < fs.length) {σ' : xM} (hw' : wf σ' r = .inr (ci, fs.set k v)) (ho : ∀ r', r' ≠ r → ∀ k', σ r' k' = σ' r' k') (d : decode cc pc = .ok (.putfield index, 3)) (K : x_W p l e R s m args below meth c D cl A H0 n ad wf nL Q σ' (pc + 3) L st) : x_W p l e R s m args below meth c D cl A H0 n ad wf nL Q σ pc L (v :: .ref (ad r) :: st) :=
  fun H locs ls hl hP hS => va_putN C0.1.1 C0.1.2.1 C0.1.2.2.2.2 hin ty0 hty hnm C0.1.2.2.2.1 C0.2.1 hP (C0.2.2.1 σ) hS r (by rw [x_bl_get hr, hw]) hc k hk (C0.1.2.2.2.2 _ hlink) (fun _ q => q) hfin (hty k hk) hn hfit hl9 d (fun H1 locs1 hP1 hD1 hS1 => K H1 locs1 ls hl (by rw [x_bl_set C0.2.2.2.2.1 hr hw' ho] at hP1; exact hP1) hS1)
theorem x_iald (C0 : x_C p s m args meth c D cl tys A H0 n ad wf cc nL own ret) {ρ : Type} {cA : ClassId} {nn : Nat} {f : Nat → Int32} (t0 : Nat) (ht : tys[t0]? = some (cA, .int)) {r : Nat} (hr : r < n) (hw : wf σ r = .inl (cA, nn, .inl f)) {i : Int32} (d : decode cc pc = .ok (.iaload, 1)) {b : Option ρ} {res : ρ} (h : (if i < 0 ∨ nn ≤ i.toNatClampNeg then none else b) = some res) (K : ¬ (i < 0 ∨ nn ≤ i.toNatClampNeg) → b = some res → x_W p l e R s m args below meth c D cl A H0 n ad wf nL Q σ (pc + 1) L (.int (f i.toNatClampNeg) :: st)) : x_W p l e R s m args below meth c D cl A H0 n ad wf nL Q σ pc L (.int i :: .ref (ad r) :: st) :=
  by
  by_cases hi : i < 0 ∨ nn ≤ i.toNatClampNeg
  · rw [if_pos hi] at h; cases h
  · rw [if_neg hi] at h
    exact fun H locs ls hl hP hS => va_iald C0.1.1 C0.1.2.1 C0.2.1 hP r t0 (by rw [x_bl_get hr, hw]) ht hi d (K hi h H locs ls hl hP hS)
theorem x_cald (C0 : x_C p s m args meth c D cl tys A H0 n ad wf cc nL own ret) {ρ : Type} {cA : ClassId} {nn : Nat} {f : Nat → Int32} (t0 : Nat) (ht : tys[t0]? = some (cA, .char)) {r : Nat} (hr : r < n) (hw : wf σ r = .inl (cA, nn, .inl f)) {i : Int32} (d : decode cc pc = .ok (.caload, 1)) {b : Option ρ} {res : ρ} (h : (if i < 0 ∨ nn ≤ i.toNatClampNeg then none else b) = some res) (K : ¬ (i < 0 ∨ nn ≤ i.toNatClampNeg) → b = some res → x_W p l e R s m args below meth c D cl A H0 n ad wf nL Q σ (pc + 1) L (.int (f i.toNatClampNeg) :: st)) : x_W p l e R s m args below meth c D cl A H0 n ad wf nL Q σ pc L (.int i :: .ref (ad r) :: st) :=
  by
  by_cases hi : i < 0 ∨ nn ≤ i.toNatClampNeg
  · rw [if_pos hi] at h; cases h
  · rw [if_neg hi] at h
    exact fun H locs ls hl hP hS => va_cald C0.1.1 C0.1.2.1 C0.2.1 hP r t0 (by rw [x_bl_get hr, hw]) ht hi d (K hi h H locs ls hl hP hS)
theorem x_aald (C0 : x_C p s m args meth c D cl tys A H0 n ad wf cc nL own ret) {ρ : Type} {cA : ClassId} {Cn : String} {nn : Nat} {f : Nat → Option Nat} (t0 : Nat) (ht : tys[t0]? = some (cA, .object Cn)) {r : Nat} (hr : r < n) (hw : wf σ r = .inl (cA, nn, .inr (.inr (.inr (.inr f))))) {i : Int32} (d : decode cc pc = .ok (.aaload, 1)) {b : Option ρ} {res : ρ} (h : (if i < 0 ∨ nn ≤ i.toNatClampNeg then none else b) = some res) (K : ¬ (i < 0 ∨ nn ≤ i.toNatClampNeg) → b = some res → x_W p l e R s m args below meth c D cl A H0 n ad wf nL Q σ (pc + 1) L (va_rf (f i.toNatClampNeg) :: st)) : x_W p l e R s m args below meth c D cl A H0 n ad wf nL Q σ pc L (.int i :: .ref (ad r) :: st) :=
  by
  by_cases hi : i < 0 ∨ nn ≤ i.toNatClampNeg
  · rw [if_pos hi] at h; cases h
  · rw [if_neg hi] at h
    exact fun H locs ls hl hP hS => va_aldq C0.1.1 C0.1.2.1 C0.2.1 hP r t0 (by rw [x_bl_get hr, hw]) ht hi d (K hi h H locs ls hl hP hS)
theorem x_iast (C0 : x_C p s m args meth c D cl tys A H0 n ad wf cc nL own ret) {ρ : Type} {cA : ClassId} {nn : Nat} {f : Nat → Int32} (t0 : Nat) (ht : tys[t0]? = some (cA, .int)) {r : Nat} (hr : r < n) (hw : wf σ r = .inl (cA, nn, .inl f)) {i x : Int32} {σ' : xM} (hw' : wf σ' r = .inl (cA, nn, .inl (upd f i.toNatClampNeg x))) (ho : ∀ r', r' ≠ r → ∀ k', σ r' k' = σ' r' k') (d : decode cc pc = .ok (.iastore, 1)) {b : Option ρ} {res : ρ} (h : (if i < 0 ∨ nn ≤ i.toNatClampNeg then none else b) = some res) (K : ¬ (i < 0 ∨ nn ≤ i.toNatClampNeg) → b = some res → x_W p l e R s m args below meth c D cl A H0 n ad wf nL Q σ' (pc + 1) L st) : x_W p l e R s m args below meth c D cl A H0 n ad wf nL Q σ pc L (.int x :: .int i :: .ref (ad r) :: st) :=
  by
  by_cases hi : i < 0 ∨ nn ≤ i.toNatClampNeg
  · rw [if_pos hi] at h; cases h
  · rw [if_neg hi] at h
    exact fun H locs ls hl hP hS => va_iast C0.1.1 C0.1.2.1 C0.2.1 hP (C0.2.2.1 σ) hS r t0 (by rw [x_bl_get hr, hw]) ht hi d (fun H1 locs1 hP1 hD1 hS1 => K hi h H1 locs1 ls hl (by rw [x_bl_set C0.2.2.2.2.1 hr hw' ho] at hP1; exact hP1) hS1)
theorem x_cast (C0 : x_C p s m args meth c D cl tys A H0 n ad wf cc nL own ret) {ρ : Type} {cA : ClassId} {nn : Nat} {f : Nat → Int32} (t0 : Nat) (ht : tys[t0]? = some (cA, .char)) {r : Nat} (hr : r < n) (hw : wf σ r = .inl (cA, nn, .inl f)) {i x : Int32} {σ' : xM} (hw' : wf σ' r = .inl (cA, nn, .inl (upd f i.toNatClampNeg (vp_nar .char x)))) (ho : ∀ r', r' ≠ r → ∀ k', σ r' k' = σ' r' k') (d : decode cc pc = .ok (.castore, 1)) {b : Option ρ} {res : ρ} (h : (if i < 0 ∨ nn ≤ i.toNatClampNeg then none else b) = some res) (K : ¬ (i < 0 ∨ nn ≤ i.toNatClampNeg) → b = some res → x_W p l e R s m args below meth c D cl A H0 n ad wf nL Q σ' (pc + 1) L st) : x_W p l e R s m args below meth c D cl A H0 n ad wf nL Q σ pc L (.int x :: .int i :: .ref (ad r) :: st) :=
  by
  by_cases hi : i < 0 ∨ nn ≤ i.toNatClampNeg
  · rw [if_pos hi] at h; cases h
  · rw [if_neg hi] at h
    exact fun H locs ls hl hP hS => va_cast C0.1.1 C0.1.2.1 C0.2.1 hP (C0.2.2.1 σ) hS r t0 (by rw [x_bl_get hr, hw]) ht hi d (fun H1 locs1 hP1 hD1 hS1 => K hi h H1 locs1 ls hl (by rw [x_bl_set C0.2.2.2.2.1 hr hw' ho] at hP1; exact hP1) hS1)
theorem x_aast (C0 : x_C p s m args meth c D cl tys A H0 n ad wf cc nL own ret) {ρ : Type} {cA : ClassId} {rc : vw_C} {nn ci : Nat} {vs : List Value} {f : Nat → Option Nat} (t0 : Nat) (ht : tys[t0]? = some (cA, .object rc.1)) {r rv : Nat} (hr : r < n) (hrv : rv < n) (hw : wf σ r = .inl (cA, nn, .inr (.inr (.inr (.inr f))))) (hwv : wf σ rv = .inr (ci, vs)) (hc : cl[ci]? = some rc) {i : Int32} {σ' : xM} (hw' : wf σ' r = .inl (cA, nn, .inr (.inr (.inr (.inr (va_up f i.toNatClampNeg (some (ad rv)))))))) (ho : ∀ r', r' ≠ r → ∀ k', σ r' k' = σ' r' k') (d : decode cc pc = .ok (.aastore, 1)) {b : Option ρ} {res : ρ} (h : (if i < 0 ∨ nn ≤ i.toNatClampNeg then none else b) = some res) (K : ¬ (i < 0 ∨ nn ≤ i.toNatClampNeg) → b = some res → x_W p l e R s m args below meth c D cl A H0 n ad wf nL Q σ' (pc + 1) L st) : x_W p l e R s m args below meth c D cl A H0 n ad wf nL Q σ pc L (.ref (ad rv) :: .int i :: .ref (ad r) :: st) :=
  by
  by_cases hi : i < 0 ∨ nn ≤ i.toNatClampNeg
  · rw [if_pos hi] at h; cases h
  · rw [if_neg hi] at h
    exact fun H locs ls hl hP hS => va_astq C0.1.1 C0.1.2.1 C0.2.1 hP (C0.2.2.1 σ) hS r t0 rv ci (by rw [x_bl_get hr, hw]) ht (by rw [x_bl_get hrv, hwv]) hc hi d (fun H1 locs1 hP1 hD1 hS1 => K hi h H1 locs1 ls hl (by rw [x_bl_set C0.2.2.2.2.1 hr hw' ho] at hP1; exact hP1) hS1)
theorem x_alen (C0 : x_C p s m args meth c D cl tys A H0 n ad wf cc nL own ret) {cA : ClassId} {x : vp_A} {ty : FieldType} (t0 : Nat) (ht : tys[t0]? = some (cA, ty)) {r : Nat} (hr : r < n) (hw : wf σ r = .inl (cA, x)) (d : decode cc pc = .ok (.arraylength, 1)) (K : x_W p l e R s m args below meth c D cl A H0 n ad wf nL Q σ (pc + 1) L (.int (Int32.ofNat x.1) :: st)) : x_W p l e R s m args below meth c D cl A H0 n ad wf nL Q σ pc L (.ref (ad r) :: st) :=
  fun H locs ls hl hP hS => va_alen C0.1.1 C0.1.2.1 C0.2.1 hP r t0 (by rw [x_bl_get hr, hw]) ht rfl d (K H locs ls hl hP hS)
theorem x_top {v v' : Value} (hv : v = v') (K : x_W p l e R s m args below meth c D cl A H0 n ad wf nL Q σ pc L (v' :: st)) : x_W p l e R s m args below meth c D cl A H0 n ad wf nL Q σ pc L (v :: st) := hv ▸ K
theorem x_mmax (C0 : x_C p s m args meth c D cl tys A H0 n ad wf cc nL own ret) {index : Nat} (hlink : Cond.methodLink own index Lib.Math.max.name ∈ lw_use) (hstat : Cond.static Lib.Math.max.name ∈ lw_use) (hini : Cond.initialized "java/lang/Math" ∈ lw_use) (hcode : Cond.code Lib.Math.max.name Lib.Math.max.code 2 (some .int) ∈ lw_use) (hR : 1 ≤ R.frames ∧ (st.map fun v => v.category).sum + 13 ≤ R.locals) {x y : Int32} (d : decode cc pc = .ok (.invokestatic index, 3)) (K : x_W p l e R s m args below meth c D cl A H0 n ad wf nL Q σ (pc + 3) L (.int (if x < y then y else x) :: st)) : x_W p l e R s m args below meth c D cl A H0 n ad wf nL Q σ pc L (.int y :: .int x :: st) :=
  fun H locs ls hl hP hS => va_mmax C0.1.1 C0.1.2.1 (C0.1.2.2.1.trans hl.1.symm) C0.1.2.2.2.1 (C0.1.2.2.2.2 _ hlink) (C0.1.2.2.2.2 _ hstat) (C0.1.2.2.2.2 _ hini) (C0.1.2.2.2.2 _ hcode) hR.1 hR.2 (Nat.zero_le _) (Nat.zero_le _) d (K H locs ls hl hP hS)
theorem x_mmin (C0 : x_C p s m args meth c D cl tys A H0 n ad wf cc nL own ret) {index : Nat} (hlink : Cond.methodLink own index Lib.Math.min.name ∈ lw_use) (hstat : Cond.static Lib.Math.min.name ∈ lw_use) (hini : Cond.initialized "java/lang/Math" ∈ lw_use) (hcode : Cond.code Lib.Math.min.name Lib.Math.min.code 2 (some .int) ∈ lw_use) (hR : 1 ≤ R.frames ∧ (st.map fun v => v.category).sum + 13 ≤ R.locals) {x y : Int32} (d : decode cc pc = .ok (.invokestatic index, 3)) (K : x_W p l e R s m args below meth c D cl A H0 n ad wf nL Q σ (pc + 3) L (.int (if y < x then y else x) :: st)) : x_W p l e R s m args below meth c D cl A H0 n ad wf nL Q σ pc L (.int y :: .int x :: st) :=
  fun H locs ls hl hP hS => va_mmin C0.1.1 C0.1.2.1 (C0.1.2.2.1.trans hl.1.symm) C0.1.2.2.2.1 (C0.1.2.2.2.2 _ hlink) (C0.1.2.2.2.2 _ hstat) (C0.1.2.2.2.2 _ hini) (C0.1.2.2.2.2 _ hcode) hR.1 hR.2 (Nat.zero_le _) (Nat.zero_le _) d (K H locs ls hl hP hS)
theorem x_mabs (C0 : x_C p s m args meth c D cl tys A H0 n ad wf cc nL own ret) {index : Nat} (hlink : Cond.methodLink own index Lib.Math.abs.name ∈ lw_use) (hstat : Cond.static Lib.Math.abs.name ∈ lw_use) (hini : Cond.initialized "java/lang/Math" ∈ lw_use) (hcode : Cond.code Lib.Math.abs.name Lib.Math.abs.code 1 (some .int) ∈ lw_use) (hR : 1 ≤ R.frames ∧ (st.map fun v => v.category).sum + 13 ≤ R.locals) {x : Int32} (d : decode cc pc = .ok (.invokestatic index, 3)) (K : x_W p l e R s m args below meth c D cl A H0 n ad wf nL Q σ (pc + 3) L (.int (if 0 ≤ x then x else 0 - x) :: st)) : x_W p l e R s m args below meth c D cl A H0 n ad wf nL Q σ pc L (.int x :: st) :=
  fun H locs ls hl hP hS => va_mabs C0.1.1 C0.1.2.1 (C0.1.2.2.1.trans hl.1.symm) C0.1.2.2.2.1 (C0.1.2.2.2.2 _ hlink) (C0.1.2.2.2.2 _ hstat) (C0.1.2.2.2.2 _ hini) (C0.1.2.2.2.2 _ hcode) hR.1 (by first | exact hR.2 | exact Nat.le_trans (by omega) hR.2) (Nat.zero_le _) (Nat.zero_le _) d (K H locs ls hl hP hS)
theorem x_iret {v : Int32} (C0 : x_C p s m args meth c D cl tys A s.heap n ad wf cc nL own (some .int)) (d : decode cc pc = .ok (.ireturn, 1)) : x_W p l e R s m args below meth c D cl A s.heap n ad wf nL (x_E below args s D cl n ad wf A (some (.int v)) σ) σ pc L [.int v] :=
  fun H locs ls hl hP hS => W.iret C0.1.1 C0.1.2.1 C0.2.2.2.2.2.2.1 (fun t ht hW => ⟨⟨rfl, by subst ht; exact hP⟩, hS.F ht⟩) hS.2.2 d C0.2.2.2.2.2.1
theorem x_zret {v : Int32} {rt : FieldType} (C0 : x_C p s m args meth c D cl tys A s.heap n ad wf cc nL own (some rt)) (hn : narrow rt (.int v) = .int v) (d : decode cc pc = .ok (.ireturn, 1)) : x_W p l e R s m args below meth c D cl A s.heap n ad wf nL (x_E below args s D cl n ad wf A (some (.int v)) σ) σ pc L [.int v] :=
  fun H locs ls hl hP hS => W.zret C0.1.1 C0.1.2.1 C0.2.2.2.2.2.2.1 hn (fun t ht hW => ⟨⟨rfl, by subst ht; exact hP⟩, hS.F ht⟩) hS.2.2 d C0.2.2.2.2.2.1
theorem x_vret (C0 : x_C p s m args meth c D cl tys A s.heap n ad wf cc nL own none) (d : decode cc pc = .ok (.return_, 1)) : x_W p l e R s m args below meth c D cl A s.heap n ad wf nL (x_E below args s D cl n ad wf A none σ) σ pc L [] :=
  fun H locs ls hl hP hS => W.vret C0.1.1 C0.1.2.1 C0.2.2.2.2.2.2.1 (fun t ht hW => ⟨⟨rfl, by subst ht; exact hP⟩, hS.F ht⟩) hS.2.2 d C0.2.2.2.2.2.1
theorem x_aret {v : Value} {rt : FieldType} (C0 : x_C p s m args meth c D cl tys A s.heap n ad wf cc nL own (some rt)) (hrt : (∃ n, rt = .object n) ∨ ∃ t, rt = .array t) (hv : v = .null ∨ ∃ a, v = .ref a) (d : decode cc pc = .ok (.areturn, 1)) : x_W p l e R s m args below meth c D cl A s.heap n ad wf nL (x_E below args s D cl n ad wf A (some v) σ) σ pc L [v] :=
  fun H locs ls hl hP hS => W.aret C0.1.1 C0.1.2.1 C0.2.2.2.2.2.2.1 hrt hv (fun t ht hW => ⟨⟨rfl, by subst ht; exact hP⟩, hS.F ht⟩) hS.2.2 d C0.2.2.2.2.2.1

theorem x_callK (C0 : x_C p s m args meth c D cl tys A H0 n ad wf cc nL own ret) {n' : Nat} {ι : Nat → Nat} {wf' : xM → Nat → va_E} {τ τ' : xM} {val : Option Value} {a : Array Value} {st0 : List Value}
    (hι : ∀ r, r < n' → ι r < n) (hinj : ∀ i j, i < n' → j < n' → ι i = ι j → i = j) (hwf : ∀ r, r < n' → wf σ (ι r) = wf' τ r) {σ' : xM} (hwf' : ∀ r, r < n' → wf σ' (ι r) = wf' τ' r) (hsame : ∀ r, r < n → (∀ i, i < n' → ι i ≠ r) → ∀ k, σ r k = σ' r k)
    (hrun : ∀ (H : Heap) (locs : List Loc) (ls : Array Slot), lv_has ls nL L → va_P D cl (x_bl n' (fun r => ad (ι r)) wf' τ) H → va_D (fun _ => True) (x_bl n' (fun r => ad (ι r)) wf' τ) → va_Run p l e R s m args below meth c H locs 0 0 0 0 (F0 m pc ls st0) st (x_Q val (fun t => va_P D cl (x_bl n' (fun r => ad (ι r)) wf' τ') t.heap) (va_A (x_bl n' (fun r => ad (ι r)) wf' τ) H.size) a) (va_A (x_bl n' (fun r => ad (ι r)) wf' τ) H.size))
    (K : x_W p l e R s m args below meth c D cl A H0 n ad wf nL Q σ' (pc + 3) L (val.toList ++ st)) : x_W p l e R s m args below meth c D cl A H0 n ad wf nL Q σ pc L st0 := by
  intro H locs ls hl hP hS
  have hD := C0.2.2.1 σ
  have hPc : va_P D cl (x_bl n' (fun r => ad (ι r)) wf' τ) H := fun k q hq => by
    obtain ⟨hk, rfl⟩ := x_bl_mem hq
    have h := hP (ι k) _ (x_bl_get (hι k hk))
    rw [hwf k hk] at h
    exact h
  have hDc : va_D (fun _ => True) (x_bl n' (fun r => ad (ι r)) wf' τ) := ⟨fun i j x y hx hy hxy => by
    obtain ⟨hi, rfl⟩ := x_bl_mem hx
    obtain ⟨hj, rfl⟩ := x_bl_mem hy
    exact hinj i j hi hj (hD.1 (ι i) (ι j) _ _ (x_bl_get (hι i hi)) (x_bl_get (hι j hj)) hxy), fun _ _ _ => trivial⟩
  have hF : ∀ q, va_A (x_bl n' (fun r => ad (ι r)) wf' τ) H.size q → A q := fun q hq => by
    rcases hq with ⟨k, e9, hq⟩ | hq
    · obtain ⟨hk, e8⟩ := x_bl_mem hq
      rw [(Prod.mk.inj e8).1]
      exact hD.2 (ι k) _ (x_bl_get (hι k hk))
    · exact C0.2.2.2.1 q (Nat.le_trans hS.1 hq)
  intro T hT X
  obtain ⟨v, st₀, t, T', L', h0, X', hL, e1, e2, ⟨⟨hv, hb⟩, hz, hk⟩, go⟩ := hrun H locs ls hl hPc hDc T hT X
  cases hv
  rw [h0] at hz hk
  have hS1 : va_S A H0 T'.heap (locs ++ L') := ⟨Nat.le_trans hS.1 (by rw [e1]; exact hz), fun q h1 h2 => by rw [e1, hk q (Nat.lt_of_lt_of_le h1 hS.1) (fun z => h2 (hF q z))]; exact hS.2.1 q h1 h2, fun q hq => by
      rcases List.mem_append.mp hq with h | h
      · exact hS.2.2 q h
      · exact hF _ (hL q h)⟩
  have hP1 : va_P D cl (x_bl n ad wf σ') T'.heap := by
    intro k q hq
    obtain ⟨hkn, rfl⟩ := x_bl_mem hq
    by_cases hex : ∃ i, i < n' ∧ ι i = k
    · obtain ⟨i, hi, rfl⟩ := hex
      have h := hb i _ (x_bl_get hi)
      rw [e1, hwf' i hi]
      exact h
    · have hne : ∀ i, i < n' → ι i ≠ k := fun i hi q => hex ⟨i, hi, q⟩
      have hw : wf σ k = wf σ' k := C0.2.2.2.2.1 σ σ' k (hsame k hkn hne)
      have h1 := hP k _ (x_bl_get hkn)
      rw [← hw]
      refine h1.kept ?_
      rw [e1]
      refine hk _ h1.lt (fun z => ?_)
      rcases z with ⟨i, e9, z⟩ | z
      · obtain ⟨hi, e8⟩ := x_bl_mem z
        exact hne i hi (hD.1 k (ι i) _ _ (x_bl_get hkn) (x_bl_get (hι i hi)) (Prod.mk.inj e8).1).symm
      · exact Nat.lt_irrefl _ (Nat.lt_of_lt_of_le h1.lt z)
  obtain ⟨t2, a1, b1⟩ := K T'.heap (locs ++ L') ls hl hP1 hS1 T' rfl X'
  exact ⟨t2, go t2 a1, b1⟩
theorem x_blind {av : List Value} {sz : Nat} {w : va_W} : FrameBlind (va_Pc av (fun U => U.heap.size = sz ∧ va_P D cl w U.heap ∧ va_K D cl tys U ∧ va_D (fun _ => True) w ∧ x_N U)) :=
  fun a U g mk q => by obtain ⟨q0, q1, qP, qK, qD, qN⟩ := q; exact ⟨q0, q1, qP, va_K.moved (u := U) (U := U.calling g mk a) (Vm.Alike.refl U.vm) qK, qD, x_N_same (s := U) (U := U.calling g mk a) rfl qN⟩

theorem x_runV (C0 : x_C p s m args meth c D cl tys A H0 n ad wf cc nL own ret) {n' : Nat} {ad' : Nat → Nat} {wf' : xM → Nat → va_E} {τ τ' : xM} {val : Option Value} {y : MethodName} {bytes : ByteArray} {mxl index k9 : Nat} {rty : Option FieldType} {ws : List Cond} {rm : Room} {As : List Value} {b : Nat} {T : u_T} {N ci r : Nat} {fs : List Value} {Cn : String} (hM : x_Met l y ws rm D cl tys n' ad' wf' (.ref b :: As) τ val τ') (cw : CallW R s args own Cn index y bytes mxl rty ws rm 0 0 k9) (hr : r < n') (hb9 : ad' r = b) (hw : wf' τ r = .inr (ci, fs)) (hc : cl[ci]? = some (Cn, T, N)) (hn : As.length = k9) (hW : (st.map fun v => v.category).sum ≤ 8) (d : decode cc pc = .ok (.invokevirtual index, 3)) : ∀ (H : Heap) (locs : List Loc) (ls : Array Slot), lv_has ls nL L → va_P D cl (x_bl n' ad' wf' τ) H → va_D (fun _ => True) (x_bl n' ad' wf' τ) → va_Run p l e R s m args below meth c H locs 0 0 0 0 (F0 m pc ls (As.reverse ++ .ref b :: st)) st (x_Q val (fun t => va_P D cl (x_bl n' ad' wf' τ') t.heap) (va_A (x_bl n' ad' wf' τ) H.size) (Value.ref b :: As).toArray) (va_A (x_bl n' ad' wf' τ) H.size) :=
  fun H locs ls hl hPc hDc => va_runV C0.1 (hM H.size) cw ⟨x_blind, va_recv C0.2.1 hPc hc (q0 := r) (by rw [x_bl_get hr, hw, hb9]), fun U hU hW => ⟨rfl, by rw [hU], by rw [hU]; exact hPc, va_K.moved hW.alike C0.2.1, hDc, x_N_warm hW C0.2.2.2.2.2.2.2⟩⟩ rfl hn hl.1 rfl (lv_room hW) d ⟨Nat.zero_le _, Nat.zero_le _⟩
theorem x_callV (C0 : x_C p s m args meth c D cl tys A H0 n ad wf cc nL own ret) {σ' : xM} {val : Option Value} {y : MethodName} {bytes : ByteArray} {mxl index k9 : Nat} {rty : Option FieldType} {ws : List Cond} {rm : Room} {As : List Value} {b : Nat} {T : u_T} {N ci r : Nat} {fs : List Value} {Cn : String} (hM : x_Met l y ws rm D cl tys n ad wf (.ref b :: As) σ val σ') (cw : CallW R s args own Cn index y bytes mxl rty ws rm 0 0 k9) (hr : r < n) (hb9 : ad r = b) (hw : wf σ r = .inr (ci, fs)) (hc : cl[ci]? = some (Cn, T, N)) (hn : As.length = k9) (hW : (st.map fun v => v.category).sum ≤ 8) (d : decode cc pc = .ok (.invokevirtual index, 3)) (K : x_W p l e R s m args below meth c D cl A H0 n ad wf nL Q σ' (pc + 3) L (val.toList ++ st)) : x_W p l e R s m args below meth c D cl A H0 n ad wf nL Q σ pc L (As.reverse ++ .ref b :: st) :=
  x_callK C0 (n' := n) (ι := fun r => r) (wf' := wf) (τ := σ) (τ' := σ') (fun _ h => h) (fun _ _ _ _ h => h) (fun _ _ => rfl) (fun _ _ => rfl) (fun r hr h => absurd rfl (h r hr)) (x_runV C0 hM cw hr hb9 hw hc hn hW d) K
theorem x_runVN (C0 : x_C p s m args meth c D cl tys A H0 n ad wf cc nL own ret) {n' : Nat} {ad' : Nat → Nat} {wf' : xM → Nat → va_E} {τ τ' : xM} {val : Option Value} {y : MethodName} {bytes : ByteArray} {mxl index k9 : Nat} {rty : Option FieldType} {ws : List Cond} {rm : Room} {As : List Value} {b : Nat} {T : u_T} {N ci r : Nat} {fs : List Value} {Cn : String} {host : String} (hM : x_Met l y ws rm D cl tys n' ad' wf' (.ref b :: As) τ val τ') (cw : va_CN R s args own index y host bytes mxl rty ws rm 0 0 k9 ∧ (Cond.instanceMethod y).before args s = true ∧ (Cond.selects Cn y y).before args s = true) (hr : r < n') (hb9 : ad' r = b) (hw : wf' τ r = .inr (ci, fs)) (hc : cl[ci]? = some (Cn, T, N)) (hn : As.length = k9) (hW : (st.map fun v => v.category).sum ≤ 8) (d : decode cc pc = .ok (.invokevirtual index, 3)) : ∀ (H : Heap) (locs : List Loc) (ls : Array Slot), lv_has ls nL L → va_P D cl (x_bl n' ad' wf' τ) H → va_D (fun _ => True) (x_bl n' ad' wf' τ) → va_Run p l e R s m args below meth c H locs 0 0 0 0 (F0 m pc ls (As.reverse ++ .ref b :: st)) st (x_Q val (fun t => va_P D cl (x_bl n' ad' wf' τ') t.heap) (va_A (x_bl n' ad' wf' τ) H.size) (Value.ref b :: As).toArray) (va_A (x_bl n' ad' wf' τ) H.size) :=
  fun H locs ls hl hPc hDc => va_runVN C0.1 (hM H.size) cw ⟨x_blind, va_recv C0.2.1 hPc hc (q0 := r) (by rw [x_bl_get hr, hw, hb9]), fun U hU hW => ⟨rfl, by rw [hU], by rw [hU]; exact hPc, va_K.moved hW.alike C0.2.1, hDc, x_N_warm hW C0.2.2.2.2.2.2.2⟩⟩ rfl hn hl.1 rfl (lv_room hW) d ⟨Nat.zero_le _, Nat.zero_le _⟩
theorem x_callVN (C0 : x_C p s m args meth c D cl tys A H0 n ad wf cc nL own ret) {σ' : xM} {val : Option Value} {y : MethodName} {bytes : ByteArray} {mxl index k9 : Nat} {rty : Option FieldType} {ws : List Cond} {rm : Room} {As : List Value} {b : Nat} {T : u_T} {N ci r : Nat} {fs : List Value} {Cn : String} {host : String} (hM : x_Met l y ws rm D cl tys n ad wf (.ref b :: As) σ val σ') (cw : va_CN R s args own index y host bytes mxl rty ws rm 0 0 k9 ∧ (Cond.instanceMethod y).before args s = true ∧ (Cond.selects Cn y y).before args s = true) (hr : r < n) (hb9 : ad r = b) (hw : wf σ r = .inr (ci, fs)) (hc : cl[ci]? = some (Cn, T, N)) (hn : As.length = k9) (hW : (st.map fun v => v.category).sum ≤ 8) (d : decode cc pc = .ok (.invokevirtual index, 3)) (K : x_W p l e R s m args below meth c D cl A H0 n ad wf nL Q σ' (pc + 3) L (val.toList ++ st)) : x_W p l e R s m args below meth c D cl A H0 n ad wf nL Q σ pc L (As.reverse ++ .ref b :: st) :=
  x_callK C0 (n' := n) (ι := fun r => r) (wf' := wf) (τ := σ) (τ' := σ') (fun _ h => h) (fun _ _ _ _ h => h) (fun _ _ => rfl) (fun _ _ => rfl) (fun r hr h => absurd rfl (h r hr)) (x_runVN C0 hM cw hr hb9 hw hc hn hW d) K
theorem x_runS (C0 : x_C p s m args meth c D cl tys A H0 n ad wf cc nL own ret) {n' : Nat} {ad' : Nat → Nat} {wf' : xM → Nat → va_E} {τ τ' : xM} {val : Option Value} {y : MethodName} {bytes : ByteArray} {mxl index k9 : Nat} {rty : Option FieldType} {ws : List Cond} {rm : Room} {As : List Value} (hM : x_Met l y ws rm D cl tys n' ad' wf' As τ val τ') (cw : CallB R s args own index y bytes mxl rty ws rm 0 0 k9 ∧ (Cond.static y).before args s = true) (hn : As.length = k9) (hW : (st.map fun v => v.category).sum ≤ 8) (d : decode cc pc = .ok (.invokestatic index, 3)) : ∀ (H : Heap) (locs : List Loc) (ls : Array Slot), lv_has ls nL L → va_P D cl (x_bl n' ad' wf' τ) H → va_D (fun _ => True) (x_bl n' ad' wf' τ) → va_Run p l e R s m args below meth c H locs 0 0 0 0 (F0 m pc ls (As.reverse ++ st)) st (x_Q val (fun t => va_P D cl (x_bl n' ad' wf' τ') t.heap) (va_A (x_bl n' ad' wf' τ) H.size) As.toArray) (va_A (x_bl n' ad' wf' τ) H.size) :=
  fun H locs ls hl hPc hDc => va_runS C0.1 (hM H.size) cw ⟨x_blind, fun U hU hW => ⟨rfl, by rw [hU], by rw [hU]; exact hPc, va_K.moved hW.alike C0.2.1, hDc, x_N_warm hW C0.2.2.2.2.2.2.2⟩⟩ rfl hn hl.1 rfl (lv_room hW) d ⟨Nat.zero_le _, Nat.zero_le _⟩
theorem x_callS (C0 : x_C p s m args meth c D cl tys A H0 n ad wf cc nL own ret) {σ' : xM} {val : Option Value} {y : MethodName} {bytes : ByteArray} {mxl index k9 : Nat} {rty : Option FieldType} {ws : List Cond} {rm : Room} {As : List Value} (hM : x_Met l y ws rm D cl tys n ad wf As σ val σ') (cw : CallB R s args own index y bytes mxl rty ws rm 0 0 k9 ∧ (Cond.static y).before args s = true) (hn : As.length = k9) (hW : (st.map fun v => v.category).sum ≤ 8) (d : decode cc pc = .ok (.invokestatic index, 3)) (K : x_W p l e R s m args below meth c D cl A H0 n ad wf nL Q σ' (pc + 3) L (val.toList ++ st)) : x_W p l e R s m args below meth c D cl A H0 n ad wf nL Q σ pc L (As.reverse ++ st) :=
  x_callK C0 (n' := n) (ι := fun r => r) (wf' := wf) (τ := σ) (τ' := σ') (fun _ h => h) (fun _ _ _ _ h => h) (fun _ _ => rfl) (fun _ _ => rfl) (fun r hr h => absurd rfl (h r hr)) (x_runS C0 hM cw hn hW d) K
theorem x_pureS (C0 : x_C p s m args meth c D cl tys A H0 n ad wf cc nL own ret) {wf' : xM → Nat → va_E} {τ τ' : xM} {val : Option Value} {y : MethodName} {bytes : ByteArray} {mxl index k9 : Nat} {rty : Option FieldType} {ws : List Cond} {rm : Room} {As : List Value} (hM : ∀ ad', x_Met l y ws rm D cl tys 0 ad' wf' As τ val τ') (cw : CallB R s args own index y bytes mxl rty ws rm 0 0 k9 ∧ (Cond.static y).before args s = true) (hn : As.length = k9) (hW : (st.map fun v => v.category).sum ≤ 8) (d : decode cc pc = .ok (.invokestatic index, 3)) (K : x_W p l e R s m args below meth c D cl A H0 n ad wf nL Q σ (pc + 3) L (val.toList ++ st)) : x_W p l e R s m args below meth c D cl A H0 n ad wf nL Q σ pc L (As.reverse ++ st) :=
  x_callK C0 (n' := 0) (ι := fun r => r) (wf' := wf') (τ := τ) (τ' := τ') (σ' := σ) (fun _ h => absurd h (Nat.not_lt_zero _)) (fun _ _ h => absurd h (Nat.not_lt_zero _)) (fun _ h => absurd h (Nat.not_lt_zero _)) (fun _ h => absurd h (Nat.not_lt_zero _)) (fun _ _ _ _ => rfl) (x_runS C0 (hM _) cw hn hW d) K
theorem x_runSN (C0 : x_C p s m args meth c D cl tys A H0 n ad wf cc nL own ret) {n' : Nat} {ad' : Nat → Nat} {wf' : xM → Nat → va_E} {τ τ' : xM} {val : Option Value} {y : MethodName} {bytes : ByteArray} {mxl index k9 : Nat} {rty : Option FieldType} {ws : List Cond} {rm : Room} {As : List Value} {host : String} (hM : x_Met l y ws rm D cl tys n' ad' wf' As τ val τ') (cw : va_CN R s args own index y host bytes mxl rty ws rm 0 0 k9 ∧ (Cond.static y).before args s = true ∧ True) (hn : As.length = k9) (hW : (st.map fun v => v.category).sum ≤ 8) (d : decode cc pc = .ok (.invokestatic index, 3)) : ∀ (H : Heap) (locs : List Loc) (ls : Array Slot), lv_has ls nL L → va_P D cl (x_bl n' ad' wf' τ) H → va_D (fun _ => True) (x_bl n' ad' wf' τ) → va_Run p l e R s m args below meth c H locs 0 0 0 0 (F0 m pc ls (As.reverse ++ st)) st (x_Q val (fun t => va_P D cl (x_bl n' ad' wf' τ') t.heap) (va_A (x_bl n' ad' wf' τ) H.size) As.toArray) (va_A (x_bl n' ad' wf' τ) H.size) :=
  fun H locs ls hl hPc hDc => va_runSN C0.1 (hM H.size) cw ⟨x_blind, fun U hU hW => ⟨rfl, by rw [hU], by rw [hU]; exact hPc, va_K.moved hW.alike C0.2.1, hDc, x_N_warm hW C0.2.2.2.2.2.2.2⟩⟩ rfl hn hl.1 rfl (lv_room hW) d ⟨Nat.zero_le _, Nat.zero_le _⟩
theorem x_callSN (C0 : x_C p s m args meth c D cl tys A H0 n ad wf cc nL own ret) {σ' : xM} {val : Option Value} {y : MethodName} {bytes : ByteArray} {mxl index k9 : Nat} {rty : Option FieldType} {ws : List Cond} {rm : Room} {As : List Value} {host : String} (hM : x_Met l y ws rm D cl tys n ad wf As σ val σ') (cw : va_CN R s args own index y host bytes mxl rty ws rm 0 0 k9 ∧ (Cond.static y).before args s = true ∧ True) (hn : As.length = k9) (hW : (st.map fun v => v.category).sum ≤ 8) (d : decode cc pc = .ok (.invokestatic index, 3)) (K : x_W p l e R s m args below meth c D cl A H0 n ad wf nL Q σ' (pc + 3) L (val.toList ++ st)) : x_W p l e R s m args below meth c D cl A H0 n ad wf nL Q σ pc L (As.reverse ++ st) :=
  x_callK C0 (n' := n) (ι := fun r => r) (wf' := wf) (τ := σ) (τ' := σ') (fun _ h => h) (fun _ _ _ _ h => h) (fun _ _ => rfl) (fun _ _ => rfl) (fun r hr h => absurd rfl (h r hr)) (x_runSN C0 hM cw hn hW d) K
theorem x_pureSN (C0 : x_C p s m args meth c D cl tys A H0 n ad wf cc nL own ret) {wf' : xM → Nat → va_E} {τ τ' : xM} {val : Option Value} {y : MethodName} {bytes : ByteArray} {mxl index k9 : Nat} {rty : Option FieldType} {ws : List Cond} {rm : Room} {As : List Value} {host : String} (hM : ∀ ad', x_Met l y ws rm D cl tys 0 ad' wf' As τ val τ') (cw : va_CN R s args own index y host bytes mxl rty ws rm 0 0 k9 ∧ (Cond.static y).before args s = true ∧ True) (hn : As.length = k9) (hW : (st.map fun v => v.category).sum ≤ 8) (d : decode cc pc = .ok (.invokestatic index, 3)) (K : x_W p l e R s m args below meth c D cl A H0 n ad wf nL Q σ (pc + 3) L (val.toList ++ st)) : x_W p l e R s m args below meth c D cl A H0 n ad wf nL Q σ pc L (As.reverse ++ st) :=
  x_callK C0 (n' := 0) (ι := fun r => r) (wf' := wf') (τ := τ) (τ' := τ') (σ' := σ) (fun _ h => absurd h (Nat.not_lt_zero _)) (fun _ _ h => absurd h (Nat.not_lt_zero _)) (fun _ h => absurd h (Nat.not_lt_zero _)) (fun _ h => absurd h (Nat.not_lt_zero _)) (fun _ _ _ _ => rfl) (x_runSN C0 (hM _) cw hn hW d) K
end XR
end
