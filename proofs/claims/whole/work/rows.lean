section
-- ===== PART A: goes FIRST, ahead of the names: the tables' words, and 'selects' of the private methods out of them =====
/-- a private method of a class that the tables say can be made, by its rows of tables_1 -/
def lw_okq (q : MethodName × Nat) : Prop := (q.1.cls ≠ "java/lang/invoke/MethodHandle" ∧ q.1.cls ≠ "java/lang/invoke/VarHandle") ∧ Cond.instantiable q.1.cls q.2 ∈ tables_1 ∧ Cond.privateMethod q.1 ∈ tables_1 ∧ Cond.instanceMethod q.1 ∈ tables_1
theorem lw_p0 : lw_okq (⟨"ThreeTimes", "shelfAt", "(I)LThreeTimes$Shelf;"⟩, 6) := ⟨⟨by decide +kernel, by decide +kernel⟩, List.mem_of_getElem? (i := 17) (by decide +kernel), List.mem_of_getElem? (i := 232) (by decide +kernel), List.mem_of_getElem? (i := 233) (by decide +kernel)⟩
theorem lw_p1 : lw_okq (⟨"ThreeTimes$Shelf", "refusalAsRow", "()I"⟩, 8) := ⟨⟨by decide +kernel, by decide +kernel⟩, List.mem_of_getElem? (i := 170) (by decide +kernel), List.mem_of_getElem? (i := 236) (by decide +kernel), List.mem_of_getElem? (i := 237) (by decide +kernel)⟩
theorem lw_p2 : lw_okq (⟨"ThreeTimes$Script", "takesIn", "(LThreeTimes$Shelf;)Z"⟩, 2) := ⟨⟨by decide +kernel, by decide +kernel⟩, List.mem_of_getElem? (i := 152) (by decide +kernel), List.mem_of_getElem? (i := 240) (by decide +kernel), List.mem_of_getElem? (i := 241) (by decide +kernel)⟩
theorem lw_p3 : lw_okq (⟨"ThreeTimes$Script", "takesStatement", "(LThreeTimes$Shelf;)Z"⟩, 2) := ⟨⟨by decide +kernel, by decide +kernel⟩, List.mem_of_getElem? (i := 152) (by decide +kernel), List.mem_of_getElem? (i := 244) (by decide +kernel), List.mem_of_getElem? (i := 245) (by decide +kernel)⟩
theorem lw_p4 : lw_okq (⟨"ThreeTimes$Shelf", "read", "(I)I"⟩, 8) := ⟨⟨by decide +kernel, by decide +kernel⟩, List.mem_of_getElem? (i := 170) (by decide +kernel), List.mem_of_getElem? (i := 248) (by decide +kernel), List.mem_of_getElem? (i := 249) (by decide +kernel)⟩
theorem lw_p5 : lw_okq (⟨"ThreeTimes$Shelf", "has", "(I)Z"⟩, 8) := ⟨⟨by decide +kernel, by decide +kernel⟩, List.mem_of_getElem? (i := 170) (by decide +kernel), List.mem_of_getElem? (i := 252) (by decide +kernel), List.mem_of_getElem? (i := 253) (by decide +kernel)⟩
theorem lw_p6 : lw_okq (⟨"ThreeTimes$Table", "open", "()I"⟩, 4) := ⟨⟨by decide +kernel, by decide +kernel⟩, List.mem_of_getElem? (i := 31) (by decide +kernel), List.mem_of_getElem? (i := 256) (by decide +kernel), List.mem_of_getElem? (i := 257) (by decide +kernel)⟩
theorem lw_p7 : lw_okq (⟨"ThreeTimes$Table", "write", "(III)V"⟩, 4) := ⟨⟨by decide +kernel, by decide +kernel⟩, List.mem_of_getElem? (i := 31) (by decide +kernel), List.mem_of_getElem? (i := 260) (by decide +kernel), List.mem_of_getElem? (i := 261) (by decide +kernel)⟩
theorem lw_p8 : lw_okq (⟨"ThreeTimes$Table", "placeOf", "(II)I"⟩, 4) := ⟨⟨by decide +kernel, by decide +kernel⟩, List.mem_of_getElem? (i := 31) (by decide +kernel), List.mem_of_getElem? (i := 264) (by decide +kernel), List.mem_of_getElem? (i := 265) (by decide +kernel)⟩
theorem lw_p9 : lw_okq (⟨"ThreeTimes$Script", "takesDigit", "(LThreeTimes$Shelf;I)Z"⟩, 2) := ⟨⟨by decide +kernel, by decide +kernel⟩, List.mem_of_getElem? (i := 152) (by decide +kernel), List.mem_of_getElem? (i := 269) (by decide +kernel), List.mem_of_getElem? (i := 270) (by decide +kernel)⟩
theorem lw_p10 : lw_okq (⟨"ThreeTimes$Script", "takes", "(LThreeTimes$Shelf;I)Z"⟩, 2) := ⟨⟨by decide +kernel, by decide +kernel⟩, List.mem_of_getElem? (i := 152) (by decide +kernel), List.mem_of_getElem? (i := 276) (by decide +kernel), List.mem_of_getElem? (i := 277) (by decide +kernel)⟩
theorem lw_p11 : lw_okq (⟨"ThreeTimes$Script", "takesNumber", "(LThreeTimes$Shelf;II)Z"⟩, 2) := ⟨⟨by decide +kernel, by decide +kernel⟩, List.mem_of_getElem? (i := 152) (by decide +kernel), List.mem_of_getElem? (i := 280) (by decide +kernel), List.mem_of_getElem? (i := 281) (by decide +kernel)⟩
theorem lw_p12 : lw_okq (⟨"ThreeTimes$Script", "takesPart", "(LThreeTimes$Shelf;III)Z"⟩, 2) := ⟨⟨by decide +kernel, by decide +kernel⟩, List.mem_of_getElem? (i := 152) (by decide +kernel), List.mem_of_getElem? (i := 284) (by decide +kernel), List.mem_of_getElem? (i := 285) (by decide +kernel)⟩
theorem lw_p13 : lw_okq (⟨"ThreeTimes", "placeOfUntold", "(LThreeTimes$Table;)I"⟩, 6) := ⟨⟨by decide +kernel, by decide +kernel⟩, List.mem_of_getElem? (i := 17) (by decide +kernel), List.mem_of_getElem? (i := 288) (by decide +kernel), List.mem_of_getElem? (i := 289) (by decide +kernel)⟩
theorem lw_p14 : lw_okq (⟨"ThreeTimes$Table", "read", "(II)I"⟩, 4) := ⟨⟨by decide +kernel, by decide +kernel⟩, List.mem_of_getElem? (i := 31) (by decide +kernel), List.mem_of_getElem? (i := 292) (by decide +kernel), List.mem_of_getElem? (i := 293) (by decide +kernel)⟩
theorem lw_p15 : lw_okq (⟨"ThreeTimes", "carryOut", "(LThreeTimes$Table;I)V"⟩, 6) := ⟨⟨by decide +kernel, by decide +kernel⟩, List.mem_of_getElem? (i := 17) (by decide +kernel), List.mem_of_getElem? (i := 302) (by decide +kernel), List.mem_of_getElem? (i := 303) (by decide +kernel)⟩
def lw_privs_1 : List (MethodName × Nat) := [(⟨"ThreeTimes", "shelfAt", "(I)LThreeTimes$Shelf;"⟩, 6), (⟨"ThreeTimes$Shelf", "refusalAsRow", "()I"⟩, 8), (⟨"ThreeTimes$Script", "takesIn", "(LThreeTimes$Shelf;)Z"⟩, 2), (⟨"ThreeTimes$Script", "takesStatement", "(LThreeTimes$Shelf;)Z"⟩, 2), (⟨"ThreeTimes$Shelf", "read", "(I)I"⟩, 8), (⟨"ThreeTimes$Shelf", "has", "(I)Z"⟩, 8), (⟨"ThreeTimes$Table", "open", "()I"⟩, 4), (⟨"ThreeTimes$Table", "write", "(III)V"⟩, 4), (⟨"ThreeTimes$Table", "placeOf", "(II)I"⟩, 4), (⟨"ThreeTimes$Script", "takesDigit", "(LThreeTimes$Shelf;I)Z"⟩, 2), (⟨"ThreeTimes$Script", "takes", "(LThreeTimes$Shelf;I)Z"⟩, 2), (⟨"ThreeTimes$Script", "takesNumber", "(LThreeTimes$Shelf;II)Z"⟩, 2), (⟨"ThreeTimes$Script", "takesPart", "(LThreeTimes$Shelf;III)Z"⟩, 2), (⟨"ThreeTimes", "placeOfUntold", "(LThreeTimes$Table;)I"⟩, 6), (⟨"ThreeTimes$Table", "read", "(II)I"⟩, 4), (⟨"ThreeTimes", "carryOut", "(LThreeTimes$Table;I)V"⟩, 6)]
theorem lw_r1 : ∀ q ∈ lw_privs_1, lw_okq q := List.forall_mem_cons.mpr ⟨lw_p0, List.forall_mem_cons.mpr ⟨lw_p1, List.forall_mem_cons.mpr ⟨lw_p2, List.forall_mem_cons.mpr ⟨lw_p3, List.forall_mem_cons.mpr ⟨lw_p4, List.forall_mem_cons.mpr ⟨lw_p5, List.forall_mem_cons.mpr ⟨lw_p6, List.forall_mem_cons.mpr ⟨lw_p7, List.forall_mem_cons.mpr ⟨lw_p8, List.forall_mem_cons.mpr ⟨lw_p9, List.forall_mem_cons.mpr ⟨lw_p10, List.forall_mem_cons.mpr ⟨lw_p11, List.forall_mem_cons.mpr ⟨lw_p12, List.forall_mem_cons.mpr ⟨lw_p13, List.forall_mem_cons.mpr ⟨lw_p14, List.forall_mem_cons.mpr ⟨lw_p15, fun _ h => absurd h List.not_mem_nil⟩⟩⟩⟩⟩⟩⟩⟩⟩⟩⟩⟩⟩⟩⟩⟩
theorem lw_p16 : lw_okq (⟨"ThreeTimes$Table", "has", "(I)Z"⟩, 4) := ⟨⟨by decide +kernel, by decide +kernel⟩, List.mem_of_getElem? (i := 31) (by decide +kernel), List.mem_of_getElem? (i := 312) (by decide +kernel), List.mem_of_getElem? (i := 313) (by decide +kernel)⟩
theorem lw_p17 : lw_okq (⟨"ThreeTimes", "bringPastOf", "(I)V"⟩, 6) := ⟨⟨by decide +kernel, by decide +kernel⟩, List.mem_of_getElem? (i := 17) (by decide +kernel), List.mem_of_getElem? (i := 320) (by decide +kernel), List.mem_of_getElem? (i := 321) (by decide +kernel)⟩
theorem lw_p18 : lw_okq (⟨"ThreeTimes$Table", "sumWhere", "(III)I"⟩, 4) := ⟨⟨by decide +kernel, by decide +kernel⟩, List.mem_of_getElem? (i := 31) (by decide +kernel), List.mem_of_getElem? (i := 324) (by decide +kernel), List.mem_of_getElem? (i := 325) (by decide +kernel)⟩
theorem lw_p19 : lw_okq (⟨"ThreeTimes$Meeting", "nameOfReturner", "()I"⟩, 16) := ⟨⟨by decide +kernel, by decide +kernel⟩, List.mem_of_getElem? (i := 81) (by decide +kernel), List.mem_of_getElem? (i := 329) (by decide +kernel), List.mem_of_getElem? (i := 330) (by decide +kernel)⟩
theorem lw_p20 : lw_okq (⟨"ThreeTimes", "areThere", "(II)Z"⟩, 6) := ⟨⟨by decide +kernel, by decide +kernel⟩, List.mem_of_getElem? (i := 17) (by decide +kernel), List.mem_of_getElem? (i := 345) (by decide +kernel), List.mem_of_getElem? (i := 346) (by decide +kernel)⟩
theorem lw_p21 : lw_okq (⟨"ThreeTimes", "playAndWriteDown", "(IIZ)I"⟩, 6) := ⟨⟨by decide +kernel, by decide +kernel⟩, List.mem_of_getElem? (i := 17) (by decide +kernel), List.mem_of_getElem? (i := 349) (by decide +kernel), List.mem_of_getElem? (i := 350) (by decide +kernel)⟩
theorem lw_p22 : lw_okq (⟨"ThreeTimes", "bring", "(II)V"⟩, 6) := ⟨⟨by decide +kernel, by decide +kernel⟩, List.mem_of_getElem? (i := 17) (by decide +kernel), List.mem_of_getElem? (i := 353) (by decide +kernel), List.mem_of_getElem? (i := 354) (by decide +kernel)⟩
theorem lw_p23 : lw_okq (⟨"ThreeTimes", "bringSender", "(I)V"⟩, 6) := ⟨⟨by decide +kernel, by decide +kernel⟩, List.mem_of_getElem? (i := 17) (by decide +kernel), List.mem_of_getElem? (i := 357) (by decide +kernel), List.mem_of_getElem? (i := 358) (by decide +kernel)⟩
theorem lw_p24 : lw_okq (⟨"ThreeTimes", "bringSettings", "()V"⟩, 6) := ⟨⟨by decide +kernel, by decide +kernel⟩, List.mem_of_getElem? (i := 17) (by decide +kernel), List.mem_of_getElem? (i := 361) (by decide +kernel), List.mem_of_getElem? (i := 362) (by decide +kernel)⟩
theorem lw_p25 : lw_okq (⟨"ThreeTimes", "bringReturner", "(I)V"⟩, 6) := ⟨⟨by decide +kernel, by decide +kernel⟩, List.mem_of_getElem? (i := 17) (by decide +kernel), List.mem_of_getElem? (i := 365) (by decide +kernel), List.mem_of_getElem? (i := 366) (by decide +kernel)⟩
theorem lw_p26 : lw_okq (⟨"ThreeTimes", "bringLastOf", "(II)V"⟩, 6) := ⟨⟨by decide +kernel, by decide +kernel⟩, List.mem_of_getElem? (i := 17) (by decide +kernel), List.mem_of_getElem? (i := 369) (by decide +kernel), List.mem_of_getElem? (i := 370) (by decide +kernel)⟩
theorem lw_p27 : lw_okq (⟨"ThreeTimes$Meeting", "play", "(Z)V"⟩, 16) := ⟨⟨by decide +kernel, by decide +kernel⟩, List.mem_of_getElem? (i := 81) (by decide +kernel), List.mem_of_getElem? (i := 373) (by decide +kernel), List.mem_of_getElem? (i := 374) (by decide +kernel)⟩
theorem lw_p28 : lw_okq (⟨"ThreeTimes$Meeting", "sendNow", "()I"⟩, 16) := ⟨⟨by decide +kernel, by decide +kernel⟩, List.mem_of_getElem? (i := 81) (by decide +kernel), List.mem_of_getElem? (i := 377) (by decide +kernel), List.mem_of_getElem? (i := 378) (by decide +kernel)⟩
theorem lw_p29 : lw_okq (⟨"ThreeTimes$Meeting", "allIfHeld", "(I)I"⟩, 16) := ⟨⟨by decide +kernel, by decide +kernel⟩, List.mem_of_getElem? (i := 81) (by decide +kernel), List.mem_of_getElem? (i := 381) (by decide +kernel), List.mem_of_getElem? (i := 382) (by decide +kernel)⟩
theorem lw_p30 : lw_okq (⟨"ThreeTimes$Meeting", "allByLot", "()I"⟩, 16) := ⟨⟨by decide +kernel, by decide +kernel⟩, List.mem_of_getElem? (i := 81) (by decide +kernel), List.mem_of_getElem? (i := 389) (by decide +kernel), List.mem_of_getElem? (i := 390) (by decide +kernel)⟩
theorem lw_p31 : lw_okq (⟨"ThreeTimes$Meeting", "draw", "()I"⟩, 16) := ⟨⟨by decide +kernel, by decide +kernel⟩, List.mem_of_getElem? (i := 81) (by decide +kernel), List.mem_of_getElem? (i := 393) (by decide +kernel), List.mem_of_getElem? (i := 394) (by decide +kernel)⟩
def lw_privs_2 : List (MethodName × Nat) := [(⟨"ThreeTimes$Table", "has", "(I)Z"⟩, 4), (⟨"ThreeTimes", "bringPastOf", "(I)V"⟩, 6), (⟨"ThreeTimes$Table", "sumWhere", "(III)I"⟩, 4), (⟨"ThreeTimes$Meeting", "nameOfReturner", "()I"⟩, 16), (⟨"ThreeTimes", "areThere", "(II)Z"⟩, 6), (⟨"ThreeTimes", "playAndWriteDown", "(IIZ)I"⟩, 6), (⟨"ThreeTimes", "bring", "(II)V"⟩, 6), (⟨"ThreeTimes", "bringSender", "(I)V"⟩, 6), (⟨"ThreeTimes", "bringSettings", "()V"⟩, 6), (⟨"ThreeTimes", "bringReturner", "(I)V"⟩, 6), (⟨"ThreeTimes", "bringLastOf", "(II)V"⟩, 6), (⟨"ThreeTimes$Meeting", "play", "(Z)V"⟩, 16), (⟨"ThreeTimes$Meeting", "sendNow", "()I"⟩, 16), (⟨"ThreeTimes$Meeting", "allIfHeld", "(I)I"⟩, 16), (⟨"ThreeTimes$Meeting", "allByLot", "()I"⟩, 16), (⟨"ThreeTimes$Meeting", "draw", "()I"⟩, 16)]
theorem lw_r2 : ∀ q ∈ lw_privs_2, lw_okq q := List.forall_mem_cons.mpr ⟨lw_p16, List.forall_mem_cons.mpr ⟨lw_p17, List.forall_mem_cons.mpr ⟨lw_p18, List.forall_mem_cons.mpr ⟨lw_p19, List.forall_mem_cons.mpr ⟨lw_p20, List.forall_mem_cons.mpr ⟨lw_p21, List.forall_mem_cons.mpr ⟨lw_p22, List.forall_mem_cons.mpr ⟨lw_p23, List.forall_mem_cons.mpr ⟨lw_p24, List.forall_mem_cons.mpr ⟨lw_p25, List.forall_mem_cons.mpr ⟨lw_p26, List.forall_mem_cons.mpr ⟨lw_p27, List.forall_mem_cons.mpr ⟨lw_p28, List.forall_mem_cons.mpr ⟨lw_p29, List.forall_mem_cons.mpr ⟨lw_p30, List.forall_mem_cons.mpr ⟨lw_p31, fun _ h => absurd h List.not_mem_nil⟩⟩⟩⟩⟩⟩⟩⟩⟩⟩⟩⟩⟩⟩⟩⟩
theorem lw_p32 : lw_okq (⟨"ThreeTimes$Meeting", "sendBackOf", "(IZ)I"⟩, 16) := ⟨⟨by decide +kernel, by decide +kernel⟩, List.mem_of_getElem? (i := 81) (by decide +kernel), List.mem_of_getElem? (i := 400) (by decide +kernel), List.mem_of_getElem? (i := 401) (by decide +kernel)⟩
theorem lw_p33 : lw_okq (⟨"ThreeTimes$Table", "rowsWhere", "(II)I"⟩, 4) := ⟨⟨by decide +kernel, by decide +kernel⟩, List.mem_of_getElem? (i := 31) (by decide +kernel), List.mem_of_getElem? (i := 416) (by decide +kernel), List.mem_of_getElem? (i := 417) (by decide +kernel)⟩
theorem lw_p34 : lw_okq (⟨"ThreeTimes$Shelf", "leastNumber", "()I"⟩, 8) := ⟨⟨by decide +kernel, by decide +kernel⟩, List.mem_of_getElem? (i := 170) (by decide +kernel), List.mem_of_getElem? (i := 428) (by decide +kernel), List.mem_of_getElem? (i := 429) (by decide +kernel)⟩
theorem lw_p35 : lw_okq (⟨"ThreeTimes$Meeting", "wouldSend", "()I"⟩, 16) := ⟨⟨by decide +kernel, by decide +kernel⟩, List.mem_of_getElem? (i := 81) (by decide +kernel), List.mem_of_getElem? (i := 438) (by decide +kernel), List.mem_of_getElem? (i := 439) (by decide +kernel)⟩
theorem lw_p36 : lw_okq (⟨"ThreeTimes$Meeting", "faceOneWhoKeepsAll", "()V"⟩, 16) := ⟨⟨by decide +kernel, by decide +kernel⟩, List.mem_of_getElem? (i := 81) (by decide +kernel), List.mem_of_getElem? (i := 461) (by decide +kernel), List.mem_of_getElem? (i := 462) (by decide +kernel)⟩
theorem lw_p37 : lw_okq (⟨"ThreeTimes$Meeting", "senderHasBy", "(I)I"⟩, 16) := ⟨⟨by decide +kernel, by decide +kernel⟩, List.mem_of_getElem? (i := 81) (by decide +kernel), List.mem_of_getElem? (i := 469) (by decide +kernel), List.mem_of_getElem? (i := 470) (by decide +kernel)⟩
theorem lw_p38 : lw_okq (⟨"ThreeTimes$Meeting", "keptOver", "(I)I"⟩, 16) := ⟨⟨by decide +kernel, by decide +kernel⟩, List.mem_of_getElem? (i := 81) (by decide +kernel), List.mem_of_getElem? (i := 477) (by decide +kernel), List.mem_of_getElem? (i := 478) (by decide +kernel)⟩
theorem lw_p39 : lw_okq (⟨"ThreeTimes$Shelf", "isOfSendings", "(I)Z"⟩, 8) := ⟨⟨by decide +kernel, by decide +kernel⟩, List.mem_of_getElem? (i := 170) (by decide +kernel), List.mem_of_getElem? (i := 498) (by decide +kernel), List.mem_of_getElem? (i := 499) (by decide +kernel)⟩
theorem lw_p40 : lw_okq (⟨"ThreeTimes$Shelf", "sum", "()I"⟩, 8) := ⟨⟨by decide +kernel, by decide +kernel⟩, List.mem_of_getElem? (i := 170) (by decide +kernel), List.mem_of_getElem? (i := 504) (by decide +kernel), List.mem_of_getElem? (i := 505) (by decide +kernel)⟩
theorem lw_p41 : lw_okq (⟨"ThreeTimes$Shelf", "signOf", "(II)I"⟩, 8) := ⟨⟨by decide +kernel, by decide +kernel⟩, List.mem_of_getElem? (i := 170) (by decide +kernel), List.mem_of_getElem? (i := 512) (by decide +kernel), List.mem_of_getElem? (i := 513) (by decide +kernel)⟩
theorem lw_p42 : lw_okq (⟨"ThreeTimes", "howUnlike", "(IIII)I"⟩, 6) := ⟨⟨by decide +kernel, by decide +kernel⟩, List.mem_of_getElem? (i := 17) (by decide +kernel), List.mem_of_getElem? (i := 520) (by decide +kernel), List.mem_of_getElem? (i := 521) (by decide +kernel)⟩
theorem lw_p43 : lw_okq (⟨"ThreeTimes$Game", "become", "(LThreeTimes$Game;)V"⟩, 6) := ⟨⟨by decide +kernel, by decide +kernel⟩, List.mem_of_getElem? (i := 25) (by decide +kernel), List.mem_of_getElem? (i := 531) (by decide +kernel), List.mem_of_getElem? (i := 532) (by decide +kernel)⟩
theorem lw_p44 : lw_okq (⟨"ThreeTimes$Table", "become", "(LThreeTimes$Table;)V"⟩, 4) := ⟨⟨by decide +kernel, by decide +kernel⟩, List.mem_of_getElem? (i := 31) (by decide +kernel), List.mem_of_getElem? (i := 535) (by decide +kernel), List.mem_of_getElem? (i := 536) (by decide +kernel)⟩
theorem lw_p45 : lw_okq (⟨"ThreeTimes$Table", "sum", "(I)I"⟩, 4) := ⟨⟨by decide +kernel, by decide +kernel⟩, List.mem_of_getElem? (i := 31) (by decide +kernel), List.mem_of_getElem? (i := 551) (by decide +kernel), List.mem_of_getElem? (i := 552) (by decide +kernel)⟩
theorem lw_p46 : lw_okq (⟨"ThreeTimes$Shelf", "becomeRow", "(II)V"⟩, 8) := ⟨⟨by decide +kernel, by decide +kernel⟩, List.mem_of_getElem? (i := 170) (by decide +kernel), List.mem_of_getElem? (i := 563) (by decide +kernel), List.mem_of_getElem? (i := 564) (by decide +kernel)⟩
theorem lw_p47 : lw_okq (⟨"ThreeTimes$Shelf", "write", "(II)V"⟩, 8) := ⟨⟨by decide +kernel, by decide +kernel⟩, List.mem_of_getElem? (i := 170) (by decide +kernel), List.mem_of_getElem? (i := 572) (by decide +kernel), List.mem_of_getElem? (i := 573) (by decide +kernel)⟩
def lw_privs_3 : List (MethodName × Nat) := [(⟨"ThreeTimes$Meeting", "sendBackOf", "(IZ)I"⟩, 16), (⟨"ThreeTimes$Table", "rowsWhere", "(II)I"⟩, 4), (⟨"ThreeTimes$Shelf", "leastNumber", "()I"⟩, 8), (⟨"ThreeTimes$Meeting", "wouldSend", "()I"⟩, 16), (⟨"ThreeTimes$Meeting", "faceOneWhoKeepsAll", "()V"⟩, 16), (⟨"ThreeTimes$Meeting", "senderHasBy", "(I)I"⟩, 16), (⟨"ThreeTimes$Meeting", "keptOver", "(I)I"⟩, 16), (⟨"ThreeTimes$Shelf", "isOfSendings", "(I)Z"⟩, 8), (⟨"ThreeTimes$Shelf", "sum", "()I"⟩, 8), (⟨"ThreeTimes$Shelf", "signOf", "(II)I"⟩, 8), (⟨"ThreeTimes", "howUnlike", "(IIII)I"⟩, 6), (⟨"ThreeTimes$Game", "become", "(LThreeTimes$Game;)V"⟩, 6), (⟨"ThreeTimes$Table", "become", "(LThreeTimes$Table;)V"⟩, 4), (⟨"ThreeTimes$Table", "sum", "(I)I"⟩, 4), (⟨"ThreeTimes$Shelf", "becomeRow", "(II)V"⟩, 8), (⟨"ThreeTimes$Shelf", "write", "(II)V"⟩, 8)]
theorem lw_r3 : ∀ q ∈ lw_privs_3, lw_okq q := List.forall_mem_cons.mpr ⟨lw_p32, List.forall_mem_cons.mpr ⟨lw_p33, List.forall_mem_cons.mpr ⟨lw_p34, List.forall_mem_cons.mpr ⟨lw_p35, List.forall_mem_cons.mpr ⟨lw_p36, List.forall_mem_cons.mpr ⟨lw_p37, List.forall_mem_cons.mpr ⟨lw_p38, List.forall_mem_cons.mpr ⟨lw_p39, List.forall_mem_cons.mpr ⟨lw_p40, List.forall_mem_cons.mpr ⟨lw_p41, List.forall_mem_cons.mpr ⟨lw_p42, List.forall_mem_cons.mpr ⟨lw_p43, List.forall_mem_cons.mpr ⟨lw_p44, List.forall_mem_cons.mpr ⟨lw_p45, List.forall_mem_cons.mpr ⟨lw_p46, List.forall_mem_cons.mpr ⟨lw_p47, fun _ h => absurd h List.not_mem_nil⟩⟩⟩⟩⟩⟩⟩⟩⟩⟩⟩⟩⟩⟩⟩⟩
theorem lw_p48 : lw_okq (⟨"ThreeTimes$Shelf", "hasRun", "(II)Z"⟩, 8) := ⟨⟨by decide +kernel, by decide +kernel⟩, List.mem_of_getElem? (i := 170) (by decide +kernel), List.mem_of_getElem? (i := 580) (by decide +kernel), List.mem_of_getElem? (i := 581) (by decide +kernel)⟩
theorem lw_p49 : lw_okq (⟨"ThreeTimes$Shelf", "refusalAsSender", "()I"⟩, 8) := ⟨⟨by decide +kernel, by decide +kernel⟩, List.mem_of_getElem? (i := 170) (by decide +kernel), List.mem_of_getElem? (i := 589) (by decide +kernel), List.mem_of_getElem? (i := 590) (by decide +kernel)⟩
theorem lw_p50 : lw_okq (⟨"ThreeTimes$Shelf", "faithOfSender", "()I"⟩, 8) := ⟨⟨by decide +kernel, by decide +kernel⟩, List.mem_of_getElem? (i := 170) (by decide +kernel), List.mem_of_getElem? (i := 593) (by decide +kernel), List.mem_of_getElem? (i := 594) (by decide +kernel)⟩
theorem lw_p51 : lw_okq (⟨"ThreeTimes$Shelf", "throwFailure", "()V"⟩, 8) := ⟨⟨by decide +kernel, by decide +kernel⟩, List.mem_of_getElem? (i := 170) (by decide +kernel), List.mem_of_getElem? (i := 604) (by decide +kernel), List.mem_of_getElem? (i := 605) (by decide +kernel)⟩
theorem lw_p52 : lw_okq (⟨"java/lang/Throwable", "fillInStackTrace", "(I)Ljava/lang/Throwable;"⟩, 6) := ⟨⟨by decide +kernel, by decide +kernel⟩, List.mem_of_getElem? (i := 646) (by decide +kernel), List.mem_of_getElem? (i := 644) (by decide +kernel), List.mem_of_getElem? (i := 645) (by decide +kernel)⟩
theorem lw_p53 : lw_okq (⟨"ThreeTimesModel", "wrongRow", "(I)I"⟩, 47) := ⟨⟨by decide +kernel, by decide +kernel⟩, List.mem_of_getElem? (i := 721) (by decide +kernel), List.mem_of_getElem? (i := 879) (by decide +kernel), List.mem_of_getElem? (i := 880) (by decide +kernel)⟩
theorem lw_p54 : lw_okq (⟨"ThreeTimesModel", "readStatement", "()V"⟩, 47) := ⟨⟨by decide +kernel, by decide +kernel⟩, List.mem_of_getElem? (i := 721) (by decide +kernel), List.mem_of_getElem? (i := 887) (by decide +kernel), List.mem_of_getElem? (i := 888) (by decide +kernel)⟩
theorem lw_p55 : lw_okq (⟨"ThreeTimesModel", "here", "()I"⟩, 47) := ⟨⟨by decide +kernel, by decide +kernel⟩, List.mem_of_getElem? (i := 721) (by decide +kernel), List.mem_of_getElem? (i := 891) (by decide +kernel), List.mem_of_getElem? (i := 892) (by decide +kernel)⟩
theorem lw_p56 : lw_okq (⟨"ThreeTimesModel", "readDigit", "()I"⟩, 47) := ⟨⟨by decide +kernel, by decide +kernel⟩, List.mem_of_getElem? (i := 721) (by decide +kernel), List.mem_of_getElem? (i := 895) (by decide +kernel), List.mem_of_getElem? (i := 896) (by decide +kernel)⟩
theorem lw_p57 : lw_okq (⟨"ThreeTimesModel", "readNumber", "()I"⟩, 47) := ⟨⟨by decide +kernel, by decide +kernel⟩, List.mem_of_getElem? (i := 721) (by decide +kernel), List.mem_of_getElem? (i := 901) (by decide +kernel), List.mem_of_getElem? (i := 902) (by decide +kernel)⟩
theorem lw_p58 : lw_okq (⟨"ThreeTimesModel", "take", "(I)V"⟩, 47) := ⟨⟨by decide +kernel, by decide +kernel⟩, List.mem_of_getElem? (i := 721) (by decide +kernel), List.mem_of_getElem? (i := 905) (by decide +kernel), List.mem_of_getElem? (i := 906) (by decide +kernel)⟩
theorem lw_p59 : lw_okq (⟨"ThreeTimesModel", "readAfter", "(I)I"⟩, 47) := ⟨⟨by decide +kernel, by decide +kernel⟩, List.mem_of_getElem? (i := 721) (by decide +kernel), List.mem_of_getElem? (i := 909) (by decide +kernel), List.mem_of_getElem? (i := 910) (by decide +kernel)⟩
theorem lw_p60 : lw_okq (⟨"ThreeTimesModel", "comes", "(I)Z"⟩, 47) := ⟨⟨by decide +kernel, by decide +kernel⟩, List.mem_of_getElem? (i := 721) (by decide +kernel), List.mem_of_getElem? (i := 913) (by decide +kernel), List.mem_of_getElem? (i := 914) (by decide +kernel)⟩
theorem lw_p61 : lw_okq (⟨"ThreeTimesModel", "isSender", "(I)Z"⟩, 47) := ⟨⟨by decide +kernel, by decide +kernel⟩, List.mem_of_getElem? (i := 721) (by decide +kernel), List.mem_of_getElem? (i := 923) (by decide +kernel), List.mem_of_getElem? (i := 924) (by decide +kernel)⟩
theorem lw_p62 : lw_okq (⟨"ThreeTimesModel", "isReturner", "(I)Z"⟩, 47) := ⟨⟨by decide +kernel, by decide +kernel⟩, List.mem_of_getElem? (i := 721) (by decide +kernel), List.mem_of_getElem? (i := 932) (by decide +kernel), List.mem_of_getElem? (i := 933) (by decide +kernel)⟩
theorem lw_p63 : lw_okq (⟨"ThreeTimesModel", "nameOf", "(I)I"⟩, 47) := ⟨⟨by decide +kernel, by decide +kernel⟩, List.mem_of_getElem? (i := 721) (by decide +kernel), List.mem_of_getElem? (i := 936) (by decide +kernel), List.mem_of_getElem? (i := 937) (by decide +kernel)⟩
def lw_privs_4 : List (MethodName × Nat) := [(⟨"ThreeTimes$Shelf", "hasRun", "(II)Z"⟩, 8), (⟨"ThreeTimes$Shelf", "refusalAsSender", "()I"⟩, 8), (⟨"ThreeTimes$Shelf", "faithOfSender", "()I"⟩, 8), (⟨"ThreeTimes$Shelf", "throwFailure", "()V"⟩, 8), (⟨"java/lang/Throwable", "fillInStackTrace", "(I)Ljava/lang/Throwable;"⟩, 6), (⟨"ThreeTimesModel", "wrongRow", "(I)I"⟩, 47), (⟨"ThreeTimesModel", "readStatement", "()V"⟩, 47), (⟨"ThreeTimesModel", "here", "()I"⟩, 47), (⟨"ThreeTimesModel", "readDigit", "()I"⟩, 47), (⟨"ThreeTimesModel", "readNumber", "()I"⟩, 47), (⟨"ThreeTimesModel", "take", "(I)V"⟩, 47), (⟨"ThreeTimesModel", "readAfter", "(I)I"⟩, 47), (⟨"ThreeTimesModel", "comes", "(I)Z"⟩, 47), (⟨"ThreeTimesModel", "isSender", "(I)Z"⟩, 47), (⟨"ThreeTimesModel", "isReturner", "(I)Z"⟩, 47), (⟨"ThreeTimesModel", "nameOf", "(I)I"⟩, 47)]
theorem lw_r4 : ∀ q ∈ lw_privs_4, lw_okq q := List.forall_mem_cons.mpr ⟨lw_p48, List.forall_mem_cons.mpr ⟨lw_p49, List.forall_mem_cons.mpr ⟨lw_p50, List.forall_mem_cons.mpr ⟨lw_p51, List.forall_mem_cons.mpr ⟨lw_p52, List.forall_mem_cons.mpr ⟨lw_p53, List.forall_mem_cons.mpr ⟨lw_p54, List.forall_mem_cons.mpr ⟨lw_p55, List.forall_mem_cons.mpr ⟨lw_p56, List.forall_mem_cons.mpr ⟨lw_p57, List.forall_mem_cons.mpr ⟨lw_p58, List.forall_mem_cons.mpr ⟨lw_p59, List.forall_mem_cons.mpr ⟨lw_p60, List.forall_mem_cons.mpr ⟨lw_p61, List.forall_mem_cons.mpr ⟨lw_p62, List.forall_mem_cons.mpr ⟨lw_p63, fun _ h => absurd h List.not_mem_nil⟩⟩⟩⟩⟩⟩⟩⟩⟩⟩⟩⟩⟩⟩⟩⟩
theorem lw_p64 : lw_okq (⟨"ThreeTimesModel", "write", "(IIZ)V"⟩, 47) := ⟨⟨by decide +kernel, by decide +kernel⟩, List.mem_of_getElem? (i := 721) (by decide +kernel), List.mem_of_getElem? (i := 953) (by decide +kernel), List.mem_of_getElem? (i := 954) (by decide +kernel)⟩
theorem lw_p65 : lw_okq (⟨"ThreeTimesModel", "pass", "(IIIZ)V"⟩, 47) := ⟨⟨by decide +kernel, by decide +kernel⟩, List.mem_of_getElem? (i := 721) (by decide +kernel), List.mem_of_getElem? (i := 957) (by decide +kernel), List.mem_of_getElem? (i := 958) (by decide +kernel)⟩
theorem lw_p66 : lw_okq (⟨"ThreeTimesModel", "sendingTo", "(II)I"⟩, 47) := ⟨⟨by decide +kernel, by decide +kernel⟩, List.mem_of_getElem? (i := 721) (by decide +kernel), List.mem_of_getElem? (i := 961) (by decide +kernel), List.mem_of_getElem? (i := 962) (by decide +kernel)⟩
theorem lw_p67 : lw_okq (⟨"ThreeTimesModel", "sending", "(IZIII)I"⟩, 47) := ⟨⟨by decide +kernel, by decide +kernel⟩, List.mem_of_getElem? (i := 721) (by decide +kernel), List.mem_of_getElem? (i := 965) (by decide +kernel), List.mem_of_getElem? (i := 966) (by decide +kernel)⟩
theorem lw_p68 : lw_okq (⟨"ThreeTimesModel", "reckoned", "(I)I"⟩, 47) := ⟨⟨by decide +kernel, by decide +kernel⟩, List.mem_of_getElem? (i := 721) (by decide +kernel), List.mem_of_getElem? (i := 969) (by decide +kernel), List.mem_of_getElem? (i := 970) (by decide +kernel)⟩
theorem lw_p69 : lw_okq (⟨"ThreeTimesModel", "atMost", "(I)I"⟩, 47) := ⟨⟨by decide +kernel, by decide +kernel⟩, List.mem_of_getElem? (i := 721) (by decide +kernel), List.mem_of_getElem? (i := 973) (by decide +kernel), List.mem_of_getElem? (i := 974) (by decide +kernel)⟩
theorem lw_p70 : lw_okq (⟨"ThreeTimesModel", "draw", "()I"⟩, 47) := ⟨⟨by decide +kernel, by decide +kernel⟩, List.mem_of_getElem? (i := 721) (by decide +kernel), List.mem_of_getElem? (i := 977) (by decide +kernel), List.mem_of_getElem? (i := 978) (by decide +kernel)⟩
theorem lw_p71 : lw_okq (⟨"ThreeTimesModel", "backOf", "(IIIZ)I"⟩, 47) := ⟨⟨by decide +kernel, by decide +kernel⟩, List.mem_of_getElem? (i := 721) (by decide +kernel), List.mem_of_getElem? (i := 984) (by decide +kernel), List.mem_of_getElem? (i := 985) (by decide +kernel)⟩
theorem lw_p72 : lw_okq (⟨"ThreeTimesModel", "hasWith", "(IIII)I"⟩, 47) := ⟨⟨by decide +kernel, by decide +kernel⟩, List.mem_of_getElem? (i := 721) (by decide +kernel), List.mem_of_getElem? (i := 1043) (by decide +kernel), List.mem_of_getElem? (i := 1044) (by decide +kernel)⟩
theorem lw_p73 : lw_okq (⟨"ThreeTimesModel", "wrongTwo", "(II)I"⟩, 47) := ⟨⟨by decide +kernel, by decide +kernel⟩, List.mem_of_getElem? (i := 721) (by decide +kernel), List.mem_of_getElem? (i := 1060) (by decide +kernel), List.mem_of_getElem? (i := 1061) (by decide +kernel)⟩
theorem lw_p74 : lw_okq (⟨"ThreeTimesModel", "areSendings", "(I)Z"⟩, 47) := ⟨⟨by decide +kernel, by decide +kernel⟩, List.mem_of_getElem? (i := 721) (by decide +kernel), List.mem_of_getElem? (i := 1064) (by decide +kernel), List.mem_of_getElem? (i := 1065) (by decide +kernel)⟩
theorem lw_p75 : lw_okq (⟨"ThreeTimesModel", "sumOf", "(I)I"⟩, 47) := ⟨⟨by decide +kernel, by decide +kernel⟩, List.mem_of_getElem? (i := 721) (by decide +kernel), List.mem_of_getElem? (i := 1068) (by decide +kernel), List.mem_of_getElem? (i := 1069) (by decide +kernel)⟩
theorem lw_p76 : lw_okq (⟨"ThreeTimesModel", "signOf", "(III)I"⟩, 47) := ⟨⟨by decide +kernel, by decide +kernel⟩, List.mem_of_getElem? (i := 721) (by decide +kernel), List.mem_of_getElem? (i := 1076) (by decide +kernel), List.mem_of_getElem? (i := 1077) (by decide +kernel)⟩
theorem lw_p77 : lw_okq (⟨"ThreeTimesModel", "carryAll", "()V"⟩, 47) := ⟨⟨by decide +kernel, by decide +kernel⟩, List.mem_of_getElem? (i := 721) (by decide +kernel), List.mem_of_getElem? (i := 1088) (by decide +kernel), List.mem_of_getElem? (i := 1089) (by decide +kernel)⟩
theorem lw_p78 : lw_okq (⟨"ThreeTimesModel", "carry", "(I)I"⟩, 47) := ⟨⟨by decide +kernel, by decide +kernel⟩, List.mem_of_getElem? (i := 721) (by decide +kernel), List.mem_of_getElem? (i := 1092) (by decide +kernel), List.mem_of_getElem? (i := 1093) (by decide +kernel)⟩
theorem lw_p79 : lw_okq (⟨"ThreeTimesModel", "wrongShelf", "(I)I"⟩, 47) := ⟨⟨by decide +kernel, by decide +kernel⟩, List.mem_of_getElem? (i := 721) (by decide +kernel), List.mem_of_getElem? (i := 1131) (by decide +kernel), List.mem_of_getElem? (i := 1132) (by decide +kernel)⟩
def lw_privs_5 : List (MethodName × Nat) := [(⟨"ThreeTimesModel", "write", "(IIZ)V"⟩, 47), (⟨"ThreeTimesModel", "pass", "(IIIZ)V"⟩, 47), (⟨"ThreeTimesModel", "sendingTo", "(II)I"⟩, 47), (⟨"ThreeTimesModel", "sending", "(IZIII)I"⟩, 47), (⟨"ThreeTimesModel", "reckoned", "(I)I"⟩, 47), (⟨"ThreeTimesModel", "atMost", "(I)I"⟩, 47), (⟨"ThreeTimesModel", "draw", "()I"⟩, 47), (⟨"ThreeTimesModel", "backOf", "(IIIZ)I"⟩, 47), (⟨"ThreeTimesModel", "hasWith", "(IIII)I"⟩, 47), (⟨"ThreeTimesModel", "wrongTwo", "(II)I"⟩, 47), (⟨"ThreeTimesModel", "areSendings", "(I)Z"⟩, 47), (⟨"ThreeTimesModel", "sumOf", "(I)I"⟩, 47), (⟨"ThreeTimesModel", "signOf", "(III)I"⟩, 47), (⟨"ThreeTimesModel", "carryAll", "()V"⟩, 47), (⟨"ThreeTimesModel", "carry", "(I)I"⟩, 47), (⟨"ThreeTimesModel", "wrongShelf", "(I)I"⟩, 47)]
theorem lw_r5 : ∀ q ∈ lw_privs_5, lw_okq q := List.forall_mem_cons.mpr ⟨lw_p64, List.forall_mem_cons.mpr ⟨lw_p65, List.forall_mem_cons.mpr ⟨lw_p66, List.forall_mem_cons.mpr ⟨lw_p67, List.forall_mem_cons.mpr ⟨lw_p68, List.forall_mem_cons.mpr ⟨lw_p69, List.forall_mem_cons.mpr ⟨lw_p70, List.forall_mem_cons.mpr ⟨lw_p71, List.forall_mem_cons.mpr ⟨lw_p72, List.forall_mem_cons.mpr ⟨lw_p73, List.forall_mem_cons.mpr ⟨lw_p74, List.forall_mem_cons.mpr ⟨lw_p75, List.forall_mem_cons.mpr ⟨lw_p76, List.forall_mem_cons.mpr ⟨lw_p77, List.forall_mem_cons.mpr ⟨lw_p78, List.forall_mem_cons.mpr ⟨lw_p79, fun _ h => absurd h List.not_mem_nil⟩⟩⟩⟩⟩⟩⟩⟩⟩⟩⟩⟩⟩⟩⟩⟩
theorem lw_p80 : lw_okq (⟨"ThreeTimesModel", "faithOf", "(I)I"⟩, 47) := ⟨⟨by decide +kernel, by decide +kernel⟩, List.mem_of_getElem? (i := 721) (by decide +kernel), List.mem_of_getElem? (i := 1135) (by decide +kernel), List.mem_of_getElem? (i := 1136) (by decide +kernel)⟩
def lw_privs_6 : List (MethodName × Nat) := [(⟨"ThreeTimesModel", "faithOf", "(I)I"⟩, 47)]
theorem lw_r6 : ∀ q ∈ lw_privs_6, lw_okq q := List.forall_mem_cons.mpr ⟨lw_p80, fun _ h => absurd h List.not_mem_nil⟩
def lw_privs : List (MethodName × Nat) := lw_privs_1 ++ (lw_privs_2 ++ (lw_privs_3 ++ (lw_privs_4 ++ (lw_privs_5 ++ (lw_privs_6)))))
def lw_tbl : List Cond := k2_sels lw_privs ++ tables_1
theorem lw_privs_ok : ∀ q ∈ lw_privs, lw_okq q := by
  show ∀ q ∈ lw_privs_1 ++ (lw_privs_2 ++ (lw_privs_3 ++ (lw_privs_4 ++ (lw_privs_5 ++ (lw_privs_6))))), lw_okq q
  exact List.forall_mem_append.mpr ⟨lw_r1, List.forall_mem_append.mpr ⟨lw_r2, List.forall_mem_append.mpr ⟨lw_r3, List.forall_mem_append.mpr ⟨lw_r4, List.forall_mem_append.mpr ⟨lw_r5, lw_r6⟩⟩⟩⟩⟩
end
section
/-! ===== BEGIN words of one list among another's, by their places ===== -/
theorem goodIn_r {big : List Cond} (ws : List Cond) (ps : List Nat) (hp : ws = ps.filterMap (fun i => big[i]?)) (h : ws.all goodWord = true) : GoodIn big ws := by
  intro w hw
  have h1 := List.all_eq_true.mp h w hw
  rw [hp] at hw
  obtain ⟨i, -, hi⟩ := List.mem_filterMap.mp hw
  have hm : w ∈ big := by first | exact List.mem_of_getElem? hi | exact List.getElem?_mem hi
  exact ⟨hm, good_of_word h1⟩
theorem goodIn_app {big a b : List Cond} (ha : GoodIn big a) (hb : GoodIn big b) : GoodIn big (a ++ b) := fun w h => (List.mem_append.mp h).elim (ha w) (hb w)
theorem goodIn_ca {big a b : List Cond} {c : Cond} (ha : GoodIn big (c :: a)) (hb : GoodIn big b) : GoodIn big (c :: (a ++ b)) := fun w h => (List.mem_cons.mp h).elim (fun e => ha w (List.mem_cons.mpr (Or.inl e))) (fun h => (List.mem_append.mp h).elim (fun h => ha w (List.mem_cons.mpr (Or.inr h))) (hb w))
theorem goodIn_sub {big ws : List Cond} (hm : ∀ w ∈ ws, w ∈ big) (h : ws.all goodWord = true) : GoodIn big ws := fun w hw => ⟨hm w hw, good_of_word (List.all_eq_true.mp h w hw)⟩
/-! ===== END ===== -/

/-! ===== BEGIN exceptions that leave a method, and their catching by the caller (launches without stack traces) ===== -/
section VXA
/-! The laws vx_back, vx_callV, vx_callS, vx_callSW, vx_throw0, vx_throwS follow proofs of the library, with one case more: JvmDerived/Free/Laws.lean (Back.of_free), Shelf42/LK1.lean (callV, callS), Shelf/KitTraced.lean (throwNew0V, throwNewS). -/
/-- where a method has thrown q: the class by its name, the cell, what was written, the world -/
def vx_T (XC : String → State → State → Prop) (st : State) (q : Addr) (t : State) (mc ms : Nat) (free : Addr → Prop) : Prop :=
  ∃ (E : String) (ce : Cell) (L : List Loc), XC E st t ∧ t.heap[q]? = some ce ∧ ce.vm = .none ∧ st.vm.findClass E = some ce.cls ∧ st.WarmedH t.vm ∧ st.sameButNew ({ t with vm := st.vm } : State) L mc ms ∧ ∀ z ∈ L, free z.base
def vx_Q (Qc : Array Value → State → Outcome → State → Prop) (XC : String → State → State → Prop) (mc ms : Nat) (free : Addr → Prop) : Array Value → State → Outcome → State → Prop := fun a st o t =>
  (Qc a st o t ∧ ∃ L, FrameEnd st o t L mc ms ∧ ∀ q ∈ L, free q.base) ∨ ∃ q, o = .threw q ∧ vx_T XC st q t mc ms free
/-- a callee that returns or throws -/
def vx_Met (l : Launch) (y : MethodName) (ws : List Cond) (rm : Room) (Pc : Array Value → State → Prop) (Qc : Array Value → State → Outcome → State → Prop) (XC : String → State → State → Prop) (mc ms : Nat) (free : Addr → Prop) : Prop :=
  MetFree l y (headSpec ws rm) Pc (fun _ _ _ _ _ => True) (vx_Q Qc XC mc ms free)
def vx_Post (XC : String → State → State → Prop) (mc ms : Nat) (free : Addr → Prop) : Pt → Array Value → Addr → Pt → Prop := fun A a q B =>
  ∃ (g : JFrame) (mk : MethodId) (t : State) (L : List Loc) (E : String) (ce : Cell), B.U.heap = t.heap ∧ B.U.vm = t.vm ∧ XC E (A.U.calling g mk a) t ∧ t.heap[q]? = some ce ∧ ce.vm = .none ∧ A.U.vm.findClass E = some ce.cls ∧ B.locs = A.locs ++ L ∧ (∀ z ∈ L, free z.base) ∧ B.cells = A.cells + mc ∧ B.slots = A.slots + ms
def vx_Back (l : Launch) (R : Room) (p : Program) (e : Env) (below : List Frame) (s : State) (sargs : Array Value) (y : MethodName) (len W9 : Nat)
    (Pre : Pt → Array Value → Prop) (Post : Pt → Array Value → Option Value → Pt → Prop) (PostX : Pt → Array Value → Addr → Pt → Prop) : Prop :=
  ∀ (m : MethodId) (meth : Method) (c : Code) (A : Pt) (g : JFrame) (ig : Instr) (mk : MethodId) (a : Array Value),
    Stand p l e R s m sargs below meth c A.U A.locs A.cells A.slots → g.method = m → g.locals.size = c.maxLocals → decode c.code g.pc = .ok (ig, len) →
    2 * g.monitorRoom + (g.stack.map fun v => v.category).sum ≤ W9 → A.U.methodNamed? y = some mk → Pre A a →
    (∃ (v : Option Value) (B : Pt), Stand p l e R s m sargs below meth c B.U B.locs B.cells B.slots ∧ Post A a v B ∧
      Steps p.tables e below (doInvoke e (A.U.setTop g) [] mk a).1 (B.U.setTop { g with pc := g.pc + len, stack := v.toList ++ g.stack })) ∨
    (∃ (q : Addr) (B : Pt), Stand p l e R s m sargs below meth c B.U B.locs B.cells B.slots ∧ PostX A a q B ∧
      Steps p.tables e below (doInvoke e (A.U.setTop g) [] mk a).1 ((B.U.setTop g).pushFrame (.throwing q)))
section Payer
variable {l : Launch} {R : Room} {p : Program} {e : Env} {below : List Frame} {s : State} {sargs : Array Value} {y : MethodName} {len W9 : Nat}
theorem vx_back {ws : List Cond} {rm : Room} {Pc : Array Value → State → Prop} {Qc : Array Value → State → Outcome → State → Prop} {XC : String → State → State → Prop} {mc ms : Nat} {free : Addr → Prop} {bytes : ByteArray} {maxL : Nat} {ret : Option FieldType}
    (hM : vx_Met l y ws rm Pc Qc XC mc ms free) (hblind : FrameBlind Pc) (hrc : rm.cells = mc) (hrs : rm.slots = ms)
    (hframes : rm.frames + 1 ≤ R.frames) (hlocals : W9 + (maxL + 11) + rm.locals ≤ R.locals)
    (hws : ∀ w ∈ ws, ∀ a' U, s.WarmedH U.vm → w.before a' U = true) (hcode : Cond.code y bytes maxL ret ∈ ws) (hinit : ∀ a' U, s.WarmedH U.vm → (Cond.initialized y.cls).before a' U = true) :
    vx_Back l R p e below s sargs y len W9 (PreOf R mc ms Pc) (PostOf Qc mc ms free) (vx_Post XC mc ms free) := by
  intro m meth c A g ig mk a X hg hsize hdg hW hn hp
  have h1 : (headSpec ws rm).pre.before a A.U = true := atoms_intro fun w hw => hws w hw _ _ X.warmed
  have h2 : (Cond.code y bytes maxL ret).before a A.U = true := hws _ hcode _ _ X.warmed
  have h3 : (Cond.initialized y.cls).before a A.U = true := hinit _ _ X.warmed
  have h4 : A.cells + (headSpec ws rm).room.cells ≤ R.cells := by rw [show (headSpec ws rm).room.cells = mc from hrc]; exact hp.1
  have h5 : A.slots + (headSpec ws rm).room.slots ≤ R.slots := by rw [show (headSpec ws rm).room.slots = ms from hrs]; exact hp.2.1
  have hPc : Pc a (A.U.calling g mk a) := hblind _ _ _ _ hp.2.2
  obtain ⟨U, Ls, c0, s0⟩ := A
  dsimp only [Pt.U, Pt.locs, Pt.cells, Pt.slots] at h1 h2 h3 h4 h5 X hn hPc ⊢
  obtain ⟨methY, cY, hmY, hcY, -, hlY, -, -, -, -⟩ := Cond.code_spec hn h2
  obtain ⟨kY, hkY, -⟩ := className_of_methodNamed hn
  have hinitY : kY.init = .initialized := Cond.initialized_spec (findClass_of_methodNamed hn) hkY h3
  have h : At U g.method c below := by rw [hg]; exact X.here
  have hlocals9 : W9 + (maxL + 11) + (headSpec ws rm).room.locals ≤ R.locals := hlocals
  have happ : (headSpec ws rm).appliesLoose y e.platform (U.calling g mk a) = true :=
    Spec.appliesLoose_calling (g := g) h hdg hn hkY hinitY
      (X.room_calling (g := g) (R' := (headSpec ws rm).room) hsize hmY hcY hframes (by rw [hlY]; omega) h4 h5) h1
  obtain ⟨mid, hmid⟩ := h.above
  have hfr : (U.setTop g).frames = (.java g :: mid) ++ below := by rw [State.frames_setTop' g h.top, hmid]; rfl
  obtain ⟨o, s₂, hsteps, -, hend, hq⟩ := Steps.callFree hM p X.admits X.cas X.clock (acts := []) hfr happ hPc trivial
  have hq' : vx_Q Qc XC mc ms free a (U.calling g mk a) o s₂ := hq
  rw [State.frames_setTop' g h.top] at hend
  obtain ⟨g₀, hg0⟩ := Option.isSome_iff_exists.mp h.top
  obtain ⟨r, hr⟩ := State.topJava?_eq_some.mp hg0
  have hr' : (({ U with heap := s₂.heap, slotsUsed := s₂.slotsUsed } : State).setVm s₂.vm).frames = .java g₀ :: r := hr
  rcases hq' with ⟨hqc, L, hfe, hL⟩ | ⟨q, rfl, E, ce, L, hx, hce, hcv, hcl, hW₂, hsm, hL⟩
  · obtain ⟨⟨v, rfl⟩, hW₂, e2, q2, q3, q4, q5, q6⟩ := id hfe
    have e3 : s₂ = ({ (U.calling g mk a).setFrames s₂.frames with heap := s₂.heap, slotsUsed := s₂.slotsUsed } : State).setVm s₂.vm := by
      have : s₂ = ({ s₂ with vm := (U.calling g mk a).vm } : State).setVm s₂.vm := rfl
      rw [e2] at this
      exact this
    obtain ⟨c₂, i₂, len₂, hc₂, hd₂, hf₂⟩ := hend
    have hW' : U.WarmedH s₂.vm := hW₂
    have hcc : c₂ = c := by
      have h1 : s₂.code? g.method = U.code? g.method := by
        rw [State.code?_eq, State.code?_eq, hW'.alike.method?]
      exact Option.some.inj (hc₂.symm.trans (h1.trans h.code))
    subst hcc
    have hlen : len₂ = len := by rw [hdg] at hd₂; cases hd₂; rfl
    subst hlen
    have hs₂ : s₂ = (({ U with heap := s₂.heap, slotsUsed := s₂.slotsUsed } : State).setVm s₂.vm).setTop { g with pc := g.pc + len₂, stack := v.toList ++ g.stack } := by
      refine e3.trans ?_
      rw [hf₂, State.calling_eq h.top, State.setFrames_setFrames, State.setTop_of_frames _ hr', hr]
      rfl
    have hsame : U.sameButNew ({ U with heap := s₂.heap, slotsUsed := s₂.slotsUsed } : State) L mc ms := by
      refine ⟨?_, q2, q3, q4, q5, q6⟩
      obtain ⟨t, ht, -⟩ := State.frames_cons hr
      show ({ U with heap := s₂.heap, slotsUsed := s₂.slotsUsed } : State) = { U.setFrames U.frames with heap := s₂.heap, slotsUsed := s₂.slotsUsed }
      rw [State.setFrames_self ht]
    subst hg
    refine Or.inl ⟨v, ⟨(({ U with heap := s₂.heap, slotsUsed := s₂.slotsUsed } : State).setVm s₂.vm), Ls ++ L, c0 + mc, s0 + ms⟩,
      ⟨X.admits, X.cas, X.clock, X.frames, X.room, X.hears, X.method, X.code, (X.here.setHeapUsed s₂.heap s₂.slotsUsed).setVm hW'.alike, X.tail, State.WarmedH.trans X.warmed hW', X.limits, X.bytes, X.same.trans (hsame.setVm s.vm)⟩,
      ⟨g, mk, s₂, L, rfl, rfl, hqc, rfl, hL, rfl, rfl⟩, ?_⟩
    show Steps p.tables e below _ ((({ U with heap := s₂.heap, slotsUsed := s₂.slotsUsed } : State).setVm s₂.vm).setTop { g with pc := g.pc + len₂, stack := v.toList ++ g.stack })
    rw [← hs₂]
    exact hsteps
  · obtain ⟨e2, q2, q3, q4, q5, q6⟩ := id hsm
    have e3 : s₂ = ({ (U.calling g mk a).setFrames s₂.frames with heap := s₂.heap, slotsUsed := s₂.slotsUsed } : State).setVm s₂.vm := by
      have : s₂ = ({ s₂ with vm := (U.calling g mk a).vm } : State).setVm s₂.vm := rfl
      rw [e2] at this
      exact this
    have hf₂ : s₂.frames = .throwing q :: .java g :: U.frames.tail := hend
    have hW' : U.WarmedH s₂.vm := hW₂
    have hs₂ : s₂ = ((({ U with heap := s₂.heap, slotsUsed := s₂.slotsUsed } : State).setVm s₂.vm).setTop g).pushFrame (.throwing q) := by
      refine e3.trans ?_
      rw [hf₂, State.calling_eq h.top, State.setFrames_setFrames, State.pushFrame, State.frames_setTop _ hr', State.setTop_of_frames _ hr', State.setFrames_setFrames, hr]
      rfl
    have hsame : U.sameButNew ({ U with heap := s₂.heap, slotsUsed := s₂.slotsUsed } : State) L mc ms := by
      refine ⟨?_, q2, q3, q4, q5, q6⟩
      obtain ⟨t, ht, -⟩ := State.frames_cons hr
      show ({ U with heap := s₂.heap, slotsUsed := s₂.slotsUsed } : State) = { U.setFrames U.frames with heap := s₂.heap, slotsUsed := s₂.slotsUsed }
      rw [State.setFrames_self ht]
    subst hg
    refine Or.inr ⟨q, ⟨(({ U with heap := s₂.heap, slotsUsed := s₂.slotsUsed } : State).setVm s₂.vm), Ls ++ L, c0 + mc, s0 + ms⟩,
      ⟨X.admits, X.cas, X.clock, X.frames, X.room, X.hears, X.method, X.code, (X.here.setHeapUsed s₂.heap s₂.slotsUsed).setVm hW'.alike, X.tail, State.WarmedH.trans X.warmed hW', X.limits, X.bytes, X.same.trans (hsame.setVm s.vm)⟩,
      ⟨g, mk, s₂, L, E, ce, rfl, rfl, hx, hce, hcv, hcl, rfl, hL, rfl, rfl⟩, ?_⟩
    show Steps p.tables e below _ (((({ U with heap := s₂.heap, slotsUsed := s₂.slotsUsed } : State).setVm s₂.vm).setTop g).pushFrame (.throwing q))
    rw [← hs₂]
    exact hsteps
end Payer
section Calls
variable {p : Program} {l : Launch} {e : Env} {R : Room} {s : State} {m : MethodId} {args : Array Value} {below : List Frame} {meth : Method} {c : Code} {T : State} {locs : List Loc} {cells slots : Nat}
theorem vx_callV (X : Stand p l e R s m args below meth c T locs cells slots) (hexec : p.tables.exec = Jvm.exec) {own C : String} {index : Nat} {y : MethodName} {bytes : ByteArray} {maxL : Nat} {ret : Option FieldType}
    (hown : s.vm.findClass own = some m.cls) (hlink : (Cond.methodLink own index y).before args s = true) (hinst : (Cond.instanceMethod y).before args s = true) (hsel : (Cond.selects C y y).before args s = true)
    (hcode : (Cond.code y bytes maxL ret).before args s = true) (hy : y.cls ≠ "java/lang/invoke/MethodHandle" ∧ y.cls ≠ "java/lang/invoke/VarHandle")
    {W9 : Nat} {Pre : Pt → Array Value → Prop} {Post : Pt → Array Value → Option Value → Pt → Prop} {PostX : Pt → Array Value → Addr → Pt → Prop} (hK : vx_Back l R p e below s args y 3 W9 Pre Post PostX)
    {b : Addr} {cellB : Cell} (hcell : T.heap[b]? = some cellB) (hobj : cellB.vm.isStatics = false) (hcls : s.vm.findClass C = some cellB.cls)
    {g : JFrame} (hg : g.method = m) (hsize : g.locals.size = c.maxLocals) {argsL rest : List Value} (hlen : ∀ sig, parseMethodDescriptor y.desc = some sig → argsL.length = sig.parameters.length)
    (hstack : g.stack = argsL.reverse ++ .ref b :: rest) (hW : 2 * g.monitorRoom + (rest.map fun v => v.category).sum ≤ W9) (hdg : decode c.code g.pc = .ok (.invokevirtual index, 3))
    (hpre : ∀ vm₁, s.WarmedH vm₁ → Pre ⟨T.setVm vm₁, locs, cells, slots⟩ (Value.ref b :: argsL).toArray) :
    (∃ (v : Option Value) (vm₁ : Vm) (B : Pt), s.WarmedH vm₁ ∧ Stand p l e R s m args below meth c B.U B.locs B.cells B.slots ∧ Post ⟨T.setVm vm₁, locs, cells, slots⟩ (Value.ref b :: argsL).toArray v B ∧
      ∀ target, Steps p.tables e below (B.U.setTop { g with pc := g.pc + 3, stack := v.toList ++ rest }) target → Steps p.tables e below (T.setTop g) target) ∨
    (∃ (q : Addr) (vm₁ : Vm) (B : Pt), s.WarmedH vm₁ ∧ Stand p l e R s m args below meth c B.U B.locs B.cells B.slots ∧ PostX ⟨T.setVm vm₁, locs, cells, slots⟩ (Value.ref b :: argsL).toArray q B ∧
      Steps p.tables e below (T.setTop g) ((B.U.setTop { g with stack := rest }).pushFrame (.throwing q))) := by
  obtain ⟨mk, methM, hnamed, hmethM, hstM, habM⟩ := Cond.instanceMethod_spec hinst
  obtain ⟨methM', cM, hmethM', -, -, -, -, -, -, hsigM⟩ := Cond.code_spec hnamed hcode
  cases hmethM.symm.trans hmethM'
  obtain ⟨c2, r2, m2, q1, q2, q3, q4, kP, hkP, hkPi⟩ := Cond.selects_spec hsel
  cases hcls.symm.trans q1
  cases (State.methodFound?_of_named hnamed hy).symm.trans q2
  cases hnamed.symm.trans q3
  have hselP : selectMethod e.platform s.vm cellB.cls mk = .method mk := by rw [Launch.admits_selectMethod X.admits]; exact q4
  obtain ⟨vm₁, X₁, hstep₁⟩ := X.invokevirtual hexec hown hlink hnamed hmethM hstM hkP hkPi hy (a := b) (cell := cellB) hcell
    (fun z h => by rw [h] at hobj; cases hobj) hselP hmethM habM hkP hkPi (g := g) hg (argsL := argsL) (rest := rest) (hlen _ hsigM) hstack hdg
  rcases hK m meth c ⟨T.setVm vm₁, locs, cells, slots⟩ { g with stack := rest } (.invokevirtual index) mk (Value.ref b :: argsL).toArray X₁ hg hsize hdg hW (X₁.named hnamed) (hpre vm₁ X₁.warmed) with ⟨v, B, X', hpost, hsteps⟩ | ⟨q, B, X', hpost, hsteps⟩
  · exact Or.inl ⟨v, vm₁, B, X₁.warmed, X', hpost, fun target h => hstep₁ _ fun acts => by rw [doInvoke_state]; exact hsteps.trans h⟩
  · exact Or.inr ⟨q, vm₁, B, X₁.warmed, X', hpost, hstep₁ _ fun acts => by rw [doInvoke_state]; exact hsteps⟩
theorem vx_callS (X : Stand p l e R s m args below meth c T locs cells slots) (hexec : p.tables.exec = Jvm.exec) {own : String} {index : Nat} {y : MethodName} {bytes : ByteArray} {maxL : Nat} {ret : Option FieldType}
    (hown : s.vm.findClass own = some m.cls) (hlink : (Cond.methodLink own index y).before args s = true) (hstat : (Cond.static y).before args s = true) (hinit : (Cond.initialized y.cls).before args s = true)
    (hcode : (Cond.code y bytes maxL ret).before args s = true) (hy : y.cls ≠ "java/lang/invoke/MethodHandle" ∧ y.cls ≠ "java/lang/invoke/VarHandle")
    {W9 : Nat} {Pre : Pt → Array Value → Prop} {Post : Pt → Array Value → Option Value → Pt → Prop} {PostX : Pt → Array Value → Addr → Pt → Prop} (hK : vx_Back l R p e below s args y 3 W9 Pre Post PostX)
    {g : JFrame} (hg : g.method = m) (hsize : g.locals.size = c.maxLocals) {argsL rest : List Value} (hlen : ∀ sig, parseMethodDescriptor y.desc = some sig → argsL.length = sig.parameters.length)
    (hstack : g.stack = argsL.reverse ++ rest) (hW : 2 * g.monitorRoom + (rest.map fun v => v.category).sum ≤ W9) (hdg : decode c.code g.pc = .ok (.invokestatic index, 3))
    (hpre : ∀ vm₁, s.WarmedH vm₁ → Pre ⟨T.setVm vm₁, locs, cells, slots⟩ argsL.toArray) :
    (∃ (v : Option Value) (vm₁ : Vm) (B : Pt), s.WarmedH vm₁ ∧ Stand p l e R s m args below meth c B.U B.locs B.cells B.slots ∧ Post ⟨T.setVm vm₁, locs, cells, slots⟩ argsL.toArray v B ∧
      ∀ target, Steps p.tables e below (B.U.setTop { g with pc := g.pc + 3, stack := v.toList ++ rest }) target → Steps p.tables e below (T.setTop g) target) ∨
    (∃ (q : Addr) (vm₁ : Vm) (B : Pt), s.WarmedH vm₁ ∧ Stand p l e R s m args below meth c B.U B.locs B.cells B.slots ∧ PostX ⟨T.setVm vm₁, locs, cells, slots⟩ argsL.toArray q B ∧
      Steps p.tables e below (T.setTop g) ((B.U.setTop { g with stack := rest }).pushFrame (.throwing q))) := by
  obtain ⟨mk, hnamed⟩ := Cond.code_named hcode
  obtain ⟨methM, cM, hmethM, -, -, -, -, -, -, hsigM⟩ := Cond.code_spec hnamed hcode
  have hstatic : methM.isStatic = true := Cond.static_spec hnamed hmethM hstat
  obtain ⟨kP, hkP, -⟩ := className_of_methodNamed hnamed
  have hinitP : kP.init = .initialized := Cond.initialized_spec (findClass_of_methodNamed hnamed) hkP hinit
  obtain ⟨vm₁, X₁, hstep₁⟩ := X.invokestatic hexec hown hlink hnamed hmethM hstatic hkP hinitP hy (g := g) hg (argsL := argsL) (rest := rest) (hlen _ hsigM) hstack hdg
  rcases hK m meth c ⟨T.setVm vm₁, locs, cells, slots⟩ { g with stack := rest } (.invokestatic index) mk argsL.toArray X₁ hg hsize hdg hW (X₁.named hnamed) (hpre vm₁ X₁.warmed) with ⟨v, B, X', hpost, hsteps⟩ | ⟨q, B, X', hpost, hsteps⟩
  · exact Or.inl ⟨v, vm₁, B, X₁.warmed, X', hpost, fun target h => hstep₁ _ fun acts => by rw [doInvoke_state]; exact hsteps.trans h⟩
  · exact Or.inr ⟨q, vm₁, B, X₁.warmed, X', hpost, hstep₁ _ fun acts => by rw [doInvoke_state]; exact hsteps⟩
end Calls
theorem vx_cls {s : State} {T : State} {vm₁ : Vm} {E : String} {k : ClassId} (hW : s.WarmedH vm₁) (h : (T.setVm vm₁).vm.findClass E = some k) : s.vm.findClass E = some k := by
  have h1 : vm₁.findClass E = some k := h
  rw [hW.alike.findClass] at h1
  exact h1
/-- the method's frame g, with q thrown over it -/
def vx_W (p : Program) (l : Launch) (e : Env) (R : Room) (s : State) (m : MethodId) (args : Array Value) (below : List Frame) (meth : Method) (c : Code) (H : Heap) (locs : List Loc) (cells slots : Nat) (Q : State → Prop) (g : JFrame) (q : Addr) : Prop :=
  ∀ T : State, T.heap = H → Stand p l e R s m args below meth c T locs cells slots → ∃ t, Steps p.tables e below ((T.setTop g).pushFrame (.throwing q)) t ∧ Q t
def vx_Run (p : Program) (l : Launch) (e : Env) (R : Room) (s : State) (m : MethodId) (args : Array Value) (below : List Frame) (meth : Method) (c : Code) (H : Heap) (locs : List Loc) (cells slots mc ms : Nat) (g : JFrame) (rest : List Value) (Qa : State → Outcome → State → Prop) (XC : String → State → State → Prop) (free : Addr → Prop) : Prop :=
  ∀ T : State, T.heap = H → Stand p l e R s m args below meth c T locs cells slots →
    (∃ (v : Option Value) (st₀ t T' : State) (L : List Loc), st₀.heap = H ∧ Stand p l e R s m args below meth c T' (locs ++ L) (cells + mc) (slots + ms) ∧ (∀ q ∈ L, free q.base) ∧ T'.heap = t.heap ∧ T'.vm = t.vm ∧ Qa st₀ (.returned v) t ∧
      Goes p e below T g T' { g with pc := g.pc + 3, stack := v.toList ++ rest }) ∨
    (∃ (q : Addr) (st₀ t T' : State) (L : List Loc) (E : String) (ce : Cell), st₀.heap = H ∧ Stand p l e R s m args below meth c T' (locs ++ L) (cells + mc) (slots + ms) ∧ (∀ z ∈ L, free z.base) ∧ T'.heap = t.heap ∧ T'.vm = t.vm ∧ XC E st₀ t ∧ t.heap[q]? = some ce ∧ ce.vm = .none ∧ s.vm.findClass E = some ce.cls ∧
      Steps p.tables e below (T.setTop g) ((T'.setTop { g with stack := rest }).pushFrame (.throwing q)))
def vx_X {S : Type} (px : S → Prop) (B : String → S → State → Prop) (A : Nat → Prop) : String → State → State → Prop := fun E st t => ∃ u : S, px u ∧ B E u t ∧ va_F A st t
section Runs
variable {p : Program} {l : Launch} {e : Env} {R : Room} {s : State} {m : MethodId} {args : Array Value} {below : List Frame} {meth : Method} {c : Code} {H : Heap} {locs : List Loc} {cells slots : Nat}
variable {y : MethodName} {bytes cc : ByteArray} {maxL nL mc ms n index : Nat} {ret : Option FieldType} {ws : List Cond} {rm : Room} {Pc : Array Value → State → Prop} {Qc : Array Value → State → Outcome → State → Prop} {XC : String → State → State → Prop} {free : Addr → Prop} {Ts : List Cond} {own C : String} {b : Addr} {As rest : List Value} {g : JFrame}
theorem vx_callBack (cb : CallB R s args own index y bytes maxL ret ws rm mc ms n) (hM : vx_Met l y ws rm Pc Qc XC mc ms free) (hbl : FrameBlind Pc) : vx_Back l R p e below s args y 3 8 (PreOf R mc ms Pc) (PostOf Qc mc ms free) (vx_Post XC mc ms free) := by
  obtain ⟨hrc, hrs, hfr, hlo, hws, hcw, -, hini, -⟩ := cb
  exact vx_back (bytes := bytes) (maxL := maxL) (ret := ret) hM hbl hrc hrs hfr hlo hws hcw (fun a' U hW => word_at hW (Or.inl (by first | rfl | simp [Cond.onTables, Cond.keeps, Cond.steady])) hini)
theorem vx_runV (S : CallFix p m c cc nL s args Ts own) (hM : vx_Met l y ws rm Pc Qc XC mc ms free) (cw : CallW R s args own C index y bytes maxL ret ws rm mc ms n) (hp : PreV s H C b Pc As)
    (hg : g.method = m) (hn : As.length = n) (hsize : g.locals.size = nL) (hstack : g.stack = As.reverse ++ .ref b :: rest) (hW : 2 * g.monitorRoom + (rest.map fun v => v.category).sum ≤ 8) (hdg : decode cc g.pc = .ok (.invokevirtual index, 3)) (hf : cells + mc ≤ R.cells ∧ slots + ms ≤ R.slots) :
    vx_Run p l e R s m args below meth c H locs cells slots mc ms g rest (Qc (Value.ref b :: As).toArray) XC free := by
  have hK : vx_Back l R p e below s args y 3 8 (PreOf R mc ms Pc) (PostOf Qc mc ms free) (vx_Post XC mc ms free) := vx_callBack cw.1 hM hp.1
  obtain ⟨⟨-, -, -, -, -, -, hcode, -, hy, hlen, hl⟩, hin, hse⟩ := cw
  obtain ⟨hx, hb, hml, ho, -⟩ := S
  obtain ⟨-, ⟨cellB, hcB, hoB, hclB⟩, hPc⟩ := hp
  intro T hT X
  rcases vx_callV X hx (C := C) (bytes := bytes) (maxL := maxL) (ret := ret) ho hl hin hse hcode hy hK (by rw [hT]; exact hcB) hoB hclB hg (hsize.trans hml.symm) (argsL := As) (rest := rest) (fun sig h => hn.trans (hlen sig h)) hstack hW (by rw [hb]; exact hdg)
    (fun vm₁ hW₁ => ⟨hf.1, hf.2, hPc (T.setVm vm₁) hT hW₁⟩) with ⟨v, vm₁, ⟨U', l2, c2, s2⟩, hW₁, X', ⟨g', mk, t, L, e1, e2, hq, h1, hL, h2, h3⟩, st⟩ | ⟨q, vm₁, ⟨U', l2, c2, s2⟩, hW₁, X', ⟨g', mk, t, L, E, ce, e1, e2, hq, hce, hcv, hcl, h1, hL, h2, h3⟩, st⟩
  · dsimp only [Pt.U, Pt.locs, Pt.cells, Pt.slots] at X' e1 e2 h1 h2 h3 st
    subst h1; subst h2; subst h3
    exact Or.inl ⟨v, (T.setVm vm₁).calling g' mk (Value.ref b :: As).toArray, t, U', L, hT, X', hL, e1, e2, hq, st⟩
  · dsimp only [Pt.U, Pt.locs, Pt.cells, Pt.slots] at X' e1 e2 h1 h2 h3 st hcl
    subst h1; subst h2; subst h3
    exact Or.inr ⟨q, (T.setVm vm₁).calling g' mk (Value.ref b :: As).toArray, t, U', L, E, ce, hT, X', hL, e1, e2, hq, hce, hcv, vx_cls hW₁ hcl, st⟩
theorem vx_runS (S : CallFix p m c cc nL s args Ts own) (hM : vx_Met l y ws rm Pc Qc XC mc ms free) (cw : CallB R s args own index y bytes maxL ret ws rm mc ms n ∧ (Cond.static y).before args s = true) (hp : PreS s H Pc As)
    (hg : g.method = m) (hn : As.length = n) (hsize : g.locals.size = nL) (hstack : g.stack = As.reverse ++ rest) (hW : 2 * g.monitorRoom + (rest.map fun v => v.category).sum ≤ 8) (hdg : decode cc g.pc = .ok (.invokestatic index, 3)) (hf : cells + mc ≤ R.cells ∧ slots + ms ≤ R.slots) :
    vx_Run p l e R s m args below meth c H locs cells slots mc ms g rest (Qc As.toArray) XC free := by
  have hK : vx_Back l R p e below s args y 3 8 (PreOf R mc ms Pc) (PostOf Qc mc ms free) (vx_Post XC mc ms free) := vx_callBack cw.1 hM hp.1
  obtain ⟨⟨-, -, -, -, -, -, hcode, hini, hy, hlen, hl⟩, hstt⟩ := cw
  obtain ⟨hx, hb, hml, ho, -⟩ := S
  intro T hT X
  rcases vx_callS X hx (bytes := bytes) (maxL := maxL) (ret := ret) ho hl hstt hini hcode hy hK hg (hsize.trans hml.symm) (argsL := As) (rest := rest) (fun sig h => hn.trans (hlen sig h)) hstack hW (by rw [hb]; exact hdg)
    (fun vm₁ hW₁ => ⟨hf.1, hf.2, hp.2 (T.setVm vm₁) hT hW₁⟩) with ⟨v, vm₁, ⟨U', l2, c2, s2⟩, hW₁, X', ⟨g', mk, t, L, e1, e2, hq, h1, hL, h2, h3⟩, st⟩ | ⟨q, vm₁, ⟨U', l2, c2, s2⟩, hW₁, X', ⟨g', mk, t, L, E, ce, e1, e2, hq, hce, hcv, hcl, h1, hL, h2, h3⟩, st⟩
  · dsimp only [Pt.U, Pt.locs, Pt.cells, Pt.slots] at X' e1 e2 h1 h2 h3 st
    subst h1; subst h2; subst h3
    exact Or.inl ⟨v, (T.setVm vm₁).calling g' mk As.toArray, t, U', L, hT, X', hL, e1, e2, hq, st⟩
  · dsimp only [Pt.U, Pt.locs, Pt.cells, Pt.slots] at X' e1 e2 h1 h2 h3 st hcl
    subst h1; subst h2; subst h3
    exact Or.inr ⟨q, (T.setVm vm₁).calling g' mk As.toArray, t, U', L, E, ce, hT, X', hL, e1, e2, hq, hce, hcv, vx_cls hW₁ hcl, st⟩
end Runs
section Rows
variable {p : Program} {l : Launch} {e : Env} {R : Room} {s : State} {m : MethodId} {args : Array Value} {below : List Frame} {meth : Method} {c : Code} {H : Heap} {locs : List Loc} {cells slots : Nat} {Q : State → Prop}
variable {mc ms : Nat} {free : Addr → Prop} {A0 A1 : Nat → Prop} {H0 : Heap} {a : Array Value} {pc : Nat} {ls : Array Slot} {st0 rest : List Value}
theorem vx_keep {st₀ t T' : State} {L : List Loc} (h0 : st₀.heap = H) (e1 : T'.heap = t.heap) (hS : va_S A0 H0 H locs) (hA : ∀ q, q < H.size → A1 q → A0 q) (hf : ∀ q, free q → A0 q) (hL : ∀ q ∈ L, free q.base) (hF : va_F A1 st₀ t) :
    H.size ≤ T'.heap.size ∧ (∀ q : Nat, q < H.size → ¬ A1 q → T'.heap[q]? = H[q]?) ∧ va_S A0 H0 T'.heap (locs ++ L) := by
  obtain ⟨hz, hk⟩ := hF
  rw [h0] at hz hk
  exact ⟨by rw [e1]; exact hz, fun q h1 h2 => by rw [e1]; exact hk q h1 h2,
    ⟨Nat.le_trans hS.1 (by rw [e1]; exact hz), fun q h1 h2 => by rw [e1, hk q (Nat.lt_of_lt_of_le h1 hS.1) (fun z => h2 (hA q (Nat.lt_of_lt_of_le h1 hS.1) z))]; exact hS.2.1 q h1 h2, fun q hq => by
      rcases List.mem_append.mp hq with h | h
      · exact hS.2.2 q h
      · exact hf _ (hL q h)⟩⟩
theorem vx_calli {S SX : Type} {post : Int32 → S → Prop} {px : SX → Prop} {B : S → State → Prop} {BX : String → SX → State → Prop} {AX : Nat → Prop} (hr : vx_Run p l e R s m args below meth c H locs cells slots mc ms (F0 m pc ls st0) rest (va_Qi post B A1 a) (vx_X px BX AX) free) (hS : va_S A0 H0 H locs) (hA : ∀ q, q < H.size → A1 q → A0 q) (hf : ∀ q, free q → A0 q) (hAX : ∀ q, q < H.size → AX q → A0 q)
    (kx : ∀ (E : String) (ce : Cell) (q9 : Addr) (u : SX) (t : State) (H1 : Heap) (locs1 : List Loc), t.heap = H1 → s.vm.Alike t.vm → px u → BX E u t → H.size ≤ H1.size → (∀ q : Nat, q < H.size → ¬ AX q → H1[q]? = H[q]?) → va_S A0 H0 H1 locs1 → H1[q9]? = some ce → ce.vm = .none → s.vm.findClass E = some ce.cls → vx_W p l e R s m args below meth c H1 locs1 (cells + mc) (slots + ms) Q (F0 m pc ls rest) q9)
    (kk : ∀ (r : Int32) (u : S) (t : State) (H1 : Heap) (locs1 : List Loc), t.heap = H1 → s.vm.Alike t.vm → post r u → B u t → H.size ≤ H1.size → (∀ q : Nat, q < H.size → ¬ A1 q → H1[q]? = H[q]?) → va_S A0 H0 H1 locs1 → W p l e R s m args below meth c H1 locs1 (cells + mc) (slots + ms) Q (F0 m (pc + 3) ls (.int r :: rest))) : W p l e R s m args below meth c H locs cells slots Q (F0 m pc ls st0) := by
  intro T hT X
  rcases hr T hT X with ⟨v, st₀, t, T', L, h0, X', hL, e1, e2, ⟨⟨r, u, hv, hp, hb⟩, hF⟩, st⟩ | ⟨q, st₀, t, T', L, E, ce, h0, X', hL, e1, e2, ⟨u, hp, hb, hF⟩, hce, hcv, hcl, st⟩
  · cases hv
    obtain ⟨k1, k2, k3⟩ := vx_keep h0 e1 hS hA hf hL hF
    obtain ⟨t2, a1, b1⟩ := kk r u t T'.heap (locs ++ L) e1.symm (by rw [← e2]; exact X'.warmed.alike) hp hb k1 k2 k3 T' rfl X'
    exact ⟨t2, st t2 a1, b1⟩
  · obtain ⟨k1, k2, k3⟩ := vx_keep h0 e1 hS hAX hf hL hF
    obtain ⟨t2, a1, b1⟩ := kx E ce q u t T'.heap (locs ++ L) e1.symm (by rw [← e2]; exact X'.warmed.alike) hp hb k1 k2 k3 (by rw [e1]; exact hce) hcv hcl T' rfl X'
    exact ⟨t2, st.trans a1, b1⟩
theorem vx_calll {S SX : Type} {post : Int64 → S → Prop} {px : SX → Prop} {B : S → State → Prop} {BX : String → SX → State → Prop} {AX : Nat → Prop} (hr : vx_Run p l e R s m args below meth c H locs cells slots mc ms (F0 m pc ls st0) rest (va_Ql post B A1 a) (vx_X px BX AX) free) (hS : va_S A0 H0 H locs) (hA : ∀ q, q < H.size → A1 q → A0 q) (hf : ∀ q, free q → A0 q) (hAX : ∀ q, q < H.size → AX q → A0 q)
    (kx : ∀ (E : String) (ce : Cell) (q9 : Addr) (u : SX) (t : State) (H1 : Heap) (locs1 : List Loc), t.heap = H1 → s.vm.Alike t.vm → px u → BX E u t → H.size ≤ H1.size → (∀ q : Nat, q < H.size → ¬ AX q → H1[q]? = H[q]?) → va_S A0 H0 H1 locs1 → H1[q9]? = some ce → ce.vm = .none → s.vm.findClass E = some ce.cls → vx_W p l e R s m args below meth c H1 locs1 (cells + mc) (slots + ms) Q (F0 m pc ls rest) q9)
    (kk : ∀ (r : Int64) (u : S) (t : State) (H1 : Heap) (locs1 : List Loc), t.heap = H1 → s.vm.Alike t.vm → post r u → B u t → H.size ≤ H1.size → (∀ q : Nat, q < H.size → ¬ A1 q → H1[q]? = H[q]?) → va_S A0 H0 H1 locs1 → W p l e R s m args below meth c H1 locs1 (cells + mc) (slots + ms) Q (F0 m (pc + 3) ls (.long r :: rest))) : W p l e R s m args below meth c H locs cells slots Q (F0 m pc ls st0) := by
  intro T hT X
  rcases hr T hT X with ⟨v, st₀, t, T', L, h0, X', hL, e1, e2, ⟨⟨r, u, hv, hp, hb⟩, hF⟩, st⟩ | ⟨q, st₀, t, T', L, E, ce, h0, X', hL, e1, e2, ⟨u, hp, hb, hF⟩, hce, hcv, hcl, st⟩
  · cases hv
    obtain ⟨k1, k2, k3⟩ := vx_keep h0 e1 hS hA hf hL hF
    obtain ⟨t2, a1, b1⟩ := kk r u t T'.heap (locs ++ L) e1.symm (by rw [← e2]; exact X'.warmed.alike) hp hb k1 k2 k3 T' rfl X'
    exact ⟨t2, st t2 a1, b1⟩
  · obtain ⟨k1, k2, k3⟩ := vx_keep h0 e1 hS hAX hf hL hF
    obtain ⟨t2, a1, b1⟩ := kx E ce q u t T'.heap (locs ++ L) e1.symm (by rw [← e2]; exact X'.warmed.alike) hp hb k1 k2 k3 (by rw [e1]; exact hce) hcv hcl T' rfl X'
    exact ⟨t2, st.trans a1, b1⟩
theorem vx_callf {S SX : Type} {post : UInt32 → S → Prop} {px : SX → Prop} {B : S → State → Prop} {BX : String → SX → State → Prop} {AX : Nat → Prop} (hr : vx_Run p l e R s m args below meth c H locs cells slots mc ms (F0 m pc ls st0) rest (va_Qf post B A1 a) (vx_X px BX AX) free) (hS : va_S A0 H0 H locs) (hA : ∀ q, q < H.size → A1 q → A0 q) (hf : ∀ q, free q → A0 q) (hAX : ∀ q, q < H.size → AX q → A0 q)
    (kx : ∀ (E : String) (ce : Cell) (q9 : Addr) (u : SX) (t : State) (H1 : Heap) (locs1 : List Loc), t.heap = H1 → s.vm.Alike t.vm → px u → BX E u t → H.size ≤ H1.size → (∀ q : Nat, q < H.size → ¬ AX q → H1[q]? = H[q]?) → va_S A0 H0 H1 locs1 → H1[q9]? = some ce → ce.vm = .none → s.vm.findClass E = some ce.cls → vx_W p l e R s m args below meth c H1 locs1 (cells + mc) (slots + ms) Q (F0 m pc ls rest) q9)
    (kk : ∀ (r : UInt32) (u : S) (t : State) (H1 : Heap) (locs1 : List Loc), t.heap = H1 → s.vm.Alike t.vm → post r u → B u t → H.size ≤ H1.size → (∀ q : Nat, q < H.size → ¬ A1 q → H1[q]? = H[q]?) → va_S A0 H0 H1 locs1 → W p l e R s m args below meth c H1 locs1 (cells + mc) (slots + ms) Q (F0 m (pc + 3) ls (.float r :: rest))) : W p l e R s m args below meth c H locs cells slots Q (F0 m pc ls st0) := by
  intro T hT X
  rcases hr T hT X with ⟨v, st₀, t, T', L, h0, X', hL, e1, e2, ⟨⟨r, u, hv, hp, hb⟩, hF⟩, st⟩ | ⟨q, st₀, t, T', L, E, ce, h0, X', hL, e1, e2, ⟨u, hp, hb, hF⟩, hce, hcv, hcl, st⟩
  · cases hv
    obtain ⟨k1, k2, k3⟩ := vx_keep h0 e1 hS hA hf hL hF
    obtain ⟨t2, a1, b1⟩ := kk r u t T'.heap (locs ++ L) e1.symm (by rw [← e2]; exact X'.warmed.alike) hp hb k1 k2 k3 T' rfl X'
    exact ⟨t2, st t2 a1, b1⟩
  · obtain ⟨k1, k2, k3⟩ := vx_keep h0 e1 hS hAX hf hL hF
    obtain ⟨t2, a1, b1⟩ := kx E ce q u t T'.heap (locs ++ L) e1.symm (by rw [← e2]; exact X'.warmed.alike) hp hb k1 k2 k3 (by rw [e1]; exact hce) hcv hcl T' rfl X'
    exact ⟨t2, st.trans a1, b1⟩
theorem vx_calld {S SX : Type} {post : UInt64 → S → Prop} {px : SX → Prop} {B : S → State → Prop} {BX : String → SX → State → Prop} {AX : Nat → Prop} (hr : vx_Run p l e R s m args below meth c H locs cells slots mc ms (F0 m pc ls st0) rest (va_Qd post B A1 a) (vx_X px BX AX) free) (hS : va_S A0 H0 H locs) (hA : ∀ q, q < H.size → A1 q → A0 q) (hf : ∀ q, free q → A0 q) (hAX : ∀ q, q < H.size → AX q → A0 q)
    (kx : ∀ (E : String) (ce : Cell) (q9 : Addr) (u : SX) (t : State) (H1 : Heap) (locs1 : List Loc), t.heap = H1 → s.vm.Alike t.vm → px u → BX E u t → H.size ≤ H1.size → (∀ q : Nat, q < H.size → ¬ AX q → H1[q]? = H[q]?) → va_S A0 H0 H1 locs1 → H1[q9]? = some ce → ce.vm = .none → s.vm.findClass E = some ce.cls → vx_W p l e R s m args below meth c H1 locs1 (cells + mc) (slots + ms) Q (F0 m pc ls rest) q9)
    (kk : ∀ (r : UInt64) (u : S) (t : State) (H1 : Heap) (locs1 : List Loc), t.heap = H1 → s.vm.Alike t.vm → post r u → B u t → H.size ≤ H1.size → (∀ q : Nat, q < H.size → ¬ A1 q → H1[q]? = H[q]?) → va_S A0 H0 H1 locs1 → W p l e R s m args below meth c H1 locs1 (cells + mc) (slots + ms) Q (F0 m (pc + 3) ls (.double r :: rest))) : W p l e R s m args below meth c H locs cells slots Q (F0 m pc ls st0) := by
  intro T hT X
  rcases hr T hT X with ⟨v, st₀, t, T', L, h0, X', hL, e1, e2, ⟨⟨r, u, hv, hp, hb⟩, hF⟩, st⟩ | ⟨q, st₀, t, T', L, E, ce, h0, X', hL, e1, e2, ⟨u, hp, hb, hF⟩, hce, hcv, hcl, st⟩
  · cases hv
    obtain ⟨k1, k2, k3⟩ := vx_keep h0 e1 hS hA hf hL hF
    obtain ⟨t2, a1, b1⟩ := kk r u t T'.heap (locs ++ L) e1.symm (by rw [← e2]; exact X'.warmed.alike) hp hb k1 k2 k3 T' rfl X'
    exact ⟨t2, st t2 a1, b1⟩
  · obtain ⟨k1, k2, k3⟩ := vx_keep h0 e1 hS hAX hf hL hF
    obtain ⟨t2, a1, b1⟩ := kx E ce q u t T'.heap (locs ++ L) e1.symm (by rw [← e2]; exact X'.warmed.alike) hp hb k1 k2 k3 (by rw [e1]; exact hce) hcv hcl T' rfl X'
    exact ⟨t2, st.trans a1, b1⟩
theorem vx_callv {S SX : Type} {post : S → Prop} {px : SX → Prop} {B : S → State → Prop} {BX : String → SX → State → Prop} {AX : Nat → Prop} (hr : vx_Run p l e R s m args below meth c H locs cells slots mc ms (F0 m pc ls st0) rest (va_Qv post B A1 a) (vx_X px BX AX) free) (hS : va_S A0 H0 H locs) (hA : ∀ q, q < H.size → A1 q → A0 q) (hf : ∀ q, free q → A0 q) (hAX : ∀ q, q < H.size → AX q → A0 q)
    (kx : ∀ (E : String) (ce : Cell) (q9 : Addr) (u : SX) (t : State) (H1 : Heap) (locs1 : List Loc), t.heap = H1 → s.vm.Alike t.vm → px u → BX E u t → H.size ≤ H1.size → (∀ q : Nat, q < H.size → ¬ AX q → H1[q]? = H[q]?) → va_S A0 H0 H1 locs1 → H1[q9]? = some ce → ce.vm = .none → s.vm.findClass E = some ce.cls → vx_W p l e R s m args below meth c H1 locs1 (cells + mc) (slots + ms) Q (F0 m pc ls rest) q9)
    (kk : ∀ (u : S) (t : State) (H1 : Heap) (locs1 : List Loc), t.heap = H1 → s.vm.Alike t.vm → post u → B u t → H.size ≤ H1.size → (∀ q : Nat, q < H.size → ¬ A1 q → H1[q]? = H[q]?) → va_S A0 H0 H1 locs1 → W p l e R s m args below meth c H1 locs1 (cells + mc) (slots + ms) Q (F0 m (pc + 3) ls (rest))) : W p l e R s m args below meth c H locs cells slots Q (F0 m pc ls st0) := by
  intro T hT X
  rcases hr T hT X with ⟨v, st₀, t, T', L, h0, X', hL, e1, e2, ⟨⟨u, hv, hp, hb⟩, hF⟩, st⟩ | ⟨q, st₀, t, T', L, E, ce, h0, X', hL, e1, e2, ⟨u, hp, hb, hF⟩, hce, hcv, hcl, st⟩
  · cases hv
    obtain ⟨k1, k2, k3⟩ := vx_keep h0 e1 hS hA hf hL hF
    obtain ⟨t2, a1, b1⟩ := kk u t T'.heap (locs ++ L) e1.symm (by rw [← e2]; exact X'.warmed.alike) hp hb k1 k2 k3 T' rfl X'
    exact ⟨t2, st t2 a1, b1⟩
  · obtain ⟨k1, k2, k3⟩ := vx_keep h0 e1 hS hAX hf hL hF
    obtain ⟨t2, a1, b1⟩ := kx E ce q u t T'.heap (locs ++ L) e1.symm (by rw [← e2]; exact X'.warmed.alike) hp hb k1 k2 k3 (by rw [e1]; exact hce) hcv hcl T' rfl X'
    exact ⟨t2, st.trans a1, b1⟩
/-- caught by the row x of this method's table; the rows ahead don't take it -/
theorem vx_catch {own name : String} {E : String} {ce : Cell} {q : Addr} (hown : s.vm.findClass own = some m.cls) (pre : List ExceptionTableEntry) (x : ExceptionTableEntry) (suf : List ExceptionTableEntry) (hsplit : c.exceptionTable.toList = pre ++ x :: suf)
    (hpass : ∀ z ∈ pre, covers z pc = false ∨ (z.catchType ≠ 0 ∧ ∃ nm : String, (Cond.classLink own z.catchType nm).before args s = true ∧ va_Nc E nm s)) (hx : covers x pc = true) (h0 : x.catchType ≠ 0)
    (hlink : (Cond.classLink own x.catchType name).before args s = true) (hcast : (Cond.castable E name).before args s = true) (hcell : H[q]? = some ce) (hv : ce.vm = .none) (hcl : s.vm.findClass E = some ce.cls)
    (kk : W p l e R s m args below meth c H locs cells slots Q (F0 m x.handlerPc ls [.ref q])) : vx_W p l e R s m args below meth c H locs cells slots Q (F0 m pc ls rest) q := by
  intro T hT X
  have hpl : e.platform.magicAccessors = ({} : Platform).magicAccessors := by rw [X.admits.platform]
  obtain ⟨c3, c4, hc3, hc4, hasg⟩ := Cond.castable_spec hcast
  cases Option.some.inj (hc3.symm.trans hcl)
  obtain ⟨c5, hc5, hcl5⟩ := Cond.classLink_spec hown hlink e.platform hpl
  cases Option.some.inj (hc4.symm.trans hc5)
  obtain ⟨vm', X', st⟩ := X.thenCaughtThrough q (g := F0 m pc ls rest) rfl (Steps.refl _) (by rw [hT]; exact hcell) (by rw [hv]; rfl) (by obtain ⟨k9, h9, -⟩ := Vm.findClass_spec hcl; exact ⟨k9, h9⟩) pre x suf hsplit
    (fun z hz => by
      rcases hpass z hz with h | ⟨hz0, nm, hl1, hn1⟩
      · exact Or.inl h
      · obtain ⟨c6, hc6, hcl6⟩ := Cond.classLink_spec hown hl1 e.platform hpl
        obtain ⟨a8, b8, h1, h2, h3⟩ := hn1
        cases Option.some.inj (h1.symm.trans hcl)
        cases Option.some.inj (h2.symm.trans hc6)
        exact Or.inr ⟨hz0, _, hcl6, h3⟩) hx (Or.inr ⟨h0, c4, hcl5, hasg⟩)
  obtain ⟨t, a1, b1⟩ := kk (T.setVm vm') hT X'
  exact ⟨t, st.trans a1, b1⟩
end Rows
section Ends
variable {p : Program} {l : Launch} {e : Env} {R : Room} {s : State} {m : MethodId} {args : Array Value} {below : List Frame} {meth : Method} {c : Code} {H : Heap} {locs : List Loc} {cells slots : Nat} {Q : State → Prop}
variable {mc ms : Nat} {free : Addr → Prop} {A0 A1 : Nat → Prop} {H0 : Heap} {a : Array Value} {ls : Array Slot} {st0 rest : List Value}
variable {Qc : Array Value → State → Outcome → State → Prop} {XC : String → State → State → Prop}
/-- what a body that may throw owes at its end -/
def vx_MQ (below : List Frame) (Qc : Array Value → State → Outcome → State → Prop) (XC : String → State → State → Prop) (a : Array Value) (s : State) (mc ms : Nat) (free : Addr → Prop) : State → Prop := fun t =>
  ∃ o, t.status = .running ∧ Ended t below o ∧ vx_Q Qc XC mc ms free a s o t
theorem vx_ret {g : JFrame} {mc ms : Nat} (k : W p l e R s m args below meth c H locs cells slots (MQ below Qc args s mc ms free) g) : W p l e R s m args below meth c H locs cells slots (vx_MQ below Qc XC args s mc ms free) g := by
  intro T hT X
  obtain ⟨t, a1, o, b1, b2, b3, b4⟩ := k T hT X
  exact ⟨t, a1, o, b1, b2, Or.inl ⟨b3, b4⟩⟩
/-- not caught here: it goes on to the caller -/
theorem vx_widen {g : JFrame} {q : Addr} {k n : Nat} (h1 : cells ≤ k) (h2 : slots ≤ n) (kk : vx_W p l e R s m args below meth c H locs k n Q g q) : vx_W p l e R s m args below meth c H locs cells slots Q g q := fun T hT X => kk T hT (stand_widen X h1 h2)
theorem vx_out {pc : Nat} {E : String} {ce : Cell} {q : Addr} {mc ms : Nat} (hout : ∀ x ∈ c.exceptionTable.toList, covers x pc = false) (hlocks : meth.locks = false) (hcell : H[q]? = some ce) (hv : ce.vm = .none) (hcl : s.vm.findClass E = some ce.cls)
    (hx : ∀ t : State, t.heap = H → s.vm.Alike t.vm → XC E s t) (hf : ∀ z ∈ locs, free z.base) (hc : cells ≤ mc) (hs : slots ≤ ms) :
    vx_W p l e R s m args below meth c H locs cells slots (vx_MQ below Qc XC args s mc ms free) (F0 m pc ls rest) q := by
  intro T hT X
  obtain ⟨st1, hrun, hend, hW, hsm⟩ := X.leaveThrown q (g := F0 m pc ls rest) rfl rfl rfl hout hlocks
  have hcell9 : (T.setFrames (.throwing q :: below)).heap[q]? = some ce := by
    show T.heap[q]? = some ce
    rw [hT]; exact hcell
  exact ⟨_, st1, .threw q, hrun, hend, Or.inr ⟨q, rfl, E, ce, locs, hx _ hT hW.alike, hcell9, hv, hcl, hW, hsm.mono hc hs, hf⟩⟩
theorem vx_frame {U : State} {k n : Nat} (h : s.sameButNew ({ U with vm := s.vm } : State) locs k n) : s.heap.size ≤ U.heap.size ∧ ∀ q : Nat, q < s.heap.size → (∀ z ∈ locs, z.base ≠ q) → U.heap[q]? = s.heap[q]? := by
  obtain ⟨-, h2, -, -, -, h6⟩ := h
  refine ⟨h2, fun q hq hz => ?_⟩
  obtain ⟨c9, e1, e2, e3, e4⟩ := h6 q _ (Array.getElem?_eq_getElem hq)
  have hs : c9.slots = (s.heap[q]).slots := Array.ext_getElem? fun i => e4 i fun hm => hz _ hm rfl
  have h9 : c9 = s.heap[q] := by
    rw [hs] at e2
    exact e2
  have e5 : U.heap[q]? = some c9 := e1
  rw [e5, h9, Array.getElem?_eq_getElem hq]
/-- the words of a throw but the four that speak of the heap -/
def vx_no (w : Cond) : Bool := decide (w ≠ .isRef (.static Bundle.tN "UNASSIGNED_STACK" Bundle.steD)) && decide (w ≠ .isRef (.static Bundle.tN "SUPPRESSED_SENTINEL" Bundle.listD)) && decide (w ≠ .laysStatic Bundle.tN "UNASSIGNED_STACK" Bundle.steD) && decide (w ≠ .laysStatic Bundle.tN "SUPPRESSED_SENTINEL" Bundle.listD)
def vx_at0 (own : String) (ic : Nat) (X : String) (names : List String) : List Cond := (Bundle.ownAtoms0 own ic X names).filter vx_no
def vx_atS (own : String) (ic : Nat) (X : String) (names : List String) : List Cond := (Bundle.ownAtoms own ic X names).filter vx_no
/-- a word that the tables alone decide, or a good one -/
def vx_ot (w : Cond) : Bool := w.onTables || goodWord w
theorem vx_ot_at {args a' : Array Value} {s U : State} {w : Cond} (hW : s.WarmedH U.vm) (hvm : s.vm = U.vm) (hg : vx_ot w = true) (h : w.before args s = true) : w.before a' U = true := by
  simp only [vx_ot, Bool.or_eq_true] at hg
  rcases hg with hg | hg
  · exact va_tabs hg hvm h
  · exact word_at hW (good_of_word hg) h
/-- a list's words: the good ones out of the method's own list, the others by premises of their own -/
theorem vx_hat {args : Array Value} {s : State} {L B : List Cond} (h1 : ∀ w ∈ L.filter goodWord, w.before args s = true) (h2 : ∀ w ∈ L.filter (fun w => !goodWord w), w ∈ B) (h3 : ∀ w ∈ B, w.before args s = true) : ∀ w ∈ L, w.before args s = true := by
  intro w hw
  by_cases g : goodWord w = true
  · exact h1 w (List.mem_filter.mpr ⟨hw, g⟩)
  · refine h3 w (h2 w (List.mem_filter.mpr ⟨hw, ?_⟩))
    show (!goodWord w) = true
    cases hgw : goodWord w
    · rfl
    · exact absurd hgw g
theorem vx_c {args : Array Value} {s : State} {w : Cond} {B : List Cond} (h : w.before args s = true) (t : ∀ w ∈ B, w.before args s = true) : ∀ w' ∈ w :: B, w'.before args s = true := fun w' h' => (List.mem_cons.mp h').elim (fun e => by rw [e]; exact h) (t w')
theorem vx_n {args : Array Value} {s : State} : ∀ w ∈ ([] : List Cond), w.before args s = true := fun _ h => nomatch h
theorem vx_own {args : Array Value} {s : State} {L : List Cond} (h1 : ∀ w ∈ L.filter vx_no, w.before args s = true)
    (hU : (Cond.isRef (.static Bundle.tN "UNASSIGNED_STACK" Bundle.steD)).before args s = true) (hN : (Cond.isRef (.static Bundle.tN "SUPPRESSED_SENTINEL" Bundle.listD)).before args s = true)
    (lU : (Cond.laysStatic Bundle.tN "UNASSIGNED_STACK" Bundle.steD).before args s = true) (lN : (Cond.laysStatic Bundle.tN "SUPPRESSED_SENTINEL" Bundle.listD).before args s = true) : ∀ w ∈ L, w.before args s = true := by
  intro w hw
  by_cases e1 : w = .isRef (.static Bundle.tN "UNASSIGNED_STACK" Bundle.steD)
  · rw [e1]; exact hU
  · by_cases e2 : w = .isRef (.static Bundle.tN "SUPPRESSED_SENTINEL" Bundle.listD)
    · rw [e2]; exact hN
    · by_cases e3 : w = .laysStatic Bundle.tN "UNASSIGNED_STACK" Bundle.steD
      · rw [e3]; exact lU
      · by_cases e4 : w = .laysStatic Bundle.tN "SUPPRESSED_SENTINEL" Bundle.listD
        · rw [e4]; exact lN
        · exact h1 w (List.mem_filter.mpr ⟨hw, by unfold vx_no; rw [decide_eq_true e1, decide_eq_true e2, decide_eq_true e3, decide_eq_true e4]; rfl⟩)
/-- where a static field lies, its class's statics cell in H -/
def vx_L (C n d : String) (A : Nat → Prop) (U : State) (H : Heap) : Prop := ∃ (c : ClassId) (k : Class) (i : Nat) (f : Field) (a : Nat) (cell : Cell), U.vm.findClass C = some c ∧ U.fieldFound? C n d = some (c, k, i, f) ∧ f.isStatic = true ∧ k.statics = some a ∧ H[a]? = some cell ∧ cell.vm.isStatics = true ∧ cell.cls = c ∧ f.slot < cell.slots.size ∧ k.staticTypes[f.slot]? = some f.type ∧ ¬ A a
theorem vx_L.moved {C n d : String} {A : Nat → Prop} {u U : State} {H : Heap} (hvm : u.vm.Alike U.vm) (h : vx_L C n d A u H) : vx_L C n d A U H := by
  obtain ⟨c, k, i, f, a, cell, h1, h2, h3, h4, h5, h6, h7, h8, h9, h10⟩ := h
  obtain ⟨k', hi', he⟩ := State.fieldFound?_setVm hvm h2
  exact ⟨c, k', i, f, a, cell, by rw [hvm.findClass]; exact h1, hi', h3, by rw [he]; exact h4, h5, h6, h7, h8, by rw [he]; exact h9, h10⟩
theorem vx_L.kept {C n d : String} {A : Nat → Prop} {U : State} {H H1 : Heap} (h : vx_L C n d A U H) (hq : ∀ a : Nat, a < H.size → ¬ A a → H1[a]? = H[a]?) : vx_L C n d A U H1 := by
  obtain ⟨c, k, i, f, a, cell, h1, h2, h3, h4, h5, h6, h7, h8, h9, h10⟩ := h
  exact ⟨c, k, i, f, a, cell, h1, h2, h3, h4, by rw [hq a (Array.getElem?_eq_some_iff.mp h5).1 h10]; exact h5, h6, h7, h8, h9, h10⟩
theorem vx_L.narrow {C n d : String} {A B : Nat → Prop} {U : State} {H : Heap} (h : vx_L C n d A U H) (hAB : ∀ q, B q → A q) : vx_L C n d B U H := by
  obtain ⟨c, k, i, f, a, cell, h1, h2, h3, h4, h5, h6, h7, h8, h9, h10⟩ := h
  exact ⟨c, k, i, f, a, cell, h1, h2, h3, h4, h5, h6, h7, h8, h9, fun z => h10 (hAB _ z)⟩
theorem vx_L.word {C n d : String} {A : Nat → Prop} {s : State} {args : Array Value} (h : vx_L C n d A s s.heap) : (Cond.laysStatic C n d).before args s = true := by
  obtain ⟨c, k, i, f, a, cell, h1, h2, h3, h4, h5, h6, h7, h8, h9, -⟩ := h
  show (Cond.laysStatic C n d).holds args s none s [] = true
  exact Cond.laysStatic_of h1 h2 h3 h4 h5 h6 h7 h8 h9
/-- .. and what it holds: null or some reference -/
def vx_Zq (C n d : String) (A : Nat → Prop) (U : State) (H : Heap) : Prop := va_Zq C n d A U H ∧ vx_L C n d A U H
theorem vx_Zq.moved {C n d : String} {A : Nat → Prop} {u U : State} {H : Heap} (hvm : u.vm.Alike U.vm) (h : vx_Zq C n d A u H) : vx_Zq C n d A U H := ⟨va_Zq.moved hvm h.1, vx_L.moved hvm h.2⟩
theorem vx_Zq.kept {C n d : String} {A : Nat → Prop} {U : State} {H H1 : Heap} (h : vx_Zq C n d A U H) (hq : ∀ a : Nat, a < H.size → ¬ A a → H1[a]? = H[a]?) : vx_Zq C n d A U H1 := ⟨va_Zq.kept h.1 hq, vx_L.kept h.2 hq⟩
theorem vx_Zq.narrow {C n d : String} {A B : Nat → Prop} {U : State} {H : Heap} (h : vx_Zq C n d A U H) (hAB : ∀ q, B q → A q) : vx_Zq C n d B U H := ⟨va_Zq.narrow h.1 hAB, vx_L.narrow h.2 hAB⟩
theorem vx_Zqof {args : Array Value} {s : State} {C n d : String} {A : Nat → Prop} (hl : (Cond.laysStatic C n d).before args s = true) (hini : (Cond.initialized C).before args s = true) (h : (Cond.isRef (.static C n d)).before args s = true) (hA : ∀ a : Nat, a < s.heap.size → ¬ A a) : vx_Zq C n d A s s.heap := by
  refine ⟨va_Zqof hl hini h hA, ?_⟩
  obtain ⟨c, k, i, f, a, cell, h1, h2, h3, h4, h5, h6, h7, h8, h9⟩ := Cond.laysStatic_spec hl
  exact ⟨c, k, i, f, a, cell, h1, h2, h3, h4, h5, h6, h7, h8, h9, hA a (Array.getElem?_eq_some_iff.mp h5).1⟩
theorem vx_isRef {C n d : String} {v : Value} {A : Nat → Prop} {s : State} {args : Array Value} (h : va_Z C n d v A s s.heap) (hv : v.isRef = true) : (Cond.isRef (.static C n d)).before args s = true := by
  obtain ⟨cf, kf, fi, f, a, cell, h1, h2, h3, h4, h5, h6, h7, -⟩ := h
  have he : (Term.static C n d).eval args s none [] s = some v := by
    simp [Term.eval, State.fieldNamed?, h1, h2, h4, h5, h6, h7]
  simp only [Cond.before, Cond.holds, Cond.value, he]
  cases v <;> simp_all [Value.isRef]
theorem vx_isRefq {C n d : String} {A : Nat → Prop} {s : State} {args : Array Value} (h : va_Zq C n d A s s.heap) : (Cond.isRef (.static C n d)).before args s = true := by
  rcases h with h | ⟨t, h⟩
  · exact vx_isRef h rfl
  · exact vx_isRef h rfl
/-- the same frame, seen from here: as if the method were called anew in this heap -/
theorem vx_rebase {T : State} (X : Stand p l e R s m args below meth c T locs cells slots) {R' : Room} (hf : R'.frames ≤ R.frames) (hl : R'.locals ≤ R.locals) (hc : cells + R'.cells ≤ R.cells) (hs : slots + R'.slots ≤ R.slots) :
    Stand p l e R' ((T.setVm s.vm).setFrames (.invoking m args :: below)) m args below meth c T [] 0 0 := by
  have htop : (T.setVm s.vm).topJava?.isSome := X.here.top
  have hF : ((T.setVm s.vm).setFrames (.invoking m args :: below)).frames = .invoking m args :: below := State.frames_setFrames _ (State.cur_lt_of_top htop)
  obtain ⟨g₀, hg0⟩ := Option.isSome_iff_exists.mp htop
  obtain ⟨r, hr⟩ := State.topJava?_eq_some.mp hg0
  have hl9 : e.platform.stackLimits (T.setVm s.vm).me = e.platform.stackLimits s.me := X.limits
  have hb9 : (T.setVm s.vm).me.stackBytes = s.me.stackBytes := X.bytes
  refine ⟨X.admits, X.cas, X.clock, hF, ?_, X.hears, X.method, X.code, X.here, X.tail, X.warmed, ?_, ?_, ?_⟩
  · have h := X.room
    have hU : ((T.setVm s.vm).setFrames (.invoking m args :: below)).localsInUse = s.localsInUse := by
      rw [State.localsInUse_invoking hF (meth := meth) (c := c) X.method X.code, State.localsInUse_invoking X.frames X.method X.code]
    simp only [State.hasRoom, Bool.and_eq_true, decide_eq_true_eq] at h ⊢
    obtain ⟨⟨⟨⟨h1, h2, h3, h4, h5, h6⟩, h7⟩, h8⟩, h9⟩ := h
    rw [X.frames, List.length_cons] at h2 h3
    have q1 := X.heapSize
    have q2 := X.used
    simp only [hF, hU, List.length_cons, State.stackLimits_setFrames, State.stackBytes_setFrames, hl9, hb9]
    refine ⟨⟨⟨⟨by omega, by omega, by omega, by omega, by omega, h6⟩, ?_⟩, ?_⟩, X.book⟩
    · show T.heap.size + R'.cells ≤ e.platform.maxCells
      omega
    · show T.slotsUsed + R'.slots ≤ e.platform.maxSlots
      omega
  · rw [State.stackLimits_setFrames]; rfl
  · rw [State.stackBytes_setFrames]; rfl
  · refine ⟨?_, Nat.le_refl _, Nat.le_refl _, ?_, ?_, fun a c9 h9 => ⟨c9, h9, rfl, rfl, fun _ _ => rfl⟩⟩
    · obtain ⟨t, ht, -⟩ := State.frames_cons hr
      show T.setVm s.vm = { ((T.setVm s.vm).setFrames (.invoking m args :: below)).setFrames (T.setVm s.vm).frames with heap := T.heap, slotsUsed := T.slotsUsed }
      rw [State.setFrames_setFrames, State.setFrames_self ht]
      rfl
    · show T.slotsUsed = T.slotsUsed + ((T.heap.toList.drop T.heap.size).map (·.slots.size)).sum
      rw [List.drop_eq_nil_of_le (Nat.le_of_eq Array.length_toList)]
      rfl
    · show ((T.heap.toList.drop T.heap.size).map (·.slots.size)).sum ≤ 0
      rw [List.drop_eq_nil_of_le (Nat.le_of_eq Array.length_toList)]
      exact Nat.le_refl _
/-- 'throw new E()': new; dup; invokespecial; athrow -/
theorem vx_throw0 {cc : ByteArray} {pc : Nat} (hexec : p.tables.exec = Jvm.exec) (hb : c.code = cc) (hl : l.stackTraces = false) {own cls : String} {names : List String} {ik ic mc ms : Nat} {A : Nat → Prop}
    (hown : s.vm.findClass own = some m.cls) (hcls : Bundle.fit cls = true) (hnames : ∀ n ∈ names, Bundle.fit n = true)
    (hk : (Cond.classLink own ik cls).before args s = true) (hini : (Cond.initialized cls).before args s = true) (hat : ∀ w ∈ vx_at0 own ic cls names, w.before args s = true)
    (hgood : ∀ w ∈ Cond.classLink own ik cls :: Cond.initialized cls :: vx_at0 own ic cls names, vx_ot w = true)
    (hU : vx_Zq Bundle.tN "UNASSIGNED_STACK" Bundle.steD A s s.heap) (hN : vx_Zq Bundle.tN "SUPPRESSED_SENTINEL" Bundle.listD A s s.heap) (hS : va_S A s.heap H locs) (hsize : ls.size = c.maxLocals)
    (d0 : decode cc pc = .ok (.new ik, 3)) (d3 : decode cc (pc + 3) = .ok (.dup, 1)) (d4 : decode cc (pc + 4) = .ok (.invokespecial ic, 3)) (d7 : decode cc (pc + 7) = .ok (.athrow, 1))
    (hout : ∀ x ∈ c.exceptionTable.toList, covers x (pc + 7) = false)
    (hRframes : names.length + 3 < R.frames) (hRlocals : (rest.map fun v => v.category).sum + (13 * (names.length + 1) + 42) ≤ R.locals) (hRcells : cells + 1 ≤ R.cells) (hRslots : slots + 6 ≤ R.slots) (hlocks : meth.locks = false)
    (hx : ∀ t : State, s.vm.Alike t.vm → H.size ≤ t.heap.size → (∀ q : Nat, q < H.size → t.heap[q]? = H[q]?) → XC cls s t)
    (hf : ∀ z ∈ locs, free z.base) (hc : cells + 1 ≤ mc) (hs : slots + 6 ≤ ms) :
    W p l e R s m args below meth c H locs cells slots (vx_MQ below Qc XC args s mc ms free) (F0 m pc ls rest) := by
  intro T hT X
  have htr : e.platform.stackTraces = false := (show e.platform.stackTraces = l.stackTraces by rw [X.admits.platform]).trans hl
  have Y := vx_rebase X (R' := { frames := R.frames, locals := R.locals, cells := 1, slots := 6 }) (Nat.le_refl _) (Nat.le_refl _) hRcells hRslots
  obtain ⟨s', hA⟩ : ∃ z, z = (T.setVm s.vm).setFrames (.invoking m args :: below) := ⟨_, rfl⟩
  rw [← hA] at Y
  have hvm : s'.vm = s.vm := by rw [hA]; rfl
  have hhp : s'.heap = H := by rw [hA]; exact hT
  have hW0 : s.WarmedH s'.vm := by rw [hvm]; exact State.WarmedH.refl s
  have hat' : ∀ w ∈ vx_at0 own ic cls names, w.before args s' = true := fun w hw => vx_ot_at hW0 hvm.symm (hgood w (List.mem_cons_of_mem _ (List.mem_cons_of_mem _ hw))) (hat w hw)
  have hk' : (Cond.classLink own ik cls).before args s' = true := vx_ot_at hW0 hvm.symm (hgood _ List.mem_cons_self) hk
  have hini' : (Cond.initialized cls).before args s' = true := vx_ot_at hW0 hvm.symm (hgood _ (List.mem_cons_of_mem _ List.mem_cons_self)) hini
  have hU' : vx_Zq Bundle.tN "UNASSIGNED_STACK" Bundle.steD A s' s'.heap := by rw [hhp]; exact vx_Zq.moved hW0.alike (hU.kept hS.2.1)
  have hN' : vx_Zq Bundle.tN "SUPPRESSED_SENTINEL" Bundle.listD A s' s'.heap := by rw [hhp]; exact vx_Zq.moved hW0.alike (hN.kept hS.2.1)
  have h : ∀ w ∈ Bundle.ownAtoms0 own ic cls names, w.before args s' = true := vx_own hat' (vx_isRefq hU'.1) (vx_isRefq hN'.1) hU'.2.word hN'.2.word
  have hown' : s'.vm.findClass own = some m.cls := by rw [hvm]; exact hown
  have hins : (Cond.instantiable cls 6).before args s' = true := h _ (by simp [Bundle.ownAtoms0])
  obtain ⟨vm₁, cX, kX, hfX, hkX, -, -, X₁, st1⟩ := Y.newCold hexec (own := own) (C := cls) (index := ik) (n := 6) hown' hk' hins hini'
    (g := F0 m pc ls rest) rfl (by rw [hb]; exact d0) (Nat.le_refl _) (Nat.le_refl _)
  generalize hT1 : (T.setVm vm₁).pushCell { cls := cX, slots := kX.instanceTypes.map defaultValue, vm := .none } = T1 at X₁ st1
  have hcat : (Value.ref T.heap.size).category = 1 := rfl
  have hcellA : T1.heap[T.heap.size]? = some (freshCell cX kX) := by rw [← hT1]; exact State.heap_pushCell_size _ _
  have d3' : decode c.code (pc + 3) = .ok (.dup, 1) := by rw [hb]; exact d3
  obtain ⟨U, hsteps, hrun, hend, hW, hsame, ce, hce, hO⟩ := X₁.ctorThrow0 hexec htr (own := own) (cls := cls) (names := names) (ic := ic) hown' hcls hnames h (fun x hx => nomatch hx) hfX hkX hcellA (by rw [hhp, hT]; exact Nat.le_refl _)
    (g := { method := m, pc := pc + 4, locals := ls, stack := .ref T.heap.size :: .ref T.heap.size :: rest, locked := none }) rfl hsize rfl rfl (rest := rest) rfl
    (by rw [hb]; exact d4) (by rw [hb]; exact d7) hout hRframes (by simp only [List.map_cons, List.sum_cons, hcat]; omega) hlocks
  obtain ⟨f1, f2⟩ := vx_frame hsame
  rw [hhp] at f1 f2
  have hWs : s.WarmedH U.vm := State.WarmedH.trans hW0 hW
  have hcl : s.vm.findClass cls = some ce.cls := by
    have h9 := hO.cls
    rw [hvm] at h9
    exact h9
  have hall : s.sameButNew ({ U with vm := s.vm } : State) locs mc ms := by
    subst hA
    obtain ⟨e1, e2⟩ := hsame
    rw [State.setFrames_setFrames] at e1
    have h2 : (T.setVm s.vm).sameButNew ({ U with vm := s.vm } : State) [] (0 + 1) (0 + 6) := ⟨e1, e2⟩
    have h3 := X.same.trans h2
    rw [List.append_nil] at h3
    exact h3.mono hc hs
  refine ⟨U, ?_, .threw T.heap.size, hrun, hend, Or.inr ⟨T.heap.size, rfl, cls, ce, locs, hx U hWs.alike f1 (fun q hq => f2 q hq (fun z hz => nomatch hz)), hce, hO.vm, hcl, hWs, hall, hf⟩⟩
  refine st1 _ ?_
  show Steps p.tables e below (T1.setTop { method := m, pc := pc + 3, locals := ls, stack := .ref T.heap.size :: rest, locked := none }) _
  jvm_step X₁.here [X₁.here.top, hexec, d3', Value.category]
  exact hsteps
/-- 'throw new E("text")': new; dup; ldc; invokespecial; athrow -/
theorem vx_throwS {cc : ByteArray} {pc : Nat} (hexec : p.tables.exec = Jvm.exec) (hb : c.code = cc) (hl : l.stackTraces = false) {own cls text : String} {names : List String} {ik is ic mc ms sa : Nat} {A : Nat → Prop}
    (hown : s.vm.findClass own = some m.cls) (hcls : Bundle.fit cls = true) (hnames : ∀ n ∈ names, Bundle.fit n = true)
    (hk : (Cond.classLink own ik cls).before args s = true) (hini : (Cond.initialized cls).before args s = true) (hstr : vk_R own is text sa s) (hat : ∀ w ∈ vx_atS own ic cls names, w.before args s = true)
    (hgood : ∀ w ∈ Cond.classLink own ik cls :: Cond.initialized cls :: vx_atS own ic cls names, vx_ot w = true)
    (hU : vx_Zq Bundle.tN "UNASSIGNED_STACK" Bundle.steD A s s.heap) (hN : vx_Zq Bundle.tN "SUPPRESSED_SENTINEL" Bundle.listD A s s.heap) (hS : va_S A s.heap H locs) (hsize : ls.size = c.maxLocals)
    (d0 : decode cc pc = .ok (.new ik, 3)) (d3 : decode cc (pc + 3) = .ok (.dup, 1)) (d4 : decode cc (pc + 4) = .ok (.ldc is, 2)) (d6 : decode cc (pc + 6) = .ok (.invokespecial ic, 3)) (d9 : decode cc (pc + 9) = .ok (.athrow, 1))
    (hout : ∀ x ∈ c.exceptionTable.toList, covers x (pc + 9) = false)
    (hRframes : names.length + 3 < R.frames) (hRlocals : (rest.map fun v => v.category).sum + (13 * (names.length + 1) + 43) ≤ R.locals) (hRcells : cells + 1 ≤ R.cells) (hRslots : slots + 6 ≤ R.slots) (hlocks : meth.locks = false)
    (hx : ∀ t : State, s.vm.Alike t.vm → H.size ≤ t.heap.size → (∀ q : Nat, q < H.size → t.heap[q]? = H[q]?) → XC cls s t)
    (hf : ∀ z ∈ locs, free z.base) (hc : cells + 1 ≤ mc) (hs : slots + 6 ≤ ms) :
    W p l e R s m args below meth c H locs cells slots (vx_MQ below Qc XC args s mc ms free) (F0 m pc ls rest) := by
  intro T hT X
  have htr : e.platform.stackTraces = false := (show e.platform.stackTraces = l.stackTraces by rw [X.admits.platform]).trans hl
  have Y := vx_rebase X (R' := { frames := R.frames, locals := R.locals, cells := 1, slots := 6 }) (Nat.le_refl _) (Nat.le_refl _) hRcells hRslots
  obtain ⟨s', hA⟩ : ∃ z, z = (T.setVm s.vm).setFrames (.invoking m args :: below) := ⟨_, rfl⟩
  rw [← hA] at Y
  have hvm : s'.vm = s.vm := by rw [hA]; rfl
  have hhp : s'.heap = H := by rw [hA]; exact hT
  have hW0 : s.WarmedH s'.vm := by rw [hvm]; exact State.WarmedH.refl s
  have hat' : ∀ w ∈ vx_atS own ic cls names, w.before args s' = true := fun w hw => vx_ot_at hW0 hvm.symm (hgood w (List.mem_cons_of_mem _ (List.mem_cons_of_mem _ hw))) (hat w hw)
  have hk' : (Cond.classLink own ik cls).before args s' = true := vx_ot_at hW0 hvm.symm (hgood _ List.mem_cons_self) hk
  have hini' : (Cond.initialized cls).before args s' = true := vx_ot_at hW0 hvm.symm (hgood _ (List.mem_cons_of_mem _ List.mem_cons_self)) hini
  have hU' : vx_Zq Bundle.tN "UNASSIGNED_STACK" Bundle.steD A s' s'.heap := by rw [hhp]; exact vx_Zq.moved hW0.alike (hU.kept hS.2.1)
  have hN' : vx_Zq Bundle.tN "SUPPRESSED_SENTINEL" Bundle.listD A s' s'.heap := by rw [hhp]; exact vx_Zq.moved hW0.alike (hN.kept hS.2.1)
  have h : ∀ w ∈ Bundle.ownAtoms own ic cls names, w.before args s' = true := vx_own hat' (vx_isRefq hU'.1) (vx_isRefq hN'.1) hU'.2.word hN'.2.word
  have hown' : s'.vm.findClass own = some m.cls := by rw [hvm]; exact hown
  have hins : (Cond.instantiable cls 6).before args s' = true := h _ (by simp [Bundle.ownAtoms])
  obtain ⟨vm₁, cX, kX, hfX, hkX, -, -, X₁, st1⟩ := Y.newCold hexec (own := own) (C := cls) (index := ik) (n := 6) hown' hk' hins hini'
    (g := F0 m pc ls rest) rfl (by rw [hb]; exact d0) (Nat.le_refl _) (Nat.le_refl _)
  generalize hT1 : (T.setVm vm₁).pushCell { cls := cX, slots := kX.instanceTypes.map defaultValue, vm := .none } = T1 at X₁ st1
  have hcat : (Value.ref T.heap.size).category = 1 := rfl
  have hcellA : T1.heap[T.heap.size]? = some (freshCell cX kX) := by rw [← hT1]; exact State.heap_pushCell_size _ _
  have d3' : decode c.code (pc + 3) = .ok (.dup, 1) := by rw [hb]; exact d3
  have d4' : decode c.code (pc + 4) = .ok (.ldc is, 2) := by rw [hb]; exact d4
  have hstr' : vk_R own is text sa s' := vk_R.warm hW0 hstr
  obtain ⟨U, hsteps, hrun, hend, hW, hsame, ce, hce, hO⟩ := X₁.ctorThrowS hexec htr (own := own) (cls := cls) (names := names) (ic := ic) hown' hcls hnames h (fun x hx => nomatch hx) hfX hkX hcellA (by rw [hhp, hT]; exact Nat.le_refl _) (msg := .ref sa) rfl
    (g := { method := m, pc := pc + 6, locals := ls, stack := .ref sa :: .ref T.heap.size :: .ref T.heap.size :: rest, locked := none }) rfl hsize rfl rfl (rest := rest) rfl
    (by rw [hb]; exact d6) (by rw [hb]; exact d9) hout hRframes (by simp only [List.map_cons, List.sum_cons, hcat]; omega) hlocks
  obtain ⟨f1, f2⟩ := vx_frame hsame
  rw [hhp] at f1 f2
  have hWs : s.WarmedH U.vm := State.WarmedH.trans hW0 hW
  have hcl : s.vm.findClass cls = some ce.cls := by
    have h9 := hO.cls
    rw [hvm] at h9
    exact h9
  have hall : s.sameButNew ({ U with vm := s.vm } : State) locs mc ms := by
    subst hA
    obtain ⟨e1, e2⟩ := hsame
    rw [State.setFrames_setFrames] at e1
    have h2 : (T.setVm s.vm).sameButNew ({ U with vm := s.vm } : State) [] (0 + 1) (0 + 6) := ⟨e1, e2⟩
    have h3 := X.same.trans h2
    rw [List.append_nil] at h3
    exact h3.mono hc hs
  refine ⟨U, ?_, .threw T.heap.size, hrun, hend, Or.inr ⟨T.heap.size, rfl, cls, ce, locs, hx U hWs.alike f1 (fun q hq => f2 q hq (fun z hz => nomatch hz)), hce, hO.vm, hcl, hWs, hall, hf⟩⟩
  refine st1 _ ?_
  show Steps p.tables e below (T1.setTop { method := m, pc := pc + 3, locals := ls, stack := .ref T.heap.size :: rest, locked := none }) _
  jvm_step X₁.here [X₁.here.top, hexec, d3', Value.category]
  exact X₁.ldcString hexec (own := own) (text := text) (index := is) (a := sa) hown' hstr'.1 hstr'.2
    (g := { method := m, pc := pc + 4, locals := ls, stack := .ref T.heap.size :: .ref T.heap.size :: rest, locked := none }) rfl d4' _ hsteps
/-- 'throw new E("text")', the text by a wide index -/
theorem vx_throwSW {cc : ByteArray} {pc : Nat} (hexec : p.tables.exec = Jvm.exec) (hb : c.code = cc) (hl : l.stackTraces = false) {own cls text : String} {names : List String} {ik is ic mc ms sa : Nat} {A : Nat → Prop}
    (hown : s.vm.findClass own = some m.cls) (hcls : Bundle.fit cls = true) (hnames : ∀ n ∈ names, Bundle.fit n = true)
    (hk : (Cond.classLink own ik cls).before args s = true) (hini : (Cond.initialized cls).before args s = true) (hstr : vk_R own is text sa s) (hat : ∀ w ∈ vx_atS own ic cls names, w.before args s = true)
    (hgood : ∀ w ∈ Cond.classLink own ik cls :: Cond.initialized cls :: vx_atS own ic cls names, vx_ot w = true)
    (hU : vx_Zq Bundle.tN "UNASSIGNED_STACK" Bundle.steD A s s.heap) (hN : vx_Zq Bundle.tN "SUPPRESSED_SENTINEL" Bundle.listD A s s.heap) (hS : va_S A s.heap H locs) (hsize : ls.size = c.maxLocals)
    (d0 : decode cc pc = .ok (.new ik, 3)) (d3 : decode cc (pc + 3) = .ok (.dup, 1)) (d4 : decode cc (pc + 4) = .ok (.ldc_w is, 3)) (d7 : decode cc (pc + 7) = .ok (.invokespecial ic, 3)) (d10 : decode cc (pc + 10) = .ok (.athrow, 1))
    (hout : ∀ x ∈ c.exceptionTable.toList, covers x (pc + 10) = false)
    (hRframes : names.length + 3 < R.frames) (hRlocals : (rest.map fun v => v.category).sum + (13 * (names.length + 1) + 43) ≤ R.locals) (hRcells : cells + 1 ≤ R.cells) (hRslots : slots + 6 ≤ R.slots) (hlocks : meth.locks = false)
    (hx : ∀ t : State, s.vm.Alike t.vm → H.size ≤ t.heap.size → (∀ q : Nat, q < H.size → t.heap[q]? = H[q]?) → XC cls s t)
    (hf : ∀ z ∈ locs, free z.base) (hc : cells + 1 ≤ mc) (hs : slots + 6 ≤ ms) :
    W p l e R s m args below meth c H locs cells slots (vx_MQ below Qc XC args s mc ms free) (F0 m pc ls rest) := by
  intro T hT X
  have htr : e.platform.stackTraces = false := (show e.platform.stackTraces = l.stackTraces by rw [X.admits.platform]).trans hl
  have Y := vx_rebase X (R' := { frames := R.frames, locals := R.locals, cells := 1, slots := 6 }) (Nat.le_refl _) (Nat.le_refl _) hRcells hRslots
  obtain ⟨s', hA⟩ : ∃ z, z = (T.setVm s.vm).setFrames (.invoking m args :: below) := ⟨_, rfl⟩
  rw [← hA] at Y
  have hvm : s'.vm = s.vm := by rw [hA]; rfl
  have hhp : s'.heap = H := by rw [hA]; exact hT
  have hW0 : s.WarmedH s'.vm := by rw [hvm]; exact State.WarmedH.refl s
  have hat' : ∀ w ∈ vx_atS own ic cls names, w.before args s' = true := fun w hw => vx_ot_at hW0 hvm.symm (hgood w (List.mem_cons_of_mem _ (List.mem_cons_of_mem _ hw))) (hat w hw)
  have hk' : (Cond.classLink own ik cls).before args s' = true := vx_ot_at hW0 hvm.symm (hgood _ List.mem_cons_self) hk
  have hini' : (Cond.initialized cls).before args s' = true := vx_ot_at hW0 hvm.symm (hgood _ (List.mem_cons_of_mem _ List.mem_cons_self)) hini
  have hU' : vx_Zq Bundle.tN "UNASSIGNED_STACK" Bundle.steD A s' s'.heap := by rw [hhp]; exact vx_Zq.moved hW0.alike (hU.kept hS.2.1)
  have hN' : vx_Zq Bundle.tN "SUPPRESSED_SENTINEL" Bundle.listD A s' s'.heap := by rw [hhp]; exact vx_Zq.moved hW0.alike (hN.kept hS.2.1)
  have h : ∀ w ∈ Bundle.ownAtoms own ic cls names, w.before args s' = true := vx_own hat' (vx_isRefq hU'.1) (vx_isRefq hN'.1) hU'.2.word hN'.2.word
  have hown' : s'.vm.findClass own = some m.cls := by rw [hvm]; exact hown
  have hins : (Cond.instantiable cls 6).before args s' = true := h _ (by simp [Bundle.ownAtoms])
  obtain ⟨vm₁, cX, kX, hfX, hkX, -, -, X₁, st1⟩ := Y.newCold hexec (own := own) (C := cls) (index := ik) (n := 6) hown' hk' hins hini'
    (g := F0 m pc ls rest) rfl (by rw [hb]; exact d0) (Nat.le_refl _) (Nat.le_refl _)
  generalize hT1 : (T.setVm vm₁).pushCell { cls := cX, slots := kX.instanceTypes.map defaultValue, vm := .none } = T1 at X₁ st1
  have hcat : (Value.ref T.heap.size).category = 1 := rfl
  have hcellA : T1.heap[T.heap.size]? = some (freshCell cX kX) := by rw [← hT1]; exact State.heap_pushCell_size _ _
  have d3' : decode c.code (pc + 3) = .ok (.dup, 1) := by rw [hb]; exact d3
  have d4' : decode c.code (pc + 4) = .ok (.ldc_w is, 3) := by rw [hb]; exact d4
  have hstr' : vk_R own is text sa s' := vk_R.warm hW0 hstr
  obtain ⟨U, hsteps, hrun, hend, hW, hsame, ce, hce, hO⟩ := X₁.ctorThrowS hexec htr (own := own) (cls := cls) (names := names) (ic := ic) hown' hcls hnames h (fun x hx => nomatch hx) hfX hkX hcellA (by rw [hhp, hT]; exact Nat.le_refl _) (msg := .ref sa) rfl
    (g := { method := m, pc := pc + 7, locals := ls, stack := .ref sa :: .ref T.heap.size :: .ref T.heap.size :: rest, locked := none }) rfl hsize rfl rfl (rest := rest) rfl
    (by rw [hb]; exact d7) (by rw [hb]; exact d10) hout hRframes (by simp only [List.map_cons, List.sum_cons, hcat]; omega) hlocks
  obtain ⟨f1, f2⟩ := vx_frame hsame
  rw [hhp] at f1 f2
  have hWs : s.WarmedH U.vm := State.WarmedH.trans hW0 hW
  have hcl : s.vm.findClass cls = some ce.cls := by
    have h9 := hO.cls
    rw [hvm] at h9
    exact h9
  have hall : s.sameButNew ({ U with vm := s.vm } : State) locs mc ms := by
    subst hA
    obtain ⟨e1, e2⟩ := hsame
    rw [State.setFrames_setFrames] at e1
    have h2 : (T.setVm s.vm).sameButNew ({ U with vm := s.vm } : State) [] (0 + 1) (0 + 6) := ⟨e1, e2⟩
    have h3 := X.same.trans h2
    rw [List.append_nil] at h3
    exact h3.mono hc hs
  refine ⟨U, ?_, .threw T.heap.size, hrun, hend, Or.inr ⟨T.heap.size, rfl, cls, ce, locs, hx U hWs.alike f1 (fun q hq => f2 q hq (fun z hz => nomatch hz)), hce, hO.vm, hcl, hWs, hall, hf⟩⟩
  refine st1 _ ?_
  show Steps p.tables e below (T1.setTop { method := m, pc := pc + 3, locals := ls, stack := .ref T.heap.size :: rest, locked := none }) _
  jvm_step X₁.here [X₁.here.top, hexec, d3', Value.category]
  exact X₁.ldcStringW hexec (own := own) (text := text) (index := is) (a := sa) hown' hstr'.1 hstr'.2
    (g := { method := m, pc := pc + 4, locals := ls, stack := .ref T.heap.size :: .ref T.heap.size :: rest, locked := none }) rfl d4' _ hsteps
end Ends
section Bodies
variable {l : Launch}
theorem vx_ofW {y : MethodName} {ws ws' : List Cond} {rm : Room} {Pc : Array Value → State → Prop} {Qc : Array Value → State → Outcome → State → Prop} {XC : String → State → State → Prop} {mc ms : Nat} {free : Addr → Prop} {cc : ByteArray} {maxL : Nat} {ret : Option FieldType}
    (hy : plainName y.cls = true) (hw : ws = Cond.code y cc maxL ret :: ws')
    (body : ∀ p e s m args below meth c s₁, BodyLoose p l y (headSpec ws rm) cc maxL ret e s m args below meth c s₁ → c.maxLocals = maxL → (∀ x ∈ c.exceptionTable.toList, False) → Pc args s →
      W p l e (headSpec ws rm).room s m args below meth c s.heap [] 0 0 (vx_MQ below Qc XC args s mc ms free) (entryFrame m args maxL)) : vx_Met l y ws rm Pc Qc XC mc ms free := by
  refine MetFree.of_bodyS (code := cc) (maxLocals := maxL) (ret := ret) hy ?_ ?_
  · intro args s m h hn
    obtain ⟨meth, c, h1, h2, h3, h4, h5, h6, -, -⟩ := Cond.code_spec hn (atoms_spec (ws := ws) h _ (by rw [hw]; exact List.mem_cons_self))
    exact ⟨meth, c, h1, h2, h3, h4, h5, h6⟩
  · intro p e s m args below meth c s₁ B hml hP _
    have hh0 : s₁.heap = s.heap := by rw [B.state]; rfl
    have ht : ∀ x ∈ c.exceptionTable.toList, False := by
      obtain ⟨meth9, c9, h1, h2, -, -, -, -, h7, -⟩ := Cond.code_spec B.named (atoms_spec (ws := ws) B.pre _ (by rw [hw]; exact List.mem_cons_self))
      cases Option.some.inj (h1.symm.trans B.method)
      cases Option.some.inj (h2.symm.trans (Stand.of_body B).code)
      intro x hx
      rw [Array.isEmpty_iff.mp h7] at hx
      cases hx
    obtain ⟨t, a1, o, b1, b2, b3⟩ := body p e s m args below meth c s₁ B hml ht hP s₁ hh0 (Stand.of_body B)
    exact ⟨t, o, a1, b1, b2, b3⟩
/-- the table of a body with handlers -/
theorem vx_table {p : Program} {x y : MethodName} {S : Spec} {cc bytes : ByteArray} {maxL maxL' : Nat} {ret ret' : Option FieldType} {e : Env} {s s₁ : State} {m : MethodId} {args : Array Value} {below : List Frame} {meth : Method} {c : Code} {hh : List (Nat × Nat × Nat × Nat)}
    (B : BodyLoose p l y S cc maxL ret e s m args below meth c s₁) (h : (Cond.codeWith y bytes maxL' ret' hh).before args s = true) : c.exceptionTable.toList = tableOf hh := by
  obtain ⟨m9, meth9, c9, hn9, h1, h2, -, -, h6, -⟩ := Cond.codeWith_spec h
  cases Option.some.inj (hn9.symm.trans B.named)
  cases Option.some.inj (h1.symm.trans B.method)
  cases Option.some.inj (h2.symm.trans (Stand.of_body B).code)
  rw [← h6, table_eq]
end Bodies
end VXA
/-! ===== END ===== -/
/-! ===== BEGIN a static call of a method with an exception table ===== -/
section VXS
variable {p : Program} {l : Launch} {e : Env} {R : Room} {s : State} {m : MethodId} {args : Array Value} {below : List Frame} {meth : Method} {c : Code} {T : State} {H : Heap} {locs : List Loc} {cells slots : Nat}
abbrev vx_CSW (R : Room) (s : State) (args : Array Value) (own : String) (index : Nat) (y : MethodName) (bytes : ByteArray) (maxL : Nat) (ret : Option FieldType) (hh : List (Nat × Nat × Nat × Nat)) (ws : List Cond) (rm : Room) (mc ms n : Nat) : Prop :=
  (rm.cells = mc ∧ rm.slots = ms ∧ rm.frames + 1 ≤ R.frames ∧ 8 + (maxL + 11) + rm.locals ≤ R.locals ∧ (∀ w ∈ ws, ∀ (a' : Array Value) (U : State), s.WarmedH U.vm → w.before a' U = true) ∧ Cond.codeWith y bytes maxL ret hh ∈ ws) ∧
  (Cond.codeWith y bytes maxL ret hh).before args s = true ∧ (Cond.initialized y.cls).before args s = true ∧ (y.cls ≠ "java/lang/invoke/MethodHandle" ∧ y.cls ≠ "java/lang/invoke/VarHandle") ∧
  (∀ sig, parseMethodDescriptor y.desc = some sig → n = sig.parameters.length) ∧ (Cond.methodLink own index y).before args s = true ∧ (Cond.static y).before args s = true
theorem vx_cwSW {own : String} {index maxL mc ms : Nat} {y : MethodName} {bytes : ByteArray} {ret : Option FieldType} {hh : List (Nat × Nat × Nat × Nat)} {Ts ws ws' : List Cond} {rm : Room} (n : Nat) (ht : ∀ w ∈ Ts, w.before args s = true) (hT : GoodIn Ts (va_wsS own index y ws)) (hw : ws = Cond.codeWith y bytes maxL ret hh :: ws') (hrc : rm.cells = mc) (hrs : rm.slots = ms)
    (hd : y.cls ≠ "java/lang/invoke/MethodHandle" ∧ y.cls ≠ "java/lang/invoke/VarHandle" ∧ (parseMethodDescriptor y.desc).map (fun d => d.parameters.length) = some n) (hR : rm.frames + 1 ≤ R.frames ∧ 8 + (maxL + 11) + rm.locals ≤ R.locals) :
    vx_CSW R s args own index y bytes maxL ret hh ws rm mc ms n := by
  have ok : ∀ w ∈ va_wsS own index y ws, w.before args s = true := fun w h => ht w (hT w h).1
  have hG : GoodIn Ts ws := fun w h => hT w (by unfold va_wsS; exact List.mem_append_right _ h)
  have hc : Cond.codeWith y bytes maxL ret hh ∈ ws := by rw [hw]; exact List.mem_cons_self
  refine ⟨⟨hrc, hrs, hR.1, hR.2, pay_in ht hG, hc⟩, ht _ (hG _ hc).1, ok _ (by simp [va_wsS]), ⟨hd.1, hd.2.1⟩, fun sig h => ?_, ok _ (by simp [va_wsS]), ok _ (by simp [va_wsS])⟩
  have h2 := hd.2.2
  rw [h] at h2
  exact (Option.some.inj h2).symm
theorem vx_callSW (X : Stand p l e R s m args below meth c T locs cells slots) (hexec : p.tables.exec = Jvm.exec) {own : String} {index : Nat} {y : MethodName} {bytes : ByteArray} {maxL : Nat} {ret : Option FieldType} {hh : List (Nat × Nat × Nat × Nat)}
    (hown : s.vm.findClass own = some m.cls) (hlink : (Cond.methodLink own index y).before args s = true) (hstat : (Cond.static y).before args s = true) (hinit : (Cond.initialized y.cls).before args s = true)
    (hcode : (Cond.codeWith y bytes maxL ret hh).before args s = true) (hy : y.cls ≠ "java/lang/invoke/MethodHandle" ∧ y.cls ≠ "java/lang/invoke/VarHandle")
    {W9 : Nat} {Pre : Pt → Array Value → Prop} {Post : Pt → Array Value → Option Value → Pt → Prop} (hK : Back l R p e below s args y 3 W9 Pre Post)
    {g : JFrame} (hg : g.method = m) (hsize : g.locals.size = c.maxLocals) {argsL rest : List Value} (hlen : ∀ sig, parseMethodDescriptor y.desc = some sig → argsL.length = sig.parameters.length)
    (hstack : g.stack = argsL.reverse ++ rest) (hW : 2 * g.monitorRoom + (rest.map fun v => v.category).sum ≤ W9) (hdg : decode c.code g.pc = .ok (.invokestatic index, 3))
    (hpre : ∀ vm₁, s.WarmedH vm₁ → Pre ⟨T.setVm vm₁, locs, cells, slots⟩ argsL.toArray) :
    ∃ (v : Option Value) (vm₁ : Vm) (B : Pt), s.WarmedH vm₁ ∧ Stand p l e R s m args below meth c B.U B.locs B.cells B.slots ∧ Post ⟨T.setVm vm₁, locs, cells, slots⟩ argsL.toArray v B ∧
      ∀ target, Steps p.tables e below (B.U.setTop { g with pc := g.pc + 3, stack := v.toList ++ rest }) target → Steps p.tables e below (T.setTop g) target := by
  obtain ⟨mk, methM, cM, hnamed, hmethM, -, -, -, -, -, -, hsigM⟩ := Cond.codeWith_spec hcode
  have hstatic : methM.isStatic = true := Cond.static_spec hnamed hmethM hstat
  obtain ⟨kP, hkP, -⟩ := className_of_methodNamed hnamed
  have hinitP : kP.init = .initialized := Cond.initialized_spec (findClass_of_methodNamed hnamed) hkP hinit
  obtain ⟨vm₁, X₁, hstep₁⟩ := X.invokestatic hexec hown hlink hnamed hmethM hstatic hkP hinitP hy (g := g) hg (argsL := argsL) (rest := rest) (hlen _ hsigM) hstack hdg
  obtain ⟨v, B, X', hpost, hsteps⟩ := hK m meth c ⟨T.setVm vm₁, locs, cells, slots⟩ { g with stack := rest } (.invokestatic index) mk argsL.toArray X₁ hg hsize hdg hW (X₁.named hnamed) (hpre vm₁ X₁.warmed)
  exact ⟨v, vm₁, B, X₁.warmed, X', hpost, fun target h => hstep₁ _ fun acts => by rw [doInvoke_state]; exact hsteps.trans h⟩
theorem vx_runSW {y : MethodName} {bytes cc : ByteArray} {maxL nL mc ms n index : Nat} {ret : Option FieldType} {hh : List (Nat × Nat × Nat × Nat)} {ws : List Cond} {rm : Room} {Pc : Array Value → State → Prop} {Qc : Array Value → State → Outcome → State → Prop} {free : Addr → Prop} {Ts : List Cond} {own : String} {As rest : List Value} {g : JFrame}
    (S : CallFix p m c cc nL s args Ts own) (hM : Met l y ws rm Pc Qc mc ms free) (cw : vx_CSW R s args own index y bytes maxL ret hh ws rm mc ms n) (hp : PreS s H Pc As)
    (hg : g.method = m) (hn : As.length = n) (hsize : g.locals.size = nL) (hstack : g.stack = As.reverse ++ rest) (hW : 2 * g.monitorRoom + (rest.map fun v => v.category).sum ≤ 8) (hdg : decode cc g.pc = .ok (.invokestatic index, 3)) (hf : cells + mc ≤ R.cells ∧ slots + ms ≤ R.slots) :
    va_Run p l e R s m args below meth c H locs cells slots mc ms g rest (Qc As.toArray) (free) := by
  obtain ⟨⟨hrc, hrs, hfr, hlo, hws, hcw⟩, hcode, hini, hy, hlen, hl, hstt⟩ := cw
  have hK : Back l R p e below s args y 3 8 (PreOf R mc ms Pc) (PostOf Qc mc ms free) := va_backW (hh := hh) (bytes := bytes) (maxL := maxL) (ret := ret) hM hp.1 hrc hrs hfr hlo hws hcw (fun a' U hW => word_at hW (Or.inl (by first | rfl | simp [Cond.onTables, Cond.keeps, Cond.steady])) hini)
  obtain ⟨hx, hb, hml, ho, -⟩ := S
  intro T hT X
  obtain ⟨v, vm₁, ⟨U', l2, c2, s2⟩, hW₁, X', ⟨g', mk, t, L, e1, e2, hq, h1, hL, h2, h3⟩, st⟩ := vx_callSW X hx (hh := hh) (bytes := bytes) (maxL := maxL) (ret := ret) ho hl hstt hini hcode hy hK hg (hsize.trans hml.symm) (argsL := As) (rest := rest) (fun sig h => hn.trans (hlen sig h)) hstack hW (by rw [hb]; exact hdg)
    (fun vm₁ hW₁ => ⟨hf.1, hf.2, hp.2 (T.setVm vm₁) hT hW₁⟩)
  dsimp only [Pt.U, Pt.locs, Pt.cells, Pt.slots] at X' e1 e2 h1 h2 h3 st
  subst h1; subst h2; subst h3
  exact ⟨v, (T.setVm vm₁).calling g' mk As.toArray, t, U', L, hT, X', hL, e1, e2, hq, st⟩
/-- not caught here, past rows that name other classes: it goes on to the caller -/
theorem vx_outP {p : Program} {l : Launch} {e : Env} {R : Room} {s : State} {m : MethodId} {args : Array Value} {below : List Frame} {meth : Method} {c : Code} {H : Heap} {locs : List Loc} {cells slots : Nat} {free : Addr → Prop} {ls : Array Slot} {rest : List Value} {Qc : Array Value → State → Outcome → State → Prop} {XC : String → State → State → Prop}
    {pc : Nat} {own E : String} {ce : Cell} {q : Addr} {mc ms : Nat} (hown : s.vm.findClass own = some m.cls) (hlocks : meth.locks = false)
    (hpass : ∀ z ∈ c.exceptionTable.toList, covers z pc = false ∨ (z.catchType ≠ 0 ∧ ∃ nm : String, (Cond.classLink own z.catchType nm).before args s = true ∧ va_Nc E nm s)) (hcell : H[q]? = some ce) (hv : ce.vm = .none) (hcl : s.vm.findClass E = some ce.cls)
    (hx : ∀ t : State, t.heap = H → s.vm.Alike t.vm → XC E s t) (hf : ∀ z ∈ locs, free z.base) (hc : cells ≤ mc) (hs : slots ≤ ms) :
    vx_W p l e R s m args below meth c H locs cells slots (vx_MQ below Qc XC args s mc ms free) (F0 m pc ls rest) q := by
  intro T hT X
  have hpl : e.platform.magicAccessors = ({} : Platform).magicAccessors := by rw [X.admits.platform]
  obtain ⟨vm', hW', X', st⟩ := X.outThrough hlocks q (g := F0 m pc ls rest) rfl rfl rfl (cell := ce) (by rw [hT]; exact hcell) (by rw [hv]; rfl)
    (by obtain ⟨k9, h9, -⟩ := Vm.findClass_spec hcl; exact ⟨k9, h9⟩) (fun z hz => by
      rcases hpass z hz with h | ⟨hz0, nm, hl1, hn1⟩
      · exact Or.inl h
      · obtain ⟨c6, hc6, hcl6⟩ := Cond.classLink_spec hown hl1 e.platform hpl
        obtain ⟨a8, b8, h1, h2, h3⟩ := hn1
        cases Option.some.inj (h1.symm.trans hcl)
        cases Option.some.inj (h2.symm.trans hc6)
        exact Or.inr ⟨hz0, _, hcl6, h3⟩)
  obtain ⟨g₀, hfr⟩ := X'.frames_eq
  have hcell9 : ((T.setVm vm').setFrames (.throwing q :: below)).heap[q]? = some ce := by
    show T.heap[q]? = some ce
    rw [hT]; exact hcell
  have hend : Ended ((T.setVm vm').setFrames (.throwing q :: below)) below (.threw q) := State.frames_setFrames _ (State.cur_lt_of_frames hfr)
  refine ⟨(T.setVm vm').setFrames (.throwing q :: below), ?_, .threw q, X'.here.running, hend, Or.inr ⟨q, rfl, E, ce, locs, hx _ hT (X'.ends _).1.alike, hcell9, hv, hcl, (X'.ends _).1, (X'.ends _).2.mono hc hs, hf⟩⟩
  rw [X.pushThrowing_eq]
  exact st
/-- a thing of a world lies in the heap -/
theorem vx_lt {D : va_G} {cl : List vw_C} {ws : va_W} {H1 : Heap} (h : va_P D cl ws H1) {k : Nat} {q : Nat × va_E} (hk : ws[k]? = some q) : q.1 < H1.size := (h k q hk).lt
end VXS
/-! ===== END ===== -/
/-! ===== BEGIN methods with a table of their own: called by a name, returning or throwing ===== -/
section VXH
/-! vx_backW, vx_callVX, vx_callSX, vx_callVW, vx_runVW, vx_runVX, vx_runSX, vx_ofWH follow the same proofs as their sisters above (Free/Laws.lean, Shelf42/LK1.lean); vx_outP calls Shelf42/NT130.lean (outThrough). -/
section
variable {l : Launch} {R : Room} {p : Program} {e : Env} {below : List Frame} {s : State} {sargs : Array Value} {y : MethodName} {len W9 : Nat}
theorem vx_backW {ws : List Cond} {rm : Room} {Pc : Array Value → State → Prop} {Qc : Array Value → State → Outcome → State → Prop} {XC : String → State → State → Prop} {mc ms : Nat} {free : Addr → Prop} {bytes : ByteArray} {maxL : Nat} {ret : Option FieldType} {hh : List (Nat × Nat × Nat × Nat)}
    (hM : vx_Met l y ws rm Pc Qc XC mc ms free) (hblind : FrameBlind Pc) (hrc : rm.cells = mc) (hrs : rm.slots = ms)
    (hframes : rm.frames + 1 ≤ R.frames) (hlocals : W9 + (maxL + 11) + rm.locals ≤ R.locals)
    (hws : ∀ w ∈ ws, ∀ a' U, s.WarmedH U.vm → w.before a' U = true) (hcode : Cond.codeWith y bytes maxL ret hh ∈ ws) (hinit : ∀ a' U, s.WarmedH U.vm → (Cond.initialized y.cls).before a' U = true) :
    vx_Back l R p e below s sargs y len W9 (PreOf R mc ms Pc) (PostOf Qc mc ms free) (vx_Post XC mc ms free) := by
  intro m meth c A g ig mk a X hg hsize hdg hW hn hp
  have h1 : (headSpec ws rm).pre.before a A.U = true := atoms_intro fun w hw => hws w hw _ _ X.warmed
  have h2 : (Cond.codeWith y bytes maxL ret hh).before a A.U = true := hws _ hcode _ _ X.warmed
  have h3 : (Cond.initialized y.cls).before a A.U = true := hinit _ _ X.warmed
  have h4 : A.cells + (headSpec ws rm).room.cells ≤ R.cells := by rw [show (headSpec ws rm).room.cells = mc from hrc]; exact hp.1
  have h5 : A.slots + (headSpec ws rm).room.slots ≤ R.slots := by rw [show (headSpec ws rm).room.slots = ms from hrs]; exact hp.2.1
  have hPc : Pc a (A.U.calling g mk a) := hblind _ _ _ _ hp.2.2
  obtain ⟨U, Ls, c0, s0⟩ := A
  dsimp only [Pt.U, Pt.locs, Pt.cells, Pt.slots] at h1 h2 h3 h4 h5 X hn hPc ⊢
  obtain ⟨m9, methY, cY, hn9, hmY, hcY, -, hlY, -⟩ := Cond.codeWith_spec h2
  cases Option.some.inj (hn9.symm.trans hn)
  obtain ⟨kY, hkY, -⟩ := className_of_methodNamed hn
  have hinitY : kY.init = .initialized := Cond.initialized_spec (findClass_of_methodNamed hn) hkY h3
  have h : At U g.method c below := by rw [hg]; exact X.here
  have hlocals9 : W9 + (maxL + 11) + (headSpec ws rm).room.locals ≤ R.locals := hlocals
  have happ : (headSpec ws rm).appliesLoose y e.platform (U.calling g mk a) = true :=
    Spec.appliesLoose_calling (g := g) h hdg hn hkY hinitY
      (X.room_calling (g := g) (R' := (headSpec ws rm).room) hsize hmY hcY hframes (by rw [hlY]; omega) h4 h5) h1
  obtain ⟨mid, hmid⟩ := h.above
  have hfr : (U.setTop g).frames = (.java g :: mid) ++ below := by rw [State.frames_setTop' g h.top, hmid]; rfl
  obtain ⟨o, s₂, hsteps, -, hend, hq⟩ := Steps.callFree hM p X.admits X.cas X.clock (acts := []) hfr happ hPc trivial
  have hq' : vx_Q Qc XC mc ms free a (U.calling g mk a) o s₂ := hq
  rw [State.frames_setTop' g h.top] at hend
  obtain ⟨g₀, hg0⟩ := Option.isSome_iff_exists.mp h.top
  obtain ⟨r, hr⟩ := State.topJava?_eq_some.mp hg0
  have hr' : (({ U with heap := s₂.heap, slotsUsed := s₂.slotsUsed } : State).setVm s₂.vm).frames = .java g₀ :: r := hr
  rcases hq' with ⟨hqc, L, hfe, hL⟩ | ⟨q, rfl, E, ce, L, hx, hce, hcv, hcl, hW₂, hsm, hL⟩
  · obtain ⟨⟨v, rfl⟩, hW₂, e2, q2, q3, q4, q5, q6⟩ := id hfe
    have e3 : s₂ = ({ (U.calling g mk a).setFrames s₂.frames with heap := s₂.heap, slotsUsed := s₂.slotsUsed } : State).setVm s₂.vm := by
      have : s₂ = ({ s₂ with vm := (U.calling g mk a).vm } : State).setVm s₂.vm := rfl
      rw [e2] at this
      exact this
    obtain ⟨c₂, i₂, len₂, hc₂, hd₂, hf₂⟩ := hend
    have hW' : U.WarmedH s₂.vm := hW₂
    have hcc : c₂ = c := by
      have h1 : s₂.code? g.method = U.code? g.method := by
        rw [State.code?_eq, State.code?_eq, hW'.alike.method?]
      exact Option.some.inj (hc₂.symm.trans (h1.trans h.code))
    subst hcc
    have hlen : len₂ = len := by rw [hdg] at hd₂; cases hd₂; rfl
    subst hlen
    have hs₂ : s₂ = (({ U with heap := s₂.heap, slotsUsed := s₂.slotsUsed } : State).setVm s₂.vm).setTop { g with pc := g.pc + len₂, stack := v.toList ++ g.stack } := by
      refine e3.trans ?_
      rw [hf₂, State.calling_eq h.top, State.setFrames_setFrames, State.setTop_of_frames _ hr', hr]
      rfl
    have hsame : U.sameButNew ({ U with heap := s₂.heap, slotsUsed := s₂.slotsUsed } : State) L mc ms := by
      refine ⟨?_, q2, q3, q4, q5, q6⟩
      obtain ⟨t, ht, -⟩ := State.frames_cons hr
      show ({ U with heap := s₂.heap, slotsUsed := s₂.slotsUsed } : State) = { U.setFrames U.frames with heap := s₂.heap, slotsUsed := s₂.slotsUsed }
      rw [State.setFrames_self ht]
    subst hg
    refine Or.inl ⟨v, ⟨(({ U with heap := s₂.heap, slotsUsed := s₂.slotsUsed } : State).setVm s₂.vm), Ls ++ L, c0 + mc, s0 + ms⟩,
      ⟨X.admits, X.cas, X.clock, X.frames, X.room, X.hears, X.method, X.code, (X.here.setHeapUsed s₂.heap s₂.slotsUsed).setVm hW'.alike, X.tail, State.WarmedH.trans X.warmed hW', X.limits, X.bytes, X.same.trans (hsame.setVm s.vm)⟩,
      ⟨g, mk, s₂, L, rfl, rfl, hqc, rfl, hL, rfl, rfl⟩, ?_⟩
    show Steps p.tables e below _ ((({ U with heap := s₂.heap, slotsUsed := s₂.slotsUsed } : State).setVm s₂.vm).setTop { g with pc := g.pc + len₂, stack := v.toList ++ g.stack })
    rw [← hs₂]
    exact hsteps
  · obtain ⟨e2, q2, q3, q4, q5, q6⟩ := id hsm
    have e3 : s₂ = ({ (U.calling g mk a).setFrames s₂.frames with heap := s₂.heap, slotsUsed := s₂.slotsUsed } : State).setVm s₂.vm := by
      have : s₂ = ({ s₂ with vm := (U.calling g mk a).vm } : State).setVm s₂.vm := rfl
      rw [e2] at this
      exact this
    have hf₂ : s₂.frames = .throwing q :: .java g :: U.frames.tail := hend
    have hW' : U.WarmedH s₂.vm := hW₂
    have hs₂ : s₂ = ((({ U with heap := s₂.heap, slotsUsed := s₂.slotsUsed } : State).setVm s₂.vm).setTop g).pushFrame (.throwing q) := by
      refine e3.trans ?_
      rw [hf₂, State.calling_eq h.top, State.setFrames_setFrames, State.pushFrame, State.frames_setTop _ hr', State.setTop_of_frames _ hr', State.setFrames_setFrames, hr]
      rfl
    have hsame : U.sameButNew ({ U with heap := s₂.heap, slotsUsed := s₂.slotsUsed } : State) L mc ms := by
      refine ⟨?_, q2, q3, q4, q5, q6⟩
      obtain ⟨t, ht, -⟩ := State.frames_cons hr
      show ({ U with heap := s₂.heap, slotsUsed := s₂.slotsUsed } : State) = { U.setFrames U.frames with heap := s₂.heap, slotsUsed := s₂.slotsUsed }
      rw [State.setFrames_self ht]
    subst hg
    refine Or.inr ⟨q, ⟨(({ U with heap := s₂.heap, slotsUsed := s₂.slotsUsed } : State).setVm s₂.vm), Ls ++ L, c0 + mc, s0 + ms⟩,
      ⟨X.admits, X.cas, X.clock, X.frames, X.room, X.hears, X.method, X.code, (X.here.setHeapUsed s₂.heap s₂.slotsUsed).setVm hW'.alike, X.tail, State.WarmedH.trans X.warmed hW', X.limits, X.bytes, X.same.trans (hsame.setVm s.vm)⟩,
      ⟨g, mk, s₂, L, E, ce, rfl, rfl, hx, hce, hcv, hcl, rfl, hL, rfl, rfl⟩, ?_⟩
    show Steps p.tables e below _ (((({ U with heap := s₂.heap, slotsUsed := s₂.slotsUsed } : State).setVm s₂.vm).setTop g).pushFrame (.throwing q))
    rw [← hs₂]
    exact hsteps
end
variable {p : Program} {l : Launch} {e : Env} {R : Room} {s : State} {m : MethodId} {args : Array Value} {below : List Frame} {meth : Method} {c : Code} {T : State} {H : Heap} {locs : List Loc} {cells slots : Nat}
theorem vx_callVX (X : Stand p l e R s m args below meth c T locs cells slots) (hexec : p.tables.exec = Jvm.exec) {own C : String} {index : Nat} {y : MethodName} {bytes : ByteArray} {maxL : Nat} {ret : Option FieldType} {hh : List (Nat × Nat × Nat × Nat)}
    (hown : s.vm.findClass own = some m.cls) (hlink : (Cond.methodLink own index y).before args s = true) (hinst : (Cond.instanceMethod y).before args s = true) (hsel : (Cond.selects C y y).before args s = true)
    (hcode : (Cond.codeWith y bytes maxL ret hh).before args s = true) (hy : y.cls ≠ "java/lang/invoke/MethodHandle" ∧ y.cls ≠ "java/lang/invoke/VarHandle")
    {W9 : Nat} {Pre : Pt → Array Value → Prop} {Post : Pt → Array Value → Option Value → Pt → Prop} {PostX : Pt → Array Value → Addr → Pt → Prop} (hK : vx_Back l R p e below s args y 3 W9 Pre Post PostX)
    {b : Addr} {cellB : Cell} (hcell : T.heap[b]? = some cellB) (hobj : cellB.vm.isStatics = false) (hcls : s.vm.findClass C = some cellB.cls)
    {g : JFrame} (hg : g.method = m) (hsize : g.locals.size = c.maxLocals) {argsL rest : List Value} (hlen : ∀ sig, parseMethodDescriptor y.desc = some sig → argsL.length = sig.parameters.length)
    (hstack : g.stack = argsL.reverse ++ .ref b :: rest) (hW : 2 * g.monitorRoom + (rest.map fun v => v.category).sum ≤ W9) (hdg : decode c.code g.pc = .ok (.invokevirtual index, 3))
    (hpre : ∀ vm₁, s.WarmedH vm₁ → Pre ⟨T.setVm vm₁, locs, cells, slots⟩ (Value.ref b :: argsL).toArray) :
    (∃ (v : Option Value) (vm₁ : Vm) (B : Pt), s.WarmedH vm₁ ∧ Stand p l e R s m args below meth c B.U B.locs B.cells B.slots ∧ Post ⟨T.setVm vm₁, locs, cells, slots⟩ (Value.ref b :: argsL).toArray v B ∧
      ∀ target, Steps p.tables e below (B.U.setTop { g with pc := g.pc + 3, stack := v.toList ++ rest }) target → Steps p.tables e below (T.setTop g) target) ∨
    (∃ (q : Addr) (vm₁ : Vm) (B : Pt), s.WarmedH vm₁ ∧ Stand p l e R s m args below meth c B.U B.locs B.cells B.slots ∧ PostX ⟨T.setVm vm₁, locs, cells, slots⟩ (Value.ref b :: argsL).toArray q B ∧
      Steps p.tables e below (T.setTop g) ((B.U.setTop { g with stack := rest }).pushFrame (.throwing q))) := by
  obtain ⟨mk, methM, hnamed, hmethM, hstM, habM⟩ := Cond.instanceMethod_spec hinst
  obtain ⟨m8, methM', cM, hn8, hmethM', -, -, -, -, -, -, hsigM⟩ := Cond.codeWith_spec hcode
  cases Option.some.inj (hn8.symm.trans hnamed)
  cases hmethM.symm.trans hmethM'
  obtain ⟨c2, r2, m2, q1, q2, q3, q4, kP, hkP, hkPi⟩ := Cond.selects_spec hsel
  cases hcls.symm.trans q1
  cases (State.methodFound?_of_named hnamed hy).symm.trans q2
  cases hnamed.symm.trans q3
  have hselP : selectMethod e.platform s.vm cellB.cls mk = .method mk := by rw [Launch.admits_selectMethod X.admits]; exact q4
  obtain ⟨vm₁, X₁, hstep₁⟩ := X.invokevirtual hexec hown hlink hnamed hmethM hstM hkP hkPi hy (a := b) (cell := cellB) hcell
    (fun z h => by rw [h] at hobj; cases hobj) hselP hmethM habM hkP hkPi (g := g) hg (argsL := argsL) (rest := rest) (hlen _ hsigM) hstack hdg
  rcases hK m meth c ⟨T.setVm vm₁, locs, cells, slots⟩ { g with stack := rest } (.invokevirtual index) mk (Value.ref b :: argsL).toArray X₁ hg hsize hdg hW (X₁.named hnamed) (hpre vm₁ X₁.warmed) with ⟨v, B, X', hpost, hsteps⟩ | ⟨q, B, X', hpost, hsteps⟩
  · exact Or.inl ⟨v, vm₁, B, X₁.warmed, X', hpost, fun target h => hstep₁ _ fun acts => by rw [doInvoke_state]; exact hsteps.trans h⟩
  · exact Or.inr ⟨q, vm₁, B, X₁.warmed, X', hpost, hstep₁ _ fun acts => by rw [doInvoke_state]; exact hsteps⟩
theorem vx_callSX (X : Stand p l e R s m args below meth c T locs cells slots) (hexec : p.tables.exec = Jvm.exec) {own : String} {index : Nat} {y : MethodName} {bytes : ByteArray} {maxL : Nat} {ret : Option FieldType} {hh : List (Nat × Nat × Nat × Nat)}
    (hown : s.vm.findClass own = some m.cls) (hlink : (Cond.methodLink own index y).before args s = true) (hstat : (Cond.static y).before args s = true) (hinit : (Cond.initialized y.cls).before args s = true)
    (hcode : (Cond.codeWith y bytes maxL ret hh).before args s = true) (hy : y.cls ≠ "java/lang/invoke/MethodHandle" ∧ y.cls ≠ "java/lang/invoke/VarHandle")
    {W9 : Nat} {Pre : Pt → Array Value → Prop} {Post : Pt → Array Value → Option Value → Pt → Prop} {PostX : Pt → Array Value → Addr → Pt → Prop} (hK : vx_Back l R p e below s args y 3 W9 Pre Post PostX)
    {g : JFrame} (hg : g.method = m) (hsize : g.locals.size = c.maxLocals) {argsL rest : List Value} (hlen : ∀ sig, parseMethodDescriptor y.desc = some sig → argsL.length = sig.parameters.length)
    (hstack : g.stack = argsL.reverse ++ rest) (hW : 2 * g.monitorRoom + (rest.map fun v => v.category).sum ≤ W9) (hdg : decode c.code g.pc = .ok (.invokestatic index, 3))
    (hpre : ∀ vm₁, s.WarmedH vm₁ → Pre ⟨T.setVm vm₁, locs, cells, slots⟩ argsL.toArray) :
    (∃ (v : Option Value) (vm₁ : Vm) (B : Pt), s.WarmedH vm₁ ∧ Stand p l e R s m args below meth c B.U B.locs B.cells B.slots ∧ Post ⟨T.setVm vm₁, locs, cells, slots⟩ argsL.toArray v B ∧
      ∀ target, Steps p.tables e below (B.U.setTop { g with pc := g.pc + 3, stack := v.toList ++ rest }) target → Steps p.tables e below (T.setTop g) target) ∨
    (∃ (q : Addr) (vm₁ : Vm) (B : Pt), s.WarmedH vm₁ ∧ Stand p l e R s m args below meth c B.U B.locs B.cells B.slots ∧ PostX ⟨T.setVm vm₁, locs, cells, slots⟩ argsL.toArray q B ∧
      Steps p.tables e below (T.setTop g) ((B.U.setTop { g with stack := rest }).pushFrame (.throwing q))) := by
  obtain ⟨mk, methM, cM, hnamed, hmethM, -, -, -, -, -, -, hsigM⟩ := Cond.codeWith_spec hcode
  have hstatic : methM.isStatic = true := Cond.static_spec hnamed hmethM hstat
  obtain ⟨kP, hkP, -⟩ := className_of_methodNamed hnamed
  have hinitP : kP.init = .initialized := Cond.initialized_spec (findClass_of_methodNamed hnamed) hkP hinit
  obtain ⟨vm₁, X₁, hstep₁⟩ := X.invokestatic hexec hown hlink hnamed hmethM hstatic hkP hinitP hy (g := g) hg (argsL := argsL) (rest := rest) (hlen _ hsigM) hstack hdg
  rcases hK m meth c ⟨T.setVm vm₁, locs, cells, slots⟩ { g with stack := rest } (.invokestatic index) mk argsL.toArray X₁ hg hsize hdg hW (X₁.named hnamed) (hpre vm₁ X₁.warmed) with ⟨v, B, X', hpost, hsteps⟩ | ⟨q, B, X', hpost, hsteps⟩
  · exact Or.inl ⟨v, vm₁, B, X₁.warmed, X', hpost, fun target h => hstep₁ _ fun acts => by rw [doInvoke_state]; exact hsteps.trans h⟩
  · exact Or.inr ⟨q, vm₁, B, X₁.warmed, X', hpost, hstep₁ _ fun acts => by rw [doInvoke_state]; exact hsteps⟩
theorem vx_callVW (X : Stand p l e R s m args below meth c T locs cells slots) (hexec : p.tables.exec = Jvm.exec) {own C : String} {index : Nat} {y : MethodName} {bytes : ByteArray} {maxL : Nat} {ret : Option FieldType} {hh : List (Nat × Nat × Nat × Nat)}
    (hown : s.vm.findClass own = some m.cls) (hlink : (Cond.methodLink own index y).before args s = true) (hinst : (Cond.instanceMethod y).before args s = true) (hsel : (Cond.selects C y y).before args s = true)
    (hcode : (Cond.codeWith y bytes maxL ret hh).before args s = true) (hy : y.cls ≠ "java/lang/invoke/MethodHandle" ∧ y.cls ≠ "java/lang/invoke/VarHandle")
    {W9 : Nat} {Pre : Pt → Array Value → Prop} {Post : Pt → Array Value → Option Value → Pt → Prop} (hK : Back l R p e below s args y 3 W9 Pre Post)
    {b : Addr} {cellB : Cell} (hcell : T.heap[b]? = some cellB) (hobj : cellB.vm.isStatics = false) (hcls : s.vm.findClass C = some cellB.cls)
    {g : JFrame} (hg : g.method = m) (hsize : g.locals.size = c.maxLocals) {argsL rest : List Value} (hlen : ∀ sig, parseMethodDescriptor y.desc = some sig → argsL.length = sig.parameters.length)
    (hstack : g.stack = argsL.reverse ++ .ref b :: rest) (hW : 2 * g.monitorRoom + (rest.map fun v => v.category).sum ≤ W9) (hdg : decode c.code g.pc = .ok (.invokevirtual index, 3))
    (hpre : ∀ vm₁, s.WarmedH vm₁ → Pre ⟨T.setVm vm₁, locs, cells, slots⟩ (Value.ref b :: argsL).toArray) :
    ∃ (v : Option Value) (vm₁ : Vm) (B : Pt), s.WarmedH vm₁ ∧ Stand p l e R s m args below meth c B.U B.locs B.cells B.slots ∧ Post ⟨T.setVm vm₁, locs, cells, slots⟩ (Value.ref b :: argsL).toArray v B ∧
      ∀ target, Steps p.tables e below (B.U.setTop { g with pc := g.pc + 3, stack := v.toList ++ rest }) target → Steps p.tables e below (T.setTop g) target := by
  obtain ⟨mk, methM, hnamed, hmethM, hstM, habM⟩ := Cond.instanceMethod_spec hinst
  obtain ⟨m8, methM', cM, hn8, hmethM', -, -, -, -, -, -, hsigM⟩ := Cond.codeWith_spec hcode
  cases Option.some.inj (hn8.symm.trans hnamed)
  cases hmethM.symm.trans hmethM'
  obtain ⟨c2, r2, m2, q1, q2, q3, q4, kP, hkP, hkPi⟩ := Cond.selects_spec hsel
  cases hcls.symm.trans q1
  cases (State.methodFound?_of_named hnamed hy).symm.trans q2
  cases hnamed.symm.trans q3
  have hselP : selectMethod e.platform s.vm cellB.cls mk = .method mk := by rw [Launch.admits_selectMethod X.admits]; exact q4
  obtain ⟨vm₁, X₁, hstep₁⟩ := X.invokevirtual hexec hown hlink hnamed hmethM hstM hkP hkPi hy (a := b) (cell := cellB) hcell
    (fun z h => by rw [h] at hobj; cases hobj) hselP hmethM habM hkP hkPi (g := g) hg (argsL := argsL) (rest := rest) (hlen _ hsigM) hstack hdg
  obtain ⟨v, B, X', hpost, hsteps⟩ := hK m meth c ⟨T.setVm vm₁, locs, cells, slots⟩ { g with stack := rest } (.invokevirtual index) mk (Value.ref b :: argsL).toArray X₁ hg hsize hdg hW (X₁.named hnamed) (hpre vm₁ X₁.warmed)
  exact ⟨v, vm₁, B, X₁.warmed, X', hpost, fun target h => hstep₁ _ fun acts => by rw [doInvoke_state]; exact hsteps.trans h⟩
abbrev vx_CVW (R : Room) (s : State) (args : Array Value) (own C : String) (index : Nat) (y : MethodName) (bytes : ByteArray) (maxL : Nat) (ret : Option FieldType) (hh : List (Nat × Nat × Nat × Nat)) (ws : List Cond) (rm : Room) (mc ms n : Nat) : Prop :=
  (rm.cells = mc ∧ rm.slots = ms ∧ rm.frames + 1 ≤ R.frames ∧ 8 + (maxL + 11) + rm.locals ≤ R.locals ∧ (∀ w ∈ ws, ∀ (a' : Array Value) (U : State), s.WarmedH U.vm → w.before a' U = true) ∧ Cond.codeWith y bytes maxL ret hh ∈ ws) ∧
  (Cond.codeWith y bytes maxL ret hh).before args s = true ∧ (Cond.initialized y.cls).before args s = true ∧ (y.cls ≠ "java/lang/invoke/MethodHandle" ∧ y.cls ≠ "java/lang/invoke/VarHandle") ∧
  (∀ sig, parseMethodDescriptor y.desc = some sig → n = sig.parameters.length) ∧ (Cond.methodLink own index y).before args s = true ∧ (Cond.instanceMethod y).before args s = true ∧ (Cond.selects C y y).before args s = true
theorem vx_cwVW {own C : String} {index maxL mc ms : Nat} {y : MethodName} {bytes : ByteArray} {ret : Option FieldType} {hh : List (Nat × Nat × Nat × Nat)} {Ts ws ws' : List Cond} {rm : Room} (n : Nat) (ht : ∀ w ∈ Ts, w.before args s = true) (hT : GoodIn Ts (wsV own index C y ws)) (hw : ws = Cond.codeWith y bytes maxL ret hh :: ws') (hrc : rm.cells = mc) (hrs : rm.slots = ms)
    (hd : y.cls = C ∧ y.cls ≠ "java/lang/invoke/MethodHandle" ∧ y.cls ≠ "java/lang/invoke/VarHandle" ∧ (parseMethodDescriptor y.desc).map (fun d => d.parameters.length) = some n) (hR : rm.frames + 1 ≤ R.frames ∧ 8 + (maxL + 11) + rm.locals ≤ R.locals) :
    vx_CVW R s args own C index y bytes maxL ret hh ws rm mc ms n := by
  obtain ⟨hC, hd⟩ := hd
  subst hC
  have ok : ∀ w ∈ wsV own index y.cls y ws, w.before args s = true := fun w h => ht w (hT w h).1
  have hG : GoodIn Ts ws := fun w h => hT w (by unfold wsV; exact List.mem_append_right _ h)
  have hc : Cond.codeWith y bytes maxL ret hh ∈ ws := by rw [hw]; exact List.mem_cons_self
  refine ⟨⟨hrc, hrs, hR.1, hR.2, pay_in ht hG, hc⟩, ht _ (hG _ hc).1, ok _ (by simp [wsV]), ⟨hd.1, hd.2.1⟩, fun sig h => ?_, ok _ (by simp [wsV]), ok _ (by simp [wsV]), ok _ (by simp [wsV])⟩
  have h2 := hd.2.2
  rw [h] at h2
  exact (Option.some.inj h2).symm
theorem vx_runVW {y : MethodName} {bytes cc : ByteArray} {maxL nL mc ms n index : Nat} {ret : Option FieldType} {hh : List (Nat × Nat × Nat × Nat)} {ws : List Cond} {rm : Room} {Pc : Array Value → State → Prop} {Qc : Array Value → State → Outcome → State → Prop} {free : Addr → Prop} {Ts : List Cond} {own C : String} {b : Addr} {As rest : List Value} {g : JFrame}
    (S : CallFix p m c cc nL s args Ts own) (hM : Met l y ws rm Pc Qc mc ms free) (cw : vx_CVW R s args own C index y bytes maxL ret hh ws rm mc ms n) (hp : PreV s H C b Pc As)
    (hg : g.method = m) (hn : As.length = n) (hsize : g.locals.size = nL) (hstack : g.stack = As.reverse ++ .ref b :: rest) (hW : 2 * g.monitorRoom + (rest.map fun v => v.category).sum ≤ 8) (hdg : decode cc g.pc = .ok (.invokevirtual index, 3)) (hf : cells + mc ≤ R.cells ∧ slots + ms ≤ R.slots) :
    va_Run p l e R s m args below meth c H locs cells slots mc ms g rest (Qc (Value.ref b :: As).toArray) free := by
  obtain ⟨⟨hrc, hrs, hfr, hlo, hws, hcw⟩, hcode, hini, hy, hlen, hl, hin, hse⟩ := cw
  have hK : Back l R p e below s args y 3 8 (PreOf R mc ms Pc) (PostOf Qc mc ms free) := va_backW (hh := hh) (bytes := bytes) (maxL := maxL) (ret := ret) hM hp.1 hrc hrs hfr hlo hws hcw (fun a' U hW => word_at hW (Or.inl (by first | rfl | simp [Cond.onTables, Cond.keeps, Cond.steady])) hini)
  obtain ⟨hx, hb, hml, ho, -⟩ := S
  obtain ⟨-, ⟨cellB, hcB, hoB, hclB⟩, hPc⟩ := hp
  intro T hT X
  obtain ⟨v, vm₁, ⟨U', l2, c2, s2⟩, hW₁, X', ⟨g', mk, t, L, e1, e2, hq, h1, hL, h2, h3⟩, st⟩ := vx_callVW X hx (C := C) (hh := hh) (bytes := bytes) (maxL := maxL) (ret := ret) ho hl hin hse hcode hy hK (by rw [hT]; exact hcB) hoB hclB hg (hsize.trans hml.symm) (argsL := As) (rest := rest) (fun sig h => hn.trans (hlen sig h)) hstack hW (by rw [hb]; exact hdg)
    (fun vm₁ hW₁ => ⟨hf.1, hf.2, hPc (T.setVm vm₁) hT hW₁⟩)
  dsimp only [Pt.U, Pt.locs, Pt.cells, Pt.slots] at X' e1 e2 h1 h2 h3 st
  subst h1; subst h2; subst h3
  exact ⟨v, (T.setVm vm₁).calling g' mk (Value.ref b :: As).toArray, t, U', L, hT, X', hL, e1, e2, hq, st⟩
section
variable {y : MethodName} {bytes cc : ByteArray} {maxL nL mc ms n index : Nat} {ret : Option FieldType} {ws : List Cond} {rm : Room} {Pc : Array Value → State → Prop} {Qc : Array Value → State → Outcome → State → Prop} {XC : String → State → State → Prop} {free : Addr → Prop} {Ts : List Cond} {own C : String} {b : Addr} {As rest : List Value} {g : JFrame}
theorem vx_runVX {hh : List (Nat × Nat × Nat × Nat)} (S : CallFix p m c cc nL s args Ts own) (hM : vx_Met l y ws rm Pc Qc XC mc ms free) (cw : vx_CVW R s args own C index y bytes maxL ret hh ws rm mc ms n) (hp : PreV s H C b Pc As)
    (hg : g.method = m) (hn : As.length = n) (hsize : g.locals.size = nL) (hstack : g.stack = As.reverse ++ .ref b :: rest) (hW : 2 * g.monitorRoom + (rest.map fun v => v.category).sum ≤ 8) (hdg : decode cc g.pc = .ok (.invokevirtual index, 3)) (hf : cells + mc ≤ R.cells ∧ slots + ms ≤ R.slots) :
    vx_Run p l e R s m args below meth c H locs cells slots mc ms g rest (Qc (Value.ref b :: As).toArray) XC free := by
  obtain ⟨⟨hrc, hrs, hfr, hlo, hws, hcw⟩, hcode, hini, hy, hlen, hl, hin, hse⟩ := cw
  have hK : vx_Back l R p e below s args y 3 8 (PreOf R mc ms Pc) (PostOf Qc mc ms free) (vx_Post XC mc ms free) := vx_backW (hh := hh) (bytes := bytes) (maxL := maxL) (ret := ret) hM hp.1 hrc hrs hfr hlo hws hcw (fun a' U hW => word_at hW (Or.inl (by first | rfl | simp [Cond.onTables, Cond.keeps, Cond.steady])) hini)
  obtain ⟨hx, hb, hml, ho, -⟩ := S
  obtain ⟨-, ⟨cellB, hcB, hoB, hclB⟩, hPc⟩ := hp
  intro T hT X
  rcases vx_callVX X hx (C := C) (hh := hh) (bytes := bytes) (maxL := maxL) (ret := ret) ho hl hin hse hcode hy hK (by rw [hT]; exact hcB) hoB hclB hg (hsize.trans hml.symm) (argsL := As) (rest := rest) (fun sig h => hn.trans (hlen sig h)) hstack hW (by rw [hb]; exact hdg)
    (fun vm₁ hW₁ => ⟨hf.1, hf.2, hPc (T.setVm vm₁) hT hW₁⟩) with ⟨v, vm₁, ⟨U', l2, c2, s2⟩, hW₁, X', ⟨g', mk, t, L, e1, e2, hq, h1, hL, h2, h3⟩, st⟩ | ⟨q, vm₁, ⟨U', l2, c2, s2⟩, hW₁, X', ⟨g', mk, t, L, E, ce, e1, e2, hq, hce, hcv, hcl, h1, hL, h2, h3⟩, st⟩
  · dsimp only [Pt.U, Pt.locs, Pt.cells, Pt.slots] at X' e1 e2 h1 h2 h3 st
    subst h1; subst h2; subst h3
    exact Or.inl ⟨v, (T.setVm vm₁).calling g' mk (Value.ref b :: As).toArray, t, U', L, hT, X', hL, e1, e2, hq, st⟩
  · dsimp only [Pt.U, Pt.locs, Pt.cells, Pt.slots] at X' e1 e2 h1 h2 h3 st hcl
    subst h1; subst h2; subst h3
    exact Or.inr ⟨q, (T.setVm vm₁).calling g' mk (Value.ref b :: As).toArray, t, U', L, E, ce, hT, X', hL, e1, e2, hq, hce, hcv, vx_cls hW₁ hcl, st⟩
theorem vx_runSX {hh : List (Nat × Nat × Nat × Nat)} (S : CallFix p m c cc nL s args Ts own) (hM : vx_Met l y ws rm Pc Qc XC mc ms free) (cw : vx_CSW R s args own index y bytes maxL ret hh ws rm mc ms n) (hp : PreS s H Pc As)
    (hg : g.method = m) (hn : As.length = n) (hsize : g.locals.size = nL) (hstack : g.stack = As.reverse ++ rest) (hW : 2 * g.monitorRoom + (rest.map fun v => v.category).sum ≤ 8) (hdg : decode cc g.pc = .ok (.invokestatic index, 3)) (hf : cells + mc ≤ R.cells ∧ slots + ms ≤ R.slots) :
    vx_Run p l e R s m args below meth c H locs cells slots mc ms g rest (Qc As.toArray) XC free := by
  obtain ⟨⟨hrc, hrs, hfr, hlo, hws, hcw⟩, hcode, hini, hy, hlen, hl, hstt⟩ := cw
  have hK : vx_Back l R p e below s args y 3 8 (PreOf R mc ms Pc) (PostOf Qc mc ms free) (vx_Post XC mc ms free) := vx_backW (hh := hh) (bytes := bytes) (maxL := maxL) (ret := ret) hM hp.1 hrc hrs hfr hlo hws hcw (fun a' U hW => word_at hW (Or.inl (by first | rfl | simp [Cond.onTables, Cond.keeps, Cond.steady])) hini)
  obtain ⟨hx, hb, hml, ho, -⟩ := S
  intro T hT X
  rcases vx_callSX X hx (hh := hh) (bytes := bytes) (maxL := maxL) (ret := ret) ho hl hstt hini hcode hy hK hg (hsize.trans hml.symm) (argsL := As) (rest := rest) (fun sig h => hn.trans (hlen sig h)) hstack hW (by rw [hb]; exact hdg)
    (fun vm₁ hW₁ => ⟨hf.1, hf.2, hp.2 (T.setVm vm₁) hT hW₁⟩) with ⟨v, vm₁, ⟨U', l2, c2, s2⟩, hW₁, X', ⟨g', mk, t, L, e1, e2, hq, h1, hL, h2, h3⟩, st⟩ | ⟨q, vm₁, ⟨U', l2, c2, s2⟩, hW₁, X', ⟨g', mk, t, L, E, ce, e1, e2, hq, hce, hcv, hcl, h1, hL, h2, h3⟩, st⟩
  · dsimp only [Pt.U, Pt.locs, Pt.cells, Pt.slots] at X' e1 e2 h1 h2 h3 st
    subst h1; subst h2; subst h3
    exact Or.inl ⟨v, (T.setVm vm₁).calling g' mk As.toArray, t, U', L, hT, X', hL, e1, e2, hq, st⟩
  · dsimp only [Pt.U, Pt.locs, Pt.cells, Pt.slots] at X' e1 e2 h1 h2 h3 st hcl
    subst h1; subst h2; subst h3
    exact Or.inr ⟨q, (T.setVm vm₁).calling g' mk As.toArray, t, U', L, E, ce, hT, X', hL, e1, e2, hq, hce, hcv, vx_cls hW₁ hcl, st⟩
end
end VXH
theorem vx_ofWH {l : Launch} {y : MethodName} {ws ws' : List Cond} {rm : Room} {Pc : Array Value → State → Prop} {Qc : Array Value → State → Outcome → State → Prop} {XC : String → State → State → Prop} {mc ms : Nat} {free : Addr → Prop} {cc : ByteArray} {maxL : Nat} {ret : Option FieldType} {hh : List (Nat × Nat × Nat × Nat)}
    (hy : plainName y.cls = true) (hw : ws = Cond.codeWith y cc maxL ret hh :: ws')
    (body : ∀ p e s m args below meth c s₁, BodyLoose p l y (headSpec ws rm) cc maxL ret e s m args below meth c s₁ → c.maxLocals = maxL → Pc args s →
      W p l e (headSpec ws rm).room s m args below meth c s.heap [] 0 0 (vx_MQ below Qc XC args s mc ms free) (entryFrame m args maxL)) : vx_Met l y ws rm Pc Qc XC mc ms free := by
  refine MetFree.of_bodyS (code := cc) (maxLocals := maxL) (ret := ret) hy ?_ ?_
  · intro args s m h hn
    obtain ⟨m9, meth, c, hn9, h1, h2, h3, h4, -, h5, h6, -⟩ := Cond.codeWith_spec (atoms_spec (ws := ws) h _ (by rw [hw]; exact List.mem_cons_self))
    cases hn.symm.trans hn9
    exact ⟨meth, c, h1, h2, h3, h4, h5, h6⟩
  · intro p e s m args below meth c s₁ B hml hP _
    have hh0 : s₁.heap = s.heap := by rw [B.state]; rfl
    obtain ⟨t, a1, o, b1, b2, b3⟩ := body p e s m args below meth c s₁ B hml hP s₁ hh0 (Stand.of_body B)
    exact ⟨t, o, a1, b1, b2, b3⟩
/-! ===== END ===== -/
end
section
def RX0 : String := "ThreeTimes$Game"
def TX0 : u_T := fun k => match k with
  | 0 => ("ThreeTimes$Game", "coins", "I", false)
  | 1 => ("ThreeTimes$Game", "times", "I", false)
  | 2 => ("ThreeTimes$Game", "z", "I", false)
  | 3 => ("ThreeTimes$Game", "senders", "LThreeTimes$Table;", true)
  | 4 => ("ThreeTimes$Game", "returners", "LThreeTimes$Table;", true)
  | _ => ("ThreeTimes$Game", "pairs", "LThreeTimes$Table;", true)
def tyX0 : Nat → FieldType := fun k => match k with
  | 0 => .int
  | 1 => .int
  | 2 => .int
  | 3 => .object "ThreeTimes$Table"
  | 4 => .object "ThreeTimes$Table"
  | _ => .object "ThreeTimes$Table"
abbrev wsX00 : List Cond := u_ws RX0 TX0 6
theorem nmX0 : ∀ a, a < 6 → ∀ b, b < 6 → a ≠ b → (TX0 a).2.1 ≠ (TX0 b).2.1 := by decide +kernel
theorem tyX0_ok : ∀ k, k < 6 → parseFieldDescriptor (TX0 k).2.2.1 = some (tyX0 k) := by decide +kernel
abbrev cX0_init : ByteArray := prog_2_method_1_code
def yX0_init : MethodName := ⟨RX0, "<init>", "()V"⟩
abbrev cX0_become : ByteArray := prog_2_method_2_code
def yX0_become : MethodName := ⟨RX0, "become", "(LThreeTimes$Game;)V"⟩
def RX1 : String := "ThreeTimes$Meeting"
def TX1 : u_T := fun k => match k with
  | 0 => ("ThreeTimes$Meeting", "coins", "I", false)
  | 1 => ("ThreeTimes$Meeting", "times", "I", false)
  | 2 => ("ThreeTimes$Meeting", "z", "I", false)
  | 3 => ("ThreeTimes$Meeting", "kind", "I", false)
  | 4 => ("ThreeTimes$Meeting", "figure", "I", false)
  | 5 => ("ThreeTimes$Meeting", "holds", "I", false)
  | 6 => ("ThreeTimes$Meeting", "box", "I", false)
  | 7 => ("ThreeTimes$Meeting", "share", "I", false)
  | 8 => ("ThreeTimes$Meeting", "least", "I", false)
  | 9 => ("ThreeTimes$Meeting", "seen", "I", false)
  | 10 => ("ThreeTimes$Meeting", "word", "I", false)
  | 11 => ("ThreeTimes$Meeting", "everCame", "I", false)
  | 12 => ("ThreeTimes$Meeting", "everBack", "I", false)
  | 13 => ("ThreeTimes$Meeting", "lastBack", "I", false)
  | 14 => ("ThreeTimes$Meeting", "sent", "I", false)
  | _ => ("ThreeTimes$Meeting", "came", "I", false)
def tyX1 : Nat → FieldType := fun k => match k with
  | 0 => .int
  | 1 => .int
  | 2 => .int
  | 3 => .int
  | 4 => .int
  | 5 => .int
  | 6 => .int
  | 7 => .int
  | 8 => .int
  | 9 => .int
  | 10 => .int
  | 11 => .int
  | 12 => .int
  | 13 => .int
  | 14 => .int
  | _ => .int
abbrev wsX10 : List Cond := u_ws RX1 TX1 16
theorem nmX1 : ∀ a, a < 16 → ∀ b, b < 16 → a ≠ b → (TX1 a).2.1 ≠ (TX1 b).2.1 := by decide +kernel
theorem tyX1_ok : ∀ k, k < 16 → parseFieldDescriptor (TX1 k).2.2.1 = some (tyX1 k) := by decide +kernel
abbrev cX1_init : ByteArray := prog_3_method_1_code
def yX1_init : MethodName := ⟨RX1, "<init>", "()V"⟩
abbrev cX1_nameOfReturner : ByteArray := prog_3_method_2_code
def yX1_nameOfReturner : MethodName := ⟨RX1, "nameOfReturner", "()I"⟩
abbrev cX1_draw : ByteArray := prog_3_method_3_code
def yX1_draw : MethodName := ⟨RX1, "draw", "()I"⟩
abbrev cX1_sendNow : ByteArray := prog_3_method_4_code
def yX1_sendNow : MethodName := ⟨RX1, "sendNow", "()I"⟩
abbrev cX1_allIfHeld : ByteArray := prog_3_method_5_code
def yX1_allIfHeld : MethodName := ⟨RX1, "allIfHeld", "(I)I"⟩
abbrev cX1_allByLot : ByteArray := prog_3_method_6_code
def yX1_allByLot : MethodName := ⟨RX1, "allByLot", "()I"⟩
abbrev cX1_wouldSend : ByteArray := prog_3_method_7_code
def yX1_wouldSend : MethodName := ⟨RX1, "wouldSend", "()I"⟩
abbrev cX1_sendBackOf : ByteArray := prog_3_method_8_code
def yX1_sendBackOf : MethodName := ⟨RX1, "sendBackOf", "(IZ)I"⟩
abbrev cX1_play : ByteArray := prog_3_method_9_code
def yX1_play : MethodName := ⟨RX1, "play", "(Z)V"⟩
abbrev cX1_keptOver : ByteArray := prog_3_method_10_code
def yX1_keptOver : MethodName := ⟨RX1, "keptOver", "(I)I"⟩
abbrev cX1_senderHasBy : ByteArray := prog_3_method_11_code
def yX1_senderHasBy : MethodName := ⟨RX1, "senderHasBy", "(I)I"⟩
abbrev cX1_faceOneWhoKeepsAll : ByteArray := prog_3_method_12_code
def yX1_faceOneWhoKeepsAll : MethodName := ⟨RX1, "faceOneWhoKeepsAll", "()V"⟩
def RX2 : String := "ThreeTimes$Script"
def TX2 : u_T := fun k => match k with
  | 0 => ("ThreeTimes$Script", "statements", "LThreeTimes$Table;", true)
  | _ => ("ThreeTimes$Script", "at", "I", false)
def tyX2 : Nat → FieldType := fun k => match k with
  | 0 => .object "ThreeTimes$Table"
  | _ => .int
abbrev wsX20 : List Cond := u_ws RX2 TX2 2
theorem nmX2 : ∀ a, a < 2 → ∀ b, b < 2 → a ≠ b → (TX2 a).2.1 ≠ (TX2 b).2.1 := by decide +kernel
theorem tyX2_ok : ∀ k, k < 2 → parseFieldDescriptor (TX2 k).2.2.1 = some (tyX2 k) := by decide +kernel
abbrev cX2_init : ByteArray := prog_4_method_1_code
def yX2_init : MethodName := ⟨RX2, "<init>", "()V"⟩
abbrev cX2_takesIn : ByteArray := prog_4_method_2_code
def yX2_takesIn : MethodName := ⟨RX2, "takesIn", "(LThreeTimes$Shelf;)Z"⟩
abbrev cX2_takesStatement : ByteArray := prog_4_method_3_code
def yX2_takesStatement : MethodName := ⟨RX2, "takesStatement", "(LThreeTimes$Shelf;)Z"⟩
abbrev cX2_takes : ByteArray := prog_4_method_4_code
def yX2_takes : MethodName := ⟨RX2, "takes", "(LThreeTimes$Shelf;I)Z"⟩
abbrev cX2_takesDigit : ByteArray := prog_4_method_5_code
def yX2_takesDigit : MethodName := ⟨RX2, "takesDigit", "(LThreeTimes$Shelf;I)Z"⟩
abbrev cX2_takesPart : ByteArray := prog_4_method_6_code
def yX2_takesPart : MethodName := ⟨RX2, "takesPart", "(LThreeTimes$Shelf;III)Z"⟩
abbrev cX2_takesNumber : ByteArray := prog_4_method_7_code
def yX2_takesNumber : MethodName := ⟨RX2, "takesNumber", "(LThreeTimes$Shelf;II)Z"⟩
abbrev cX2_digitOf : ByteArray := prog_4_method_8_code
def yX2_digitOf : MethodName := ⟨RX2, "digitOf", "(I)I"⟩
def RX3 : String := "ThreeTimes$Shelf"
def TX3 : u_T := fun k => match k with
  | 0 => ("ThreeTimes$Shelf", "held", "I", false)
  | 1 => ("ThreeTimes$Shelf", "number", "I", false)
  | 2 => ("ThreeTimes$Shelf", "kind", "I", false)
  | 3 => ("ThreeTimes$Shelf", "figure", "I", false)
  | 4 => ("ThreeTimes$Shelf", "holds", "I", false)
  | 5 => ("ThreeTimes$Shelf", "sort", "I", false)
  | 6 => ("ThreeTimes$Shelf", "size", "I", false)
  | _ => ("ThreeTimes$Shelf", "elements", "[I", true)
def tyX3 : Nat → FieldType := fun k => match k with
  | 0 => .int
  | 1 => .int
  | 2 => .int
  | 3 => .int
  | 4 => .int
  | 5 => .int
  | 6 => .int
  | _ => .array .int
abbrev wsX30 : List Cond := u_ws RX3 TX3 8
theorem nmX3 : ∀ a, a < 8 → ∀ b, b < 8 → a ≠ b → (TX3 a).2.1 ≠ (TX3 b).2.1 := by decide +kernel
theorem tyX3_ok : ∀ k, k < 8 → parseFieldDescriptor (TX3 k).2.2.1 = some (tyX3 k) := by decide +kernel
abbrev cX3_init : ByteArray := prog_5_method_1_code
def yX3_init : MethodName := ⟨RX3, "<init>", "()V"⟩
abbrev cX3_refusalAsRow : ByteArray := prog_5_method_2_code
def yX3_refusalAsRow : MethodName := ⟨RX3, "refusalAsRow", "()I"⟩
abbrev cX3_refusalAsSender : ByteArray := prog_5_method_3_code
def yX3_refusalAsSender : MethodName := ⟨RX3, "refusalAsSender", "()I"⟩
abbrev cX3_becomeRow : ByteArray := prog_5_method_4_code
def yX3_becomeRow : MethodName := ⟨RX3, "becomeRow", "(II)V"⟩
abbrev cX3_has : ByteArray := prog_5_method_5_code
def yX3_has : MethodName := ⟨RX3, "has", "(I)Z"⟩
abbrev cX3_hasRun : ByteArray := prog_5_method_6_code
def yX3_hasRun : MethodName := ⟨RX3, "hasRun", "(II)Z"⟩
abbrev cX3_read : ByteArray := prog_5_method_7_code
def yX3_read : MethodName := ⟨RX3, "read", "(I)I"⟩
abbrev cX3_write : ByteArray := prog_5_method_8_code
def yX3_write : MethodName := ⟨RX3, "write", "(II)V"⟩
abbrev cX3_leastNumber : ByteArray := prog_5_method_9_code
def yX3_leastNumber : MethodName := ⟨RX3, "leastNumber", "()I"⟩
abbrev cX3_isOfSendings : ByteArray := prog_5_method_10_code
def yX3_isOfSendings : MethodName := ⟨RX3, "isOfSendings", "(I)Z"⟩
abbrev cX3_sum : ByteArray := prog_5_method_11_code
def yX3_sum : MethodName := ⟨RX3, "sum", "()I"⟩
abbrev cX3_signOf : ByteArray := prog_5_method_12_code
def yX3_signOf : MethodName := ⟨RX3, "signOf", "(II)I"⟩
abbrev cX3_faithOfSender : ByteArray := prog_5_method_13_code
def yX3_faithOfSender : MethodName := ⟨RX3, "faithOfSender", "()I"⟩
abbrev cX3_throwFailure : ByteArray := prog_5_method_14_code
def yX3_throwFailure : MethodName := ⟨RX3, "throwFailure", "()V"⟩
def RX4 : String := "ThreeTimes$Table"
def TX4 : u_T := fun k => match k with
  | 0 => ("ThreeTimes$Table", "most", "I", true)
  | 1 => ("ThreeTimes$Table", "columns", "I", true)
  | 2 => ("ThreeTimes$Table", "cells", "[I", true)
  | _ => ("ThreeTimes$Table", "size", "I", false)
def tyX4 : Nat → FieldType := fun k => match k with
  | 0 => .int
  | 1 => .int
  | 2 => .array .int
  | _ => .int
abbrev wsX40 : List Cond := u_ws RX4 TX4 4
theorem nmX4 : ∀ a, a < 4 → ∀ b, b < 4 → a ≠ b → (TX4 a).2.1 ≠ (TX4 b).2.1 := by decide +kernel
theorem tyX4_ok : ∀ k, k < 4 → parseFieldDescriptor (TX4 k).2.2.1 = some (tyX4 k) := by decide +kernel
abbrev cX4_init : ByteArray := prog_6_method_1_code
def yX4_init : MethodName := ⟨RX4, "<init>", "(II)V"⟩
abbrev cX4_has : ByteArray := prog_6_method_2_code
def yX4_has : MethodName := ⟨RX4, "has", "(I)Z"⟩
abbrev cX4_placeOf : ByteArray := prog_6_method_3_code
def yX4_placeOf : MethodName := ⟨RX4, "placeOf", "(II)I"⟩
abbrev cX4_read : ByteArray := prog_6_method_4_code
def yX4_read : MethodName := ⟨RX4, "read", "(II)I"⟩
abbrev cX4_write : ByteArray := prog_6_method_5_code
def yX4_write : MethodName := ⟨RX4, "write", "(III)V"⟩
abbrev cX4_open : ByteArray := prog_6_method_6_code
def yX4_open : MethodName := ⟨RX4, "open", "()I"⟩
abbrev cX4_sum : ByteArray := prog_6_method_7_code
def yX4_sum : MethodName := ⟨RX4, "sum", "(I)I"⟩
abbrev cX4_sumWhere : ByteArray := prog_6_method_8_code
def yX4_sumWhere : MethodName := ⟨RX4, "sumWhere", "(III)I"⟩
abbrev cX4_rowsWhere : ByteArray := prog_6_method_9_code
def yX4_rowsWhere : MethodName := ⟨RX4, "rowsWhere", "(II)I"⟩
abbrev cX4_become : ByteArray := prog_6_method_10_code
def yX4_become : MethodName := ⟨RX4, "become", "(LThreeTimes$Table;)V"⟩
def RX5 : String := "ThreeTimes"
def TX5 : u_T := fun k => match k with
  | 0 => ("ThreeTimes", "game", "LThreeTimes$Game;", true)
  | 1 => ("ThreeTimes", "picture", "LThreeTimes$Game;", true)
  | 2 => ("ThreeTimes", "pictured", "Z", false)
  | 3 => ("ThreeTimes", "meeting", "LThreeTimes$Meeting;", true)
  | 4 => ("ThreeTimes", "script", "LThreeTimes$Script;", true)
  | _ => ("ThreeTimes", "shelves", "[LThreeTimes$Shelf;", true)
def tyX5 : Nat → FieldType := fun k => match k with
  | 0 => .object "ThreeTimes$Game"
  | 1 => .object "ThreeTimes$Game"
  | 2 => .boolean
  | 3 => .object "ThreeTimes$Meeting"
  | 4 => .object "ThreeTimes$Script"
  | _ => .array (.object "ThreeTimes$Shelf")
abbrev wsX50 : List Cond := u_ws RX5 TX5 6
theorem nmX5 : ∀ a, a < 6 → ∀ b, b < 6 → a ≠ b → (TX5 a).2.1 ≠ (TX5 b).2.1 := by decide +kernel
theorem tyX5_ok : ∀ k, k < 6 → parseFieldDescriptor (TX5 k).2.2.1 = some (tyX5 k) := by decide +kernel
abbrev cX5_init : ByteArray := prog_1_method_1_code
def yX5_init : MethodName := ⟨RX5, "<init>", "()V"⟩
abbrev cX5_room : ByteArray := prog_1_method_2_code
def yX5_room : MethodName := ⟨RX5, "room", "(I)I"⟩
abbrev cX5_sender : ByteArray := prog_1_method_3_code
def yX5_sender : MethodName := ⟨RX5, "sender", "(II)I"⟩
abbrev cX5_returner : ByteArray := prog_1_method_4_code
def yX5_returner : MethodName := ⟨RX5, "returner", "(II)I"⟩
abbrev cX5_set : ByteArray := prog_1_method_5_code
def yX5_set : MethodName := ⟨RX5, "set", "(II)I"⟩
abbrev cX5_holds : ByteArray := prog_1_method_6_code
def yX5_holds : MethodName := ⟨RX5, "holds", "(II)I"⟩
abbrev cX5_pair : ByteArray := prog_1_method_7_code
def yX5_pair : MethodName := ⟨RX5, "pair", "(IIZ)I"⟩
abbrev cX5_all : ByteArray := prog_1_method_8_code
def yX5_all : MethodName := ⟨RX5, "all", "()I"⟩
abbrev cX5_of : ByteArray := prog_1_method_9_code
def yX5_of : MethodName := ⟨RX5, "of", "(II)I"⟩
abbrev cX5_sumSent : ByteArray := prog_1_method_10_code
def yX5_sumSent : MethodName := ⟨RX5, "sumSent", "(II)I"⟩
abbrev cX5_sumCame : ByteArray := prog_1_method_11_code
def yX5_sumCame : MethodName := ⟨RX5, "sumCame", "(II)I"⟩
abbrev cX5_judge : ByteArray := prog_1_method_12_code
def yX5_judge : MethodName := ⟨RX5, "judge", "(I)I"⟩
abbrev cX5_sends : ByteArray := prog_1_method_13_code
def yX5_sends : MethodName := ⟨RX5, "sends", "(II)I"⟩
abbrev cX5_back : ByteArray := prog_1_method_14_code
def yX5_back : MethodName := ⟨RX5, "back", "(IIZ)I"⟩
abbrev cX5_held : ByteArray := prog_1_method_15_code
def yX5_held : MethodName := ⟨RX5, "held", "(II)I"⟩
abbrev cX5_trust : ByteArray := prog_1_method_16_code
def yX5_trust : MethodName := ⟨RX5, "trust", "(II)I"⟩
abbrev cX5_giving : ByteArray := prog_1_method_17_code
def yX5_giving : MethodName := ⟨RX5, "giving", "(I)I"⟩
abbrev cX5_best : ByteArray := prog_1_method_18_code
def yX5_best : MethodName := ⟨RX5, "best", "(II)I"⟩
abbrev cX5_worth : ByteArray := prog_1_method_19_code
def yX5_worth : MethodName := ⟨RX5, "worth", "(III)I"⟩
abbrev cX5_promise : ByteArray := prog_1_method_20_code
def yX5_promise : MethodName := ⟨RX5, "promise", "(III)I"⟩
abbrev cX5_lastTurn : ByteArray := prog_1_method_21_code
def yX5_lastTurn : MethodName := ⟨RX5, "lastTurn", "(III)I"⟩
abbrev cX5_lands : ByteArray := prog_1_method_22_code
def yX5_lands : MethodName := ⟨RX5, "lands", "(II)I"⟩
abbrev cX5_words : ByteArray := prog_1_method_23_code
def yX5_words : MethodName := ⟨RX5, "words", "(II)I"⟩
abbrev cX5_parts : ByteArray := prog_1_method_24_code
def yX5_parts : MethodName := ⟨RX5, "parts", "(IIII)I"⟩
abbrev cX5_image : ByteArray := prog_1_method_25_code
def yX5_image : MethodName := ⟨RX5, "image", "()I"⟩
abbrev cX5_restore : ByteArray := prog_1_method_26_code
def yX5_restore : MethodName := ⟨RX5, "restore", "()I"⟩
abbrev cX5_count : ByteArray := prog_1_method_27_code
def yX5_count : MethodName := ⟨RX5, "count", "(I)I"⟩
abbrev cX5_keep : ByteArray := prog_1_method_28_code
def yX5_keep : MethodName := ⟨RX5, "keep", "(III)I"⟩
abbrev cX5_row : ByteArray := prog_1_method_29_code
def yX5_row : MethodName := ⟨RX5, "row", "(III)I"⟩
abbrev cX5_put : ByteArray := prog_1_method_30_code
def yX5_put : MethodName := ⟨RX5, "put", "(III)I"⟩
abbrev cX5_element : ByteArray := prog_1_method_31_code
def yX5_element : MethodName := ⟨RX5, "element", "(II)J"⟩
abbrev cX5_copy : ByteArray := prog_1_method_32_code
def yX5_copy : MethodName := ⟨RX5, "copy", "(IIIII)I"⟩
abbrev cX5_faith : ByteArray := prog_1_method_33_code
def yX5_faith : MethodName := ⟨RX5, "faith", "(I)I"⟩
abbrev cX5_toss : ByteArray := prog_1_method_34_code
def yX5_toss : MethodName := ⟨RX5, "toss", "(I)I"⟩
abbrev cX5_shelfAt : ByteArray := prog_1_method_35_code
def yX5_shelfAt : MethodName := ⟨RX5, "shelfAt", "(I)LThreeTimes$Shelf;"⟩
abbrev cX5_refusalAsRows : ByteArray := prog_1_method_36_code
def yX5_refusalAsRows : MethodName := ⟨RX5, "refusalAsRows", "(LThreeTimes$Shelf;LThreeTimes$Shelf;)I"⟩
abbrev cX5_areThere : ByteArray := prog_1_method_37_code
def yX5_areThere : MethodName := ⟨RX5, "areThere", "(II)Z"⟩
abbrev cX5_bring : ByteArray := prog_1_method_38_code
def yX5_bring : MethodName := ⟨RX5, "bring", "(II)V"⟩
abbrev cX5_bringSender : ByteArray := prog_1_method_39_code
def yX5_bringSender : MethodName := ⟨RX5, "bringSender", "(I)V"⟩
abbrev cX5_bringReturner : ByteArray := prog_1_method_40_code
def yX5_bringReturner : MethodName := ⟨RX5, "bringReturner", "(I)V"⟩
abbrev cX5_bringSettings : ByteArray := prog_1_method_41_code
def yX5_bringSettings : MethodName := ⟨RX5, "bringSettings", "()V"⟩
abbrev cX5_bringPastOf : ByteArray := prog_1_method_42_code
def yX5_bringPastOf : MethodName := ⟨RX5, "bringPastOf", "(I)V"⟩
abbrev cX5_bringLastOf : ByteArray := prog_1_method_43_code
def yX5_bringLastOf : MethodName := ⟨RX5, "bringLastOf", "(II)V"⟩
abbrev cX5_playAndWriteDown : ByteArray := prog_1_method_44_code
def yX5_playAndWriteDown : MethodName := ⟨RX5, "playAndWriteDown", "(IIZ)I"⟩
abbrev cX5_howUnlike : ByteArray := prog_1_method_45_code
def yX5_howUnlike : MethodName := ⟨RX5, "howUnlike", "(IIII)I"⟩
abbrev cX5_placeOfUntold : ByteArray := prog_1_method_46_code
def yX5_placeOfUntold : MethodName := ⟨RX5, "placeOfUntold", "(LThreeTimes$Table;)I"⟩
abbrev cX5_isSenderAsTold : ByteArray := prog_1_method_47_code
def yX5_isSenderAsTold : MethodName := ⟨RX5, "isSenderAsTold", "(LThreeTimes$Table;I)Z"⟩
abbrev cX5_isReturnerAsTold : ByteArray := prog_1_method_48_code
def yX5_isReturnerAsTold : MethodName := ⟨RX5, "isReturnerAsTold", "(LThreeTimes$Table;I)Z"⟩
abbrev cX5_carryOut : ByteArray := prog_1_method_49_code
def yX5_carryOut : MethodName := ⟨RX5, "carryOut", "(LThreeTimes$Table;I)V"⟩
def RX6 : String := "ThreeTimesModel"
def TX6 : u_T := fun k => match k with
  | 0 => ("ThreeTimesModel", "coins", "I", false)
  | 1 => ("ThreeTimesModel", "times", "I", false)
  | 2 => ("ThreeTimesModel", "z", "I", false)
  | 3 => ("ThreeTimesModel", "senders", "I", false)
  | 4 => ("ThreeTimesModel", "kinds", "[I", true)
  | 5 => ("ThreeTimesModel", "figures", "[I", true)
  | 6 => ("ThreeTimesModel", "held", "[I", true)
  | 7 => ("ThreeTimesModel", "returners", "I", false)
  | 8 => ("ThreeTimesModel", "boxes", "[I", true)
  | 9 => ("ThreeTimesModel", "shares", "[I", true)
  | 10 => ("ThreeTimesModel", "leasts", "[I", true)
  | 11 => ("ThreeTimesModel", "seens", "[I", true)
  | 12 => ("ThreeTimesModel", "words", "[I", true)
  | 13 => ("ThreeTimesModel", "came", "[I", true)
  | 14 => ("ThreeTimesModel", "gave", "[I", true)
  | 15 => ("ThreeTimesModel", "last", "[I", true)
  | 16 => ("ThreeTimesModel", "pairs", "I", false)
  | 17 => ("ThreeTimesModel", "pairSender", "[I", true)
  | 18 => ("ThreeTimesModel", "pairReturner", "[I", true)
  | 19 => ("ThreeTimesModel", "pairSent", "[I", true)
  | 20 => ("ThreeTimesModel", "pairCame", "[I", true)
  | 21 => ("ThreeTimesModel", "pairBack", "[I", true)
  | 22 => ("ThreeTimesModel", "pairSeen", "[Z", true)
  | 23 => ("ThreeTimesModel", "thrown", "I", false)
  | 24 => ("ThreeTimesModel", "base", "I", false)
  | 25 => ("ThreeTimesModel", "end", "I", false)
  | 26 => ("ThreeTimesModel", "at", "I", false)
  | 27 => ("ThreeTimesModel", "isBad", "Z", false)
  | 28 => ("ThreeTimesModel", "statements", "I", false)
  | 29 => ("ThreeTimesModel", "placeOf", "[I", true)
  | 30 => ("ThreeTimesModel", "letterOf", "[I", true)
  | 31 => ("ThreeTimesModel", "numbers", "[I", true)
  | 32 => ("ThreeTimesModel", "sentNow", "I", false)
  | 33 => ("ThreeTimesModel", "backNow", "I", false)
  | 34 => ("ThreeTimesModel", "hasImage", "Z", false)
  | 35 => ("ThreeTimesModel", "imaged", "[I", true)
  | 36 => ("ThreeTimesModel", "imageAt", "I", false)
  | 37 => ("ThreeTimesModel", "isTaking", "Z", false)
  | 38 => ("ThreeTimesModel", "holdsWhat", "[I", true)
  | 39 => ("ThreeTimesModel", "keptNumber", "[I", true)
  | 40 => ("ThreeTimesModel", "keptKind", "[I", true)
  | 41 => ("ThreeTimesModel", "keptFigure", "[I", true)
  | 42 => ("ThreeTimesModel", "keptHolds", "[I", true)
  | 43 => ("ThreeTimesModel", "rowSort", "[I", true)
  | 44 => ("ThreeTimesModel", "rowMany", "[I", true)
  | 45 => ("ThreeTimesModel", "rows", "[J", true)
  | _ => ("ThreeTimesModel", "between", "[J", true)
def tyX6 : Nat → FieldType := fun k => match k with
  | 0 => .int
  | 1 => .int
  | 2 => .int
  | 3 => .int
  | 4 => .array .int
  | 5 => .array .int
  | 6 => .array .int
  | 7 => .int
  | 8 => .array .int
  | 9 => .array .int
  | 10 => .array .int
  | 11 => .array .int
  | 12 => .array .int
  | 13 => .array .int
  | 14 => .array .int
  | 15 => .array .int
  | 16 => .int
  | 17 => .array .int
  | 18 => .array .int
  | 19 => .array .int
  | 20 => .array .int
  | 21 => .array .int
  | 22 => .array .boolean
  | 23 => .int
  | 24 => .int
  | 25 => .int
  | 26 => .int
  | 27 => .boolean
  | 28 => .int
  | 29 => .array .int
  | 30 => .array .int
  | 31 => .array .int
  | 32 => .int
  | 33 => .int
  | 34 => .boolean
  | 35 => .array .int
  | 36 => .int
  | 37 => .boolean
  | 38 => .array .int
  | 39 => .array .int
  | 40 => .array .int
  | 41 => .array .int
  | 42 => .array .int
  | 43 => .array .int
  | 44 => .array .int
  | 45 => .array .long
  | _ => .array .long
abbrev wsX60 : List Cond := u_ws RX6 TX6 47
theorem nmX6 : ∀ a, a < 47 → ∀ b, b < 47 → a ≠ b → (TX6 a).2.1 ≠ (TX6 b).2.1 := by decide +kernel
theorem tyX6_ok : ∀ k, k < 47 → parseFieldDescriptor (TX6 k).2.2.1 = some (tyX6 k) := by decide +kernel
abbrev cX6_init : ByteArray := prog_8_method_1_code
def yX6_init : MethodName := ⟨RX6, "<init>", "()V"⟩
abbrev cX6_thrown : ByteArray := prog_8_method_2_code
def yX6_thrown : MethodName := ⟨RX6, "thrown", "()I"⟩
abbrev cX6_in : ByteArray := prog_8_method_3_code
def yX6_in : MethodName := ⟨RX6, "in", "(JJJ)Z"⟩
abbrev cX6_far : ByteArray := prog_8_method_4_code
def yX6_far : MethodName := ⟨RX6, "far", "(I)I"⟩
abbrev cX6_isSender : ByteArray := prog_8_method_5_code
def yX6_isSender : MethodName := ⟨RX6, "isSender", "(I)Z"⟩
abbrev cX6_isReturner : ByteArray := prog_8_method_6_code
def yX6_isReturner : MethodName := ⟨RX6, "isReturner", "(I)Z"⟩
abbrev cX6_here : ByteArray := prog_8_method_7_code
def yX6_here : MethodName := ⟨RX6, "here", "()I"⟩
abbrev cX6_take : ByteArray := prog_8_method_8_code
def yX6_take : MethodName := ⟨RX6, "take", "(I)V"⟩
abbrev cX6_readDigit : ByteArray := prog_8_method_9_code
def yX6_readDigit : MethodName := ⟨RX6, "readDigit", "()I"⟩
abbrev cX6_readNumber : ByteArray := prog_8_method_10_code
def yX6_readNumber : MethodName := ⟨RX6, "readNumber", "()I"⟩
abbrev cX6_readAfter : ByteArray := prog_8_method_11_code
def yX6_readAfter : MethodName := ⟨RX6, "readAfter", "(I)I"⟩
abbrev cX6_readStatement : ByteArray := prog_8_method_12_code
def yX6_readStatement : MethodName := ⟨RX6, "readStatement", "()V"⟩
abbrev cX6_comes : ByteArray := prog_8_method_13_code
def yX6_comes : MethodName := ⟨RX6, "comes", "(I)Z"⟩
abbrev cX6_room : ByteArray := prog_8_method_14_code
def yX6_room : MethodName := ⟨RX6, "room", "(I)I"⟩
abbrev cX6_nameOf : ByteArray := prog_8_method_15_code
def yX6_nameOf : MethodName := ⟨RX6, "nameOf", "(I)I"⟩
abbrev cX6_sender : ByteArray := prog_8_method_16_code
def yX6_sender : MethodName := ⟨RX6, "sender", "(II)I"⟩
abbrev cX6_returner : ByteArray := prog_8_method_17_code
def yX6_returner : MethodName := ⟨RX6, "returner", "(II)I"⟩
abbrev cX6_set : ByteArray := prog_8_method_18_code
def yX6_set : MethodName := ⟨RX6, "set", "(II)I"⟩
abbrev cX6_holds : ByteArray := prog_8_method_19_code
def yX6_holds : MethodName := ⟨RX6, "holds", "(II)I"⟩
abbrev cX6_draw : ByteArray := prog_8_method_20_code
def yX6_draw : MethodName := ⟨RX6, "draw", "()I"⟩
abbrev cX6_reckoned : ByteArray := prog_8_method_21_code
def yX6_reckoned : MethodName := ⟨RX6, "reckoned", "(I)I"⟩
abbrev cX6_atMost : ByteArray := prog_8_method_22_code
def yX6_atMost : MethodName := ⟨RX6, "atMost", "(I)I"⟩
abbrev cX6_sending : ByteArray := prog_8_method_23_code
def yX6_sending : MethodName := ⟨RX6, "sending", "(IZIII)I"⟩
abbrev cX6_sendingTo : ByteArray := prog_8_method_24_code
def yX6_sendingTo : MethodName := ⟨RX6, "sendingTo", "(II)I"⟩
abbrev cX6_backOf : ByteArray := prog_8_method_25_code
def yX6_backOf : MethodName := ⟨RX6, "backOf", "(IIIZ)I"⟩
abbrev cX6_pass : ByteArray := prog_8_method_26_code
def yX6_pass : MethodName := ⟨RX6, "pass", "(IIIZ)V"⟩
abbrev cX6_write : ByteArray := prog_8_method_27_code
def yX6_write : MethodName := ⟨RX6, "write", "(IIZ)V"⟩
abbrev cX6_pair : ByteArray := prog_8_method_28_code
def yX6_pair : MethodName := ⟨RX6, "pair", "(IIZ)I"⟩
abbrev cX6_all : ByteArray := prog_8_method_29_code
def yX6_all : MethodName := ⟨RX6, "all", "()I"⟩
abbrev cX6_of : ByteArray := prog_8_method_30_code
def yX6_of : MethodName := ⟨RX6, "of", "(II)I"⟩
abbrev cX6_sumSent : ByteArray := prog_8_method_31_code
def yX6_sumSent : MethodName := ⟨RX6, "sumSent", "(II)I"⟩
abbrev cX6_sumCame : ByteArray := prog_8_method_32_code
def yX6_sumCame : MethodName := ⟨RX6, "sumCame", "(II)I"⟩
abbrev cX6_judge : ByteArray := prog_8_method_33_code
def yX6_judge : MethodName := ⟨RX6, "judge", "(I)I"⟩
abbrev cX6_sends : ByteArray := prog_8_method_34_code
def yX6_sends : MethodName := ⟨RX6, "sends", "(II)I"⟩
abbrev cX6_back : ByteArray := prog_8_method_35_code
def yX6_back : MethodName := ⟨RX6, "back", "(IIZ)I"⟩
abbrev cX6_held : ByteArray := prog_8_method_36_code
def yX6_held : MethodName := ⟨RX6, "held", "(II)I"⟩
abbrev cX6_trust : ByteArray := prog_8_method_37_code
def yX6_trust : MethodName := ⟨RX6, "trust", "(II)I"⟩
abbrev cX6_giving : ByteArray := prog_8_method_38_code
def yX6_giving : MethodName := ⟨RX6, "giving", "(I)I"⟩
abbrev cX6_best : ByteArray := prog_8_method_39_code
def yX6_best : MethodName := ⟨RX6, "best", "(II)I"⟩
abbrev cX6_hasWith : ByteArray := prog_8_method_40_code
def yX6_hasWith : MethodName := ⟨RX6, "hasWith", "(IIII)I"⟩
abbrev cX6_worth : ByteArray := prog_8_method_41_code
def yX6_worth : MethodName := ⟨RX6, "worth", "(III)I"⟩
abbrev cX6_promise : ByteArray := prog_8_method_42_code
def yX6_promise : MethodName := ⟨RX6, "promise", "(III)I"⟩
abbrev cX6_lastTurn : ByteArray := prog_8_method_43_code
def yX6_lastTurn : MethodName := ⟨RX6, "lastTurn", "(III)I"⟩
abbrev cX6_wrongTwo : ByteArray := prog_8_method_44_code
def yX6_wrongTwo : MethodName := ⟨RX6, "wrongTwo", "(II)I"⟩
abbrev cX6_areSendings : ByteArray := prog_8_method_45_code
def yX6_areSendings : MethodName := ⟨RX6, "areSendings", "(I)Z"⟩
abbrev cX6_sumOf : ByteArray := prog_8_method_46_code
def yX6_sumOf : MethodName := ⟨RX6, "sumOf", "(I)I"⟩
abbrev cX6_lands : ByteArray := prog_8_method_47_code
def yX6_lands : MethodName := ⟨RX6, "lands", "(II)I"⟩
abbrev cX6_signOf : ByteArray := prog_8_method_48_code
def yX6_signOf : MethodName := ⟨RX6, "signOf", "(III)I"⟩
abbrev cX6_words : ByteArray := prog_8_method_49_code
def yX6_words : MethodName := ⟨RX6, "words", "(II)I"⟩
abbrev cX6_parts : ByteArray := prog_8_method_50_code
def yX6_parts : MethodName := ⟨RX6, "parts", "(IIII)I"⟩
abbrev cX6_carry : ByteArray := prog_8_method_51_code
def yX6_carry : MethodName := ⟨RX6, "carry", "(I)I"⟩
abbrev cX6_carryAll : ByteArray := prog_8_method_52_code
def yX6_carryAll : MethodName := ⟨RX6, "carryAll", "()V"⟩
abbrev cX6_image : ByteArray := prog_8_method_53_code
def yX6_image : MethodName := ⟨RX6, "image", "()I"⟩
abbrev cX6_restore : ByteArray := prog_8_method_54_code
def yX6_restore : MethodName := ⟨RX6, "restore", "()I"⟩
abbrev cX6_count : ByteArray := prog_8_method_55_code
def yX6_count : MethodName := ⟨RX6, "count", "(I)I"⟩
abbrev cX6_keep : ByteArray := prog_8_method_56_code
def yX6_keep : MethodName := ⟨RX6, "keep", "(III)I"⟩
abbrev cX6_wrongRow : ByteArray := prog_8_method_57_code
def yX6_wrongRow : MethodName := ⟨RX6, "wrongRow", "(I)I"⟩
abbrev cX6_narrowed : ByteArray := prog_8_method_58_code
def yX6_narrowed : MethodName := ⟨RX6, "narrowed", "(II)J"⟩
abbrev cX6_row : ByteArray := prog_8_method_59_code
def yX6_row : MethodName := ⟨RX6, "row", "(III)I"⟩
abbrev cX6_put : ByteArray := prog_8_method_60_code
def yX6_put : MethodName := ⟨RX6, "put", "(III)I"⟩
abbrev cX6_element : ByteArray := prog_8_method_61_code
def yX6_element : MethodName := ⟨RX6, "element", "(II)J"⟩
abbrev cX6_copy : ByteArray := prog_8_method_62_code
def yX6_copy : MethodName := ⟨RX6, "copy", "(IIIII)I"⟩
abbrev cX6_wrongShelf : ByteArray := prog_8_method_63_code
def yX6_wrongShelf : MethodName := ⟨RX6, "wrongShelf", "(I)I"⟩
abbrev cX6_faithOf : ByteArray := prog_8_method_64_code
def yX6_faithOf : MethodName := ⟨RX6, "faithOf", "(I)I"⟩
abbrev cX6_faith : ByteArray := prog_8_method_65_code
def yX6_faith : MethodName := ⟨RX6, "faith", "(I)I"⟩
abbrev cX6_toss : ByteArray := prog_8_method_66_code
def yX6_toss : MethodName := ⟨RX6, "toss", "(I)I"⟩
def RJ9 : String := "java/lang/Math"
def TJ9 : u_T := fun k => match k with
  | _ => ("", "", "", false)
def tyJ9 : Nat → FieldType := fun k => match k with
  | _ => .int
abbrev wsJ90 : List Cond := u_ws RJ9 TJ9 0
theorem nmJ9 : ∀ a, a < 0 → ∀ b, b < 0 → a ≠ b → (TJ9 a).2.1 ≠ (TJ9 b).2.1 := by decide +kernel
theorem tyJ9_ok : ∀ k, k < 0 → parseFieldDescriptor (TJ9 k).2.2.1 = some (tyJ9 k) := by decide +kernel
abbrev cJ9_abs_0f7a4 : ByteArray := prog_12_method_59_code
def yJ9_abs_0f7a4 : MethodName := ⟨RJ9, "abs", "(I)I"⟩
abbrev cJ9_max_7cf53 : ByteArray := prog_12_method_65_code
def yJ9_max_7cf53 : MethodName := ⟨RJ9, "max", "(II)I"⟩
abbrev cJ9_min_7cf53 : ByteArray := prog_12_method_69_code
def yJ9_min_7cf53 : MethodName := ⟨RJ9, "min", "(II)I"⟩
def RJ0 : String := "java/lang/String"
def TJ0 : u_T := fun k => match k with
  | _ => ("", "", "", false)
def tyJ0 : Nat → FieldType := fun k => match k with
  | _ => .int
abbrev wsJ00 : List Cond := u_ws RJ0 TJ0 0
theorem nmJ0 : ∀ a, a < 0 → ∀ b, b < 0 → a ≠ b → (TJ0 a).2.1 ≠ (TJ0 b).2.1 := by decide +kernel
theorem tyJ0_ok : ∀ k, k < 0 → parseFieldDescriptor (TJ0 k).2.2.1 = some (tyJ0 k) := by decide +kernel
def RJ10 : String := "java/lang/System"
def TJ10 : u_T := fun k => match k with
  | _ => ("", "", "", false)
def tyJ10 : Nat → FieldType := fun k => match k with
  | _ => .int
abbrev wsJ100 : List Cond := u_ws RJ10 TJ10 0
theorem nmJ10 : ∀ a, a < 0 → ∀ b, b < 0 → a ≠ b → (TJ10 a).2.1 ≠ (TJ10 b).2.1 := by decide +kernel
theorem tyJ10_ok : ∀ k, k < 0 → parseFieldDescriptor (TJ10 k).2.2.1 = some (tyJ10 k) := by decide +kernel
def RL : String := "ThreeTimesLaw"
abbrev cL_element : ByteArray := method_3_code
def yL_element : MethodName := ⟨RL, "element", "(LThreeTimes;II[J)I"⟩
abbrev cL_law : ByteArray := code
def yL_law : MethodName := ⟨RL, "law", "([I)Z"⟩
end
section
/-! The shape of the heap: 68 places, what stands at each, how long; the tables of links and constants, by their places in lw_tbl. Printed by wip/whole/gen_shape.py. -/
def AW : List Jvm.Cond := lw_tbl.filter goodWord
def isNest (w : Jvm.Cond) : Bool := match w with
  | .fieldLinkNest _ _ _ _ _ _ => true
  | .methodLinkNest _ _ _ _ => true
  | _ => false
def NW : List Jvm.Cond := lw_tbl.filter isNest
def RN (k : Nat) : String := match k with
  | 0 => RX0
  | 1 => RX1
  | 2 => RX2
  | 3 => RX3
  | 4 => RX4
  | 5 => RX5
  | 6 => RX6
  | _ => RL
def TN (k : Nat) : u_T := match k with
  | 0 => TX0
  | 1 => TX1
  | 2 => TX2
  | 3 => TX3
  | 4 => TX4
  | 5 => TX5
  | _ => TX6
def tyN (k : Nat) : Nat → FieldType := match k with
  | 0 => tyX0
  | 1 => tyX1
  | 2 => tyX2
  | 3 => tyX3
  | 4 => tyX4
  | 5 => tyX5
  | _ => tyX6
def NN (k : Nat) : Nat := match k with
  | 0 => 6
  | 1 => 16
  | 2 => 2
  | 3 => 8
  | 4 => 4
  | 5 => 6
  | _ => 47
def cl7 : List vw_C := [(RX0, TX0, 6), (RX1, TX1, 16), (RX2, TX2, 2), (RX3, TX3, 8), (RX4, TX4, 4), (RX5, TX5, 6), (RX6, TX6, 47)]
/-- what stands at a place: 0..6 an object of that class; 10 ints, 11 booleans, 12 longs, 13 the row of shelves -/
def kd (k : Nat) : Nat := match k with
  | 0 => 5
  | 1 => 0
  | 2 => 0
  | 3 => 1
  | 4 => 2
  | 5 => 13
  | 6 => 4
  | 7 => 10
  | 8 => 4
  | 9 => 10
  | 10 => 4
  | 11 => 10
  | 12 => 4
  | 13 => 10
  | 14 => 4
  | 15 => 10
  | 16 => 4
  | 17 => 10
  | 18 => 4
  | 19 => 10
  | 20 => 3
  | 21 => 10
  | 22 => 3
  | 23 => 10
  | 24 => 3
  | 25 => 10
  | 26 => 3
  | 27 => 10
  | 28 => 3
  | 29 => 10
  | 30 => 3
  | 31 => 10
  | 32 => 3
  | 33 => 10
  | 34 => 3
  | 35 => 10
  | 36 => 6
  | 37 => 10
  | 38 => 10
  | 39 => 10
  | 40 => 10
  | 41 => 10
  | 42 => 10
  | 43 => 10
  | 44 => 10
  | 45 => 10
  | 46 => 10
  | 47 => 10
  | 48 => 10
  | 49 => 10
  | 50 => 10
  | 51 => 10
  | 52 => 10
  | 53 => 11
  | 54 => 10
  | 55 => 10
  | 56 => 10
  | 57 => 10
  | 58 => 10
  | 59 => 10
  | 60 => 10
  | 61 => 10
  | 62 => 10
  | 63 => 10
  | 64 => 10
  | 65 => 12
  | 66 => 12
  | 67 => 12
  | _ => 99
def alen (k : Nat) : Nat := match k with
  | 5 => 8
  | 7 => 24
  | 9 => 40
  | 11 => 600
  | 13 => 24
  | 15 => 40
  | 17 => 600
  | 19 => 204
  | 21 => 100
  | 23 => 100
  | 25 => 100
  | 27 => 100
  | 29 => 100
  | 31 => 100
  | 33 => 100
  | 35 => 100
  | 37 => 8
  | 38 => 8
  | 39 => 8
  | 40 => 8
  | 41 => 8
  | 42 => 8
  | 43 => 8
  | 44 => 8
  | 45 => 8
  | 46 => 8
  | 47 => 64
  | 48 => 100
  | 49 => 100
  | 50 => 100
  | 51 => 100
  | 52 => 100
  | 53 => 100
  | 54 => 50
  | 55 => 50
  | 56 => 200
  | 57 => 780
  | 58 => 8
  | 59 => 8
  | 60 => 8
  | 61 => 8
  | 62 => 8
  | 63 => 8
  | 64 => 8
  | 65 => 800
  | 66 => 100
  | 67 => 1
  | _ => 0
def rfN (ci j : Nat) : Bool := match ci, j with
  | 0, 3 => true
  | 0, 4 => true
  | 0, 5 => true
  | 2, 0 => true
  | 3, 7 => true
  | 4, 2 => true
  | 5, 0 => true
  | 5, 1 => true
  | 5, 3 => true
  | 5, 4 => true
  | 5, 5 => true
  | 6, 4 => true
  | 6, 5 => true
  | 6, 6 => true
  | 6, 8 => true
  | 6, 9 => true
  | 6, 10 => true
  | 6, 11 => true
  | 6, 12 => true
  | 6, 13 => true
  | 6, 14 => true
  | 6, 15 => true
  | 6, 17 => true
  | 6, 18 => true
  | 6, 19 => true
  | 6, 20 => true
  | 6, 21 => true
  | 6, 22 => true
  | 6, 29 => true
  | 6, 30 => true
  | 6, 31 => true
  | 6, 35 => true
  | 6, 38 => true
  | 6, 39 => true
  | 6, 40 => true
  | 6, 41 => true
  | 6, 42 => true
  | 6, 43 => true
  | 6, 44 => true
  | 6, 45 => true
  | 6, 46 => true
  | _, _ => false
def rfv (ci k j : Nat) : Nat := match ci, j with
  | 0, 3 => 6 * k
  | 0, 4 => 6 * k + 2
  | 0, 5 => 6 * k + 4
  | 2, 0 => 18
  | 3, 7 => k + 1
  | 4, 2 => k + 1
  | 5, 0 => 1
  | 5, 1 => 2
  | 5, 3 => 3
  | 5, 4 => 4
  | 5, 5 => 5
  | 6, 4 => 37
  | 6, 5 => 38
  | 6, 6 => 39
  | 6, 8 => 40
  | 6, 9 => 41
  | 6, 10 => 42
  | 6, 11 => 43
  | 6, 12 => 44
  | 6, 13 => 45
  | 6, 14 => 46
  | 6, 15 => 47
  | 6, 17 => 48
  | 6, 18 => 49
  | 6, 19 => 50
  | 6, 20 => 51
  | 6, 21 => 52
  | 6, 22 => 53
  | 6, 29 => 54
  | 6, 30 => 55
  | 6, 31 => 56
  | 6, 35 => 57
  | 6, 38 => 58
  | 6, 39 => 59
  | 6, 40 => 60
  | 6, 41 => 61
  | 6, 42 => 62
  | 6, 43 => 63
  | 6, 44 => 64
  | 6, 45 => 65
  | 6, 46 => 66
  | _, _ => 0
def fTab : List (Nat × Nat × Nat × Nat × Nat × Bool) := [(4, 13, 4, 0, 120, false), (4, 16, 4, 1, 121, false), (4, 25, 4, 2, 122, false), (4, 7, 4, 3, 123, false), (2, 20, 4, 3, 124, true), (5, 71, 4, 3, 125, true), (0, 9, 0, 0, 136, false), (5, 107, 0, 0, 137, true), (0, 15, 0, 1, 138, false), (5, 110, 0, 1, 139, true), (0, 18, 0, 2, 140, false), (5, 101, 0, 2, 141, true), (0, 26, 0, 3, 142, false), (5, 80, 0, 3, 143, true), (0, 30, 0, 4, 144, false), (5, 91, 0, 4, 145, true), (0, 33, 0, 5, 146, false), (5, 104, 0, 5, 147, true), (1, 39, 1, 0, 167, false), (5, 273, 1, 0, 168, true), (1, 64, 1, 1, 169, false), (5, 274, 1, 1, 170, true), (1, 18, 1, 2, 171, false), (5, 275, 1, 2, 172, true), (1, 26, 1, 3, 173, false), (5, 265, 1, 3, 174, true), (1, 36, 1, 4, 175, false), (5, 266, 1, 4, 176, true), (1, 29, 1, 5, 177, false), (5, 155, 1, 5, 178, true), (1, 61, 1, 6, 179, false), (5, 158, 1, 6, 180, true), (1, 76, 1, 7, 181, false), (5, 173, 1, 7, 182, true), (1, 73, 1, 8, 183, false), (5, 267, 1, 8, 184, true), (1, 79, 1, 9, 185, false), (5, 270, 1, 9, 186, true), (1, 58, 1, 10, 187, false), (5, 176, 1, 10, 188, true), (1, 9, 1, 11, 189, false), (5, 276, 1, 11, 190, true), (1, 15, 1, 12, 191, false), (5, 279, 1, 12, 192, true), (1, 48, 1, 13, 193, false), (5, 282, 1, 13, 194, true), (1, 82, 1, 14, 195, false), (5, 292, 1, 14, 196, true), (1, 85, 1, 15, 197, false), (5, 295, 1, 15, 198, true), (2, 14, 2, 0, 240, false), (5, 63, 2, 0, 241, true), (2, 24, 2, 1, 242, false), (5, 60, 2, 1, 243, true), (3, 9, 3, 0, 256, false), (5, 204, 3, 0, 257, true), (5, 207, 3, 1, 258, true), (3, 39, 3, 2, 259, false), (5, 210, 3, 2, 260, true), (3, 42, 3, 3, 261, false), (5, 213, 3, 3, 262, true), (3, 36, 3, 4, 263, false), (5, 216, 3, 4, 264, true), (5, 52, 3, 5, 265, true), (3, 19, 3, 5, 266, false), (2, 27, 3, 6, 267, true), (3, 22, 3, 6, 268, false), (5, 135, 3, 6, 269, true), (3, 15, 3, 7, 270, false), (5, 238, 3, 7, 271, true), (5, 10, 5, 0, 289, false), (5, 16, 5, 1, 290, false), (5, 19, 5, 2, 291, false), (5, 26, 5, 3, 292, false), (5, 33, 5, 4, 293, false), (5, 39, 5, 5, 294, false), (6, 7, 6, 0, 807, false), (6, 13, 6, 1, 808, false), (6, 16, 6, 2, 809, false), (6, 116, 6, 3, 810, false), (6, 19, 6, 4, 811, false), (6, 23, 6, 5, 812, false), (6, 26, 6, 6, 813, false), (6, 123, 6, 7, 814, false), (6, 29, 6, 8, 815, false), (6, 32, 6, 9, 816, false), (6, 35, 6, 10, 817, false), (6, 38, 6, 11, 818, false), (6, 41, 6, 12, 819, false), (6, 44, 6, 13, 820, false), (6, 47, 6, 14, 821, false), (6, 50, 6, 15, 822, false), (6, 166, 6, 16, 823, false), (6, 53, 6, 17, 824, false), (6, 56, 6, 18, 825, false), (6, 59, 6, 19, 826, false), (6, 62, 6, 20, 827, false), (6, 65, 6, 21, 828, false), (6, 68, 6, 22, 829, false), (6, 112, 6, 23, 830, false), (6, 132, 6, 24, 831, false), (6, 129, 6, 25, 832, false), (6, 126, 6, 26, 833, false), (6, 135, 6, 27, 834, false), (6, 153, 6, 28, 835, false), (6, 72, 6, 29, 836, false), (6, 75, 6, 30, 837, false), (6, 78, 6, 31, 838, false), (6, 214, 6, 32, 839, false), (6, 221, 6, 33, 840, false), (6, 271, 6, 34, 841, false), (6, 81, 6, 35, 842, false), (6, 265, 6, 36, 843, false), (6, 262, 6, 37, 844, false), (6, 84, 6, 38, 845, false), (6, 87, 6, 39, 846, false), (6, 90, 6, 40, 847, false), (6, 93, 6, 41, 848, false), (6, 96, 6, 42, 849, false), (6, 99, 6, 43, 850, false), (6, 102, 6, 44, 851, false), (6, 105, 6, 45, 852, false), (6, 109, 6, 46, 853, false)]
def cTabI : List (Nat × Nat × Int32 × Nat) := [(1, 21, 1103515245, 477), (1, 24, 2147483647, 478), (1, 25, 65536, 479), (3, 31, -2147483648, 512), (5, 153, -1000000001, 531), (5, 154, -1000000003, 532), (5, 183, -1000000000, 577), (5, 187, -1000000013, 583), (6, 194, 1103515245, 1061), (6, 195, 2147483647, 1062), (6, 196, 65536, 1063), (6, 115, 1000000000, 1106)]
def cTabL : List (Nat × Nat × Int64 × Nat) := [(6, 247, 7, 963), (6, 143, 48, 979), (6, 145, 57, 980), (6, 164, 20, 997), (6, 169, 5, 998), (6, 186, 2, 1007), (6, 181, 100, 1020), (6, 232, -128, 1088), (6, 234, -32768, 1089), (6, 236, -2147483648, 1090), (6, 245, 12, 1135)]
theorem aw_of {w : Jvm.Cond} {i : Nat} (h : lw_tbl[i]? = some w) (hg : goodWord w = true) : w ∈ AW := List.mem_filter.mpr ⟨List.mem_of_getElem? h, hg⟩
theorem aw_all (ws : List Jvm.Cond) (ps : List Nat) (hp : ws = ps.filterMap (fun i => lw_tbl[i]?)) (h : ws.all goodWord = true) : ∀ w ∈ ws, w ∈ AW := fun w hw => List.mem_filter.mpr ⟨(goodIn_r ws ps hp h w hw).1, List.all_eq_true.mp h w hw⟩
theorem nw_of {w : Jvm.Cond} {i : Nat} (h : lw_tbl[i]? = some w) (hg : isNest w = true) : w ∈ NW := List.mem_filter.mpr ⟨List.mem_of_getElem? h, hg⟩
theorem aw_good {w : Jvm.Cond} (h : w ∈ AW) : goodWord w = true := (List.mem_filter.mp h).2
theorem aw_in {w : Jvm.Cond} (h : w ∈ AW) : w ∈ lw_tbl := (List.mem_filter.mp h).1
def layP0 : List Nat := [148, 150, 152, 154, 156, 158]
theorem inA0 : ∀ w ∈ u_ws RX0 TX0 6, w ∈ AW := aw_all _ layP0 (by decide +kernel) (by decide +kernel)
def layP1 : List Nat := [199, 201, 203, 205, 207, 209, 211, 213, 215, 217, 219, 221, 223, 225, 227, 229]
theorem inA1 : ∀ w ∈ u_ws RX1 TX1 16, w ∈ AW := aw_all _ layP1 (by decide +kernel) (by decide +kernel)
def layP2 : List Nat := [244, 246]
theorem inA2 : ∀ w ∈ u_ws RX2 TX2 2, w ∈ AW := aw_all _ layP2 (by decide +kernel) (by decide +kernel)
def layP3 : List Nat := [272, 274, 276, 278, 280, 282, 284, 286]
theorem inA3 : ∀ w ∈ u_ws RX3 TX3 8, w ∈ AW := aw_all _ layP3 (by decide +kernel) (by decide +kernel)
def layP4 : List Nat := [126, 128, 130, 132]
theorem inA4 : ∀ w ∈ u_ws RX4 TX4 4, w ∈ AW := aw_all _ layP4 (by decide +kernel) (by decide +kernel)
def layP5 : List Nat := [295, 297, 299, 301, 303, 305]
theorem inA5 : ∀ w ∈ u_ws RX5 TX5 6, w ∈ AW := aw_all _ layP5 (by decide +kernel) (by decide +kernel)
def layP6 : List Nat := [854, 856, 858, 860, 862, 864, 866, 868, 870, 872, 874, 876, 878, 880, 882, 884, 886, 888, 890, 892, 894, 896, 898, 900, 902, 904, 906, 908, 910, 912, 914, 916, 918, 920, 922, 924, 926, 928, 930, 932, 934, 936, 938, 940, 942, 944, 946]
theorem inA6 : ∀ w ∈ u_ws RX6 TX6 47, w ∈ AW := aw_all _ layP6 (by decide +kernel) (by decide +kernel)
def fWord (ow idx ci j : Nat) : Jvm.Cond := .fieldLink (RN ow) idx (TN ci j).1 (TN ci j).2.1 (TN ci j).2.2.1
def fWordN (ow idx ci j : Nat) : Jvm.Cond := .fieldLinkNest (RN ow) idx (TN ci j).1 (TN ci j).2.1 (TN ci j).2.2.1 "ThreeTimes"
def fChk (e : Nat × Nat × Nat × Nat × Nat × Bool) : Bool := decide (e.2.2.1 < 7) && decide (e.2.2.2.1 < NN e.2.2.1) && (match e.2.2.2.2.2 with
  | true => decide (lw_tbl[e.2.2.2.2.1]? = some (fWordN e.1 e.2.1 e.2.2.1 e.2.2.2.1)) && isNest (fWordN e.1 e.2.1 e.2.2.1 e.2.2.2.1)
  | false => decide (lw_tbl[e.2.2.2.2.1]? = some (fWord e.1 e.2.1 e.2.2.1 e.2.2.2.1)) && goodWord (fWord e.1 e.2.1 e.2.2.1 e.2.2.2.1))
theorem fTab_ok : fTab.all fChk = true := by decide +kernel
def okF (ow idx ci j : Nat) : Bool := fTab.any fun e => e.1 == ow && (e.2.1 == idx && (e.2.2.1 == ci && e.2.2.2.1 == j))
theorem okF_spec {ow idx ci j : Nat} (h : okF ow idx ci j = true) : ci < 7 ∧ j < NN ci ∧ (fWord ow idx ci j ∈ AW ∨ fWordN ow idx ci j ∈ NW) := by
  obtain ⟨e, he, h2⟩ := List.any_eq_true.mp h
  simp only [Bool.and_eq_true, beq_iff_eq] at h2
  obtain ⟨rfl, rfl, rfl, rfl⟩ := h2
  have h3 := List.all_eq_true.mp fTab_ok e he
  unfold fChk at h3
  simp only [Bool.and_eq_true, decide_eq_true_eq] at h3
  refine ⟨h3.1.1, h3.1.2, ?_⟩
  have h4 := h3.2
  split at h4 <;> simp only [Bool.and_eq_true, decide_eq_true_eq] at h4
  · exact Or.inr (nw_of h4.1 h4.2)
  · exact Or.inl (aw_of h4.1 h4.2)
theorem cTabI_ok : (cTabI.all fun e => decide (lw_tbl[e.2.2.2]? = some (Jvm.Cond.constant (RN e.1) e.2.1 e.2.2.1)) && goodWord (Jvm.Cond.constant (RN e.1) e.2.1 e.2.2.1)) = true := by decide +kernel
theorem cTabL_ok : (cTabL.all fun e => decide (lw_tbl[e.2.2.2]? = some (Jvm.Cond.constantLong (RN e.1) e.2.1 e.2.2.1)) && goodWord (Jvm.Cond.constantLong (RN e.1) e.2.1 e.2.2.1)) = true := by decide +kernel
def okCI (ow idx : Nat) (v : Int32) : Bool := cTabI.any fun e => e.1 == ow && (e.2.1 == idx && decide (e.2.2.1 = v))
def okCL (ow idx : Nat) (v : Int64) : Bool := cTabL.any fun e => e.1 == ow && (e.2.1 == idx && decide (e.2.2.1 = v))
theorem okCI_spec {ow idx : Nat} {v : Int32} (h : okCI ow idx v = true) : Jvm.Cond.constant (RN ow) idx v ∈ AW := by
  obtain ⟨e, he, h2⟩ := List.any_eq_true.mp h
  simp only [Bool.and_eq_true, beq_iff_eq, decide_eq_true_eq] at h2
  obtain ⟨rfl, rfl, rfl⟩ := h2
  have h3 := List.all_eq_true.mp cTabI_ok e he
  simp only [Bool.and_eq_true, decide_eq_true_eq] at h3
  exact aw_of h3.1 h3.2
theorem okCL_spec {ow idx : Nat} {v : Int64} (h : okCL ow idx v = true) : Jvm.Cond.constantLong (RN ow) idx v ∈ AW := by
  obtain ⟨e, he, h2⟩ := List.any_eq_true.mp h
  simp only [Bool.and_eq_true, beq_iff_eq, decide_eq_true_eq] at h2
  obtain ⟨rfl, rfl, rfl⟩ := h2
  have h3 := List.all_eq_true.mp cTabL_ok e he
  simp only [Bool.and_eq_true, decide_eq_true_eq] at h3
  exact aw_of h3.1 h3.2
theorem cl7_at : ∀ ci, ci < 7 → cl7[ci]? = some (RN ci, TN ci, NN ci) := fun ci h => by
  rcases (show ci = 0 ∨ ci = 1 ∨ ci = 2 ∨ ci = 3 ∨ ci = 4 ∨ ci = 5 ∨ ci = 6 by omega) with rfl | rfl | rfl | rfl | rfl | rfl | rfl <;> rfl
theorem inAN : ∀ ci, ci < 7 → ∀ w ∈ u_ws (RN ci) (TN ci) (NN ci), w ∈ AW := fun ci h => by
  rcases (show ci = 0 ∨ ci = 1 ∨ ci = 2 ∨ ci = 3 ∨ ci = 4 ∨ ci = 5 ∨ ci = 6 by omega) with rfl | rfl | rfl | rfl | rfl | rfl | rfl
  · exact inA0
  · exact inA1
  · exact inA2
  · exact inA3
  · exact inA4
  · exact inA5
  · exact inA6
theorem tyN_ok : ∀ ci, ci < 7 → ∀ k, k < NN ci → parseFieldDescriptor ((TN ci) k).2.2.1 = some (tyN ci k) := fun ci h => by
  rcases (show ci = 0 ∨ ci = 1 ∨ ci = 2 ∨ ci = 3 ∨ ci = 4 ∨ ci = 5 ∨ ci = 6 by omega) with rfl | rfl | rfl | rfl | rfl | rfl | rfl
  · exact tyX0_ok
  · exact tyX1_ok
  · exact tyX2_ok
  · exact tyX3_ok
  · exact tyX4_ok
  · exact tyX5_ok
  · exact tyX6_ok
theorem nmN : ∀ ci, ci < 7 → ∀ a, a < NN ci → ∀ b, b < NN ci → a ≠ b → (TN ci a).2.1 ≠ (TN ci b).2.1 := fun ci h => by
  rcases (show ci = 0 ∨ ci = 1 ∨ ci = 2 ∨ ci = 3 ∨ ci = 4 ∨ ci = 5 ∨ ci = 6 by omega) with rfl | rfl | rfl | rfl | rfl | rfl | rfl
  · exact nmX0
  · exact nmX1
  · exact nmX2
  · exact nmX3
  · exact nmX4
  · exact nmX5
  · exact nmX6
theorem kd_lt {k : Nat} (h : kd k ≠ 99) : k < 68 := Nat.lt_of_not_le fun h2 => h (by unfold kd; split <;> first | rfl | omega)
theorem kd_all {P : Nat → Prop} (h : ∀ k, k < 68 → P k) {k c : Nat} (hk : kd k = c) (hc : c < 99) : P k := h k (kd_lt (by omega))
theorem kd_T {k : Nat} (hk : kd k = 4) : kd (k + 1) = 10 := kd_all (P := fun k => kd k = 4 → kd (k + 1) = 10) (by decide +kernel) hk (by omega) hk
theorem kd_S {k : Nat} (hk : kd k = 3) : kd (k + 1) = 10 ∧ alen (k + 1) = 100 := kd_all (P := fun k => kd k = 3 → kd (k + 1) = 10 ∧ alen (k + 1) = 100) (by decide +kernel) hk (by omega) hk
theorem kd_G {k : Nat} (hk : kd k = 0) : kd (6 * k) = 4 ∧ kd (6 * k + 2) = 4 ∧ kd (6 * k + 4) = 4 := kd_all (P := fun k => kd k = 0 → kd (6 * k) = 4 ∧ kd (6 * k + 2) = 4 ∧ kd (6 * k + 4) = 4) (by decide +kernel) hk (by omega) hk
theorem rf_ok : ∀ ci, ci < 7 → ∀ j, j < NN ci → rfN ci j = !((TN ci j).2.2.1 == "I" || (TN ci j).2.2.1 == "Z") := by
  intro ci h
  rcases (show ci = 0 ∨ ci = 1 ∨ ci = 2 ∨ ci = 3 ∨ ci = 4 ∨ ci = 5 ∨ ci = 6 by omega) with rfl | rfl | rfl | rfl | rfl | rfl | rfl <;> decide +kernel
end
section
/-! THE LAYER: the whole heap as one value (ints and longs by place and index), an interpreter of straight stretches over it, and its soundness by the kit's rows. -/
abbrev ST : Type := (Nat → Nat → Int32) × (Nat → Nat → Int64)
def setI (σ : ST) (k j : Nat) (x : Int32) : ST := (fun a b => if a = k ∧ b = j then x else σ.1 a b, σ.2)
def setL (σ : ST) (k j : Nat) (x : Int64) : ST := (σ.1, fun a b => if a = k ∧ b = j then x else σ.2 a b)
def cpyI (σ : ST) (a0 a1 sp dp n : Nat) : ST := (fun a b => if a = a1 then va_cpy (σ.1 a0) (σ.1 a1) sp dp n b else σ.1 a b, σ.2)
def cnc (q : Nat → Nat) (v : Value) : Value := match v with
  | .ref k => .ref (q k)
  | v => v
theorem cnc_cat (q : Nat → Nat) (v : Value) : (cnc q v).category = v.category := by cases v <;> rfl
def fval (ci k j : Nat) (σ : ST) : Value := match rfN ci j with
  | true => .ref (rfv ci k j)
  | false => .int (σ.1 k j)
def cellG (q : Nat → Nat) (cA : Nat → ClassId) (σ : ST) (k : Nat) : va_E :=
  if kd k < 7 then .inr (kd k, (List.range (NN (kd k))).map fun j => cnc q (fval (kd k) k j σ))
  else if kd k = 10 then .inl (cA 0, alen k, .inl (σ.1 k))
  else if kd k = 11 then .inl (cA 1, alen k, .inl (σ.1 k))
  else if kd k = 12 then .inl (cA 2, alen k, .inr (.inl (σ.2 k)))
  else .inl (cA 3, 8, .inr (.inr (.inr (.inr fun j => some (q (20 + 2 * j))))))
theorem cellG_obj {q : Nat → Nat} {cA : Nat → ClassId} {σ : ST} {k ci : Nat} (h : kd k = ci) (hc : ci < 7) : cellG q cA σ k = .inr (ci, (List.range (NN ci)).map fun j => cnc q (fval ci k j σ)) := by
  subst h; simp only [cellG, hc, if_true]
theorem cellG_I {q : Nat → Nat} {cA : Nat → ClassId} {σ : ST} {k : Nat} (h : kd k = 10) : cellG q cA σ k = .inl (cA 0, alen k, .inl (σ.1 k)) := by
  simp [cellG, h]
theorem cellG_Z {q : Nat → Nat} {cA : Nat → ClassId} {σ : ST} {k : Nat} (h : kd k = 11) : cellG q cA σ k = .inl (cA 1, alen k, .inl (σ.1 k)) := by
  simp [cellG, h]
theorem cellG_J {q : Nat → Nat} {cA : Nat → ClassId} {σ : ST} {k : Nat} (h : kd k = 12) : cellG q cA σ k = .inl (cA 2, alen k, .inr (.inl (σ.2 k))) := by
  simp [cellG, h]
theorem cellG_S {q : Nat → Nat} {cA : Nat → ClassId} {σ : ST} {k : Nat} (h : kd k = 13) : cellG q cA σ k = .inl (cA 3, 8, .inr (.inr (.inr (.inr fun j => some (q (20 + 2 * j)))))) := by
  simp [cellG, h]
theorem cellG_ext {q : Nat → Nat} {cA : Nat → ClassId} {σ τ : ST} {k : Nat} (h1 : σ.1 k = τ.1 k) (h2 : σ.2 k = τ.2 k) : cellG q cA σ k = cellG q cA τ k := by
  simp only [cellG, fval, h1, h2]
def wG (q : Nat → Nat) (cA : Nat → ClassId) (σ : ST) : va_W := (List.range 68).map fun k => (q k, cellG q cA σ k)
theorem wG_at {q : Nat → Nat} {cA : Nat → ClassId} {σ : ST} {k : Nat} (h : k < 68) : (wG q cA σ)[k]? = some (q k, cellG q cA σ k) := by
  simp [wG, h]
theorem wG_set {q : Nat → Nat} {cA : Nat → ClassId} {σ τ : ST} {k : Nat} {e : va_E} (h : k < 68) (he : cellG q cA τ k = e) (ho : ∀ j, j ≠ k → σ.1 j = τ.1 j ∧ σ.2 j = τ.2 j) : (wG q cA σ).set k (q k, e) = wG q cA τ := by
  apply List.ext_getElem?
  intro i
  rw [List.getElem?_set]
  by_cases hi : k = i
  · subst hi
    simp [wG, h, he]
  · rw [if_neg hi]
    by_cases h2 : i < 68
    · rw [wG_at h2, wG_at h2, cellG_ext (ho i (fun h => hi h.symm)).1 (ho i (fun h => hi h.symm)).2]
    · simp [wG, h2]
def tysG (cA : Nat → ClassId) : List (ClassId × FieldType) := [(cA 0, .int), (cA 1, .boolean), (cA 2, .long), (cA 3, .object "ThreeTimes$Shelf")]
def KK (D : va_G) (cA : Nat → ClassId) (U : State) : Prop := va_K D cl7 (tysG cA) U ∧ ∀ w ∈ NW, va_Nw w U
theorem nw_onTables {w : Jvm.Cond} (h : w ∈ NW) : w.onTables = true := by
  have h2 := (List.mem_filter.mp h).2
  unfold isNest at h2
  split at h2
  · rfl
  · rfl
  · cases h2
theorem nw_warm {s U : State} (hW : s.WarmedH U.vm) (h : ∀ w ∈ NW, va_Nw w s) : ∀ w ∈ NW, va_Nw w U := by
  intro w hw
  have h2 := (List.mem_filter.mp hw).2
  have h3 := h w hw
  unfold isNest at h2
  split at h2
  · exact va_Nw.warmF hW h3
  · exact va_Nw.warmM hW h3
  · cases h2
def LH (q : Nat → Nat) (ls : List (Option Value)) (nL : Nat) (lsA : Array Slot) : Prop := ls.length = nL ∧ lsA.size = nL ∧ lv_wf lsA ∧ ∀ (i : Nat) (v : Value), ls[i]? = some (some v) → lsA[i]? = some (.val (cnc q v))
def lvs (q : Nat → Nat) (ls : List (Option Value)) : List (Nat × Value) := (List.range ls.length).filterMap fun i => match ls[i]? with
  | some (some v) => some (i, cnc q v)
  | _ => none
theorem lvs_mem {q : Nat → Nat} {ls : List (Option Value)} {p : Nat × Value} : p ∈ lvs q ls ↔ ∃ v, ls[p.1]? = some (some v) ∧ p.2 = cnc q v := by
  unfold lvs
  rw [List.mem_filterMap]
  constructor
  · rintro ⟨i, hi, h⟩
    split at h
    · next v hv =>
      cases h
      exact ⟨v, hv, rfl⟩
    · cases h
  · rintro ⟨v, hv, hp⟩
    refine ⟨p.1, List.mem_range.mpr (List.getElem?_eq_some_iff.mp hv).1, ?_⟩
    rw [hv]
    show some (p.1, cnc q v) = some p
    rw [← hp]
theorem LH_has {q : Nat → Nat} {ls : List (Option Value)} {nL : Nat} {lsA : Array Slot} (h : LH q ls nL lsA) : lv_has lsA nL (lvs q ls) := by
  refine ⟨h.2.1, h.2.2.1, ?_⟩
  intro p hp
  obtain ⟨v, hv, he⟩ := lvs_mem.mp hp
  rw [he]
  exact h.2.2.2 _ _ hv
def prevOK (ls : List (Option Value)) (i : Nat) : Bool := match i with
  | 0 => true
  | k + 1 => match ls[k]? with
    | some (some (.long _)) => false
    | some (some (.double _)) => false
    | _ => true
theorem prevOK_cat {ls : List (Option Value)} {i k : Nat} {v : Value} (h : prevOK ls i = true) (hk : k + 1 = i) (hv : ls[k]? = some (some v)) : v.category = 1 := by
  subst hk
  unfold prevOK at h
  simp only at h
  rw [hv] at h
  cases v <;> simp_all [Value.category]
theorem LH_st1 {q : Nat → Nat} {ls : List (Option Value)} {nL i : Nat} {v : Value} {lsA : Array Slot} (hl : ls.length = nL) (hp : prevOK ls i = true)
    (h : lv_has lsA nL ((i, cnc q v) :: (lvs q ls).filter (fun p => !(p.1 == i) && !(p.1 + 1 == i && p.2.category == 2)))) : LH q (ls.set i (some v)) nL lsA := by
  refine ⟨by rw [List.length_set]; exact hl, h.1, h.2.1, ?_⟩
  intro k x hx
  rw [List.getElem?_set] at hx
  by_cases hk : i = k
  · subst hk
    rw [if_pos rfl] at hx
    split at hx
    · cases hx
      exact h.2.2 (i, cnc q v) List.mem_cons_self
    · cases hx
  · rw [if_neg hk] at hx
    refine h.2.2 (k, cnc q x) (List.mem_cons_of_mem _ (List.mem_filter.mpr ⟨lvs_mem.mpr ⟨x, hx, rfl⟩, ?_⟩))
    by_cases hk2 : k + 1 = i
    · have := prevOK_cat hp hk2 hx
      simp [cnc_cat, this, hk2, Ne.symm hk]
    · simp [hk2, Ne.symm hk]
theorem LH_st2 {q : Nat → Nat} {ls : List (Option Value)} {nL i : Nat} {v : Value} {lsA : Array Slot} (hl : ls.length = nL) (hp : prevOK ls i = true)
    (h : lv_has lsA nL ((i, cnc q v) :: (lvs q ls).filter (fun p => !(p.1 == i) && (!(p.1 == i + 1) && !(p.1 + 1 == i && p.2.category == 2))))) : LH q ((ls.set i (some v)).set (i + 1) none) nL lsA := by
  refine ⟨by rw [List.length_set, List.length_set]; exact hl, h.1, h.2.1, ?_⟩
  intro k x hx
  rw [List.getElem?_set] at hx
  by_cases hk1 : i + 1 = k
  · subst hk1
    rw [if_pos rfl] at hx
    split at hx <;> cases hx
  rw [if_neg hk1, List.getElem?_set] at hx
  by_cases hk : i = k
  · subst hk
    rw [if_pos rfl] at hx
    split at hx
    · cases hx
      exact h.2.2 (i, cnc q v) List.mem_cons_self
    · cases hx
  · rw [if_neg hk] at hx
    refine h.2.2 (k, cnc q x) (List.mem_cons_of_mem _ (List.mem_filter.mpr ⟨lvs_mem.mpr ⟨x, hx, rfl⟩, ?_⟩))
    by_cases hk2 : k + 1 = i
    · have := prevOK_cat hp hk2 hx
      simp [cnc_cat, this, hk2, Ne.symm hk, Ne.symm hk1]
    · simp [hk2, Ne.symm hk, Ne.symm hk1]
/-! ### the interpreter -/
def inb (i : Int32) (n : Nat) : Bool := decide (0 ≤ i) && decide (i.toNatClampNeg < n)
theorem inb_in {i : Int32} {n : Nat} (h : inb i n = true) : vp_in i n := by
  simp only [inb, Bool.and_eq_true, decide_eq_true_eq] at h
  intro h2
  rcases h2 with h2 | h2
  · exact absurd h.1 (Int32.not_le.mpr h2)
  · omega
def isb (x : Int32) : Bool := decide (x = 0) || decide (x = 1)
theorem isb_cases {x : Int32} (h : isb x = true) : x = 0 ∨ x = 1 := by simpa [isb] using h
/-- an instruction, its length, a number, a long, a class, a slot -/
abbrev IT : Type := Instr × Nat × Int32 × Int64 × Nat × Nat
abbrev AR : Type := List Prop × List (Option Value) × List Value × ST
def conj (o : List Prop) : Prop := match o with
  | [] => True
  | p :: r => p ∧ conj r
theorem conj_app {a b : List Prop} (h : conj (a ++ b)) : conj a ∧ conj b := by
  induction a with
  | nil => exact ⟨trivial, h⟩
  | cons x r ih => exact ⟨⟨h.1, (ih h.2).1⟩, (ih h.2).2⟩
def ldI (ls : List (Option Value)) (i : Nat) (st : List Value) (σ : ST) : Option AR := match ls[i]? with
  | some (some (.int x)) => some ([], ls, .int x :: st, σ)
  | _ => none
def ldL (ls : List (Option Value)) (i : Nat) (st : List Value) (σ : ST) : Option AR := match ls[i]? with
  | some (some (.long x)) => some ([], ls, .long x :: st, σ)
  | _ => none
def ldA (ls : List (Option Value)) (i : Nat) (st : List Value) (σ : ST) : Option AR := match ls[i]? with
  | some (some (.ref x)) => some ([], ls, .ref x :: st, σ)
  | some (some .null) => some ([], ls, .null :: st, σ)
  | _ => none
def stI (ls : List (Option Value)) (i : Nat) (st : List Value) (σ : ST) : Option AR := match ls[i]?, prevOK ls i, st with
  | some _, true, .int x :: r => some ([], ls.set i (some (.int x)), r, σ)
  | _, _, _ => none
def stL (ls : List (Option Value)) (i : Nat) (st : List Value) (σ : ST) : Option AR := match ls[i + 1]?, prevOK ls i, st with
  | some _, true, .long x :: r => some ([], (ls.set i (some (.long x))).set (i + 1) none, r, σ)
  | _, _, _ => none
def stA (ls : List (Option Value)) (i : Nat) (st : List Value) (σ : ST) : Option AR := match ls[i]?, prevOK ls i, st with
  | some _, true, .ref x :: r => some ([], ls.set i (some (.ref x)), r, σ)
  | some _, true, .null :: r => some ([], ls.set i (some .null), r, σ)
  | _, _, _ => none
def ast1 (i : Instr) (v : Int32) (w : Int64) (c j : Nat) (ls : List (Option Value)) (st : List Value) (σ : ST) : Option AR := match i with
  | .iconst _ => some ([], ls, .int v :: st, σ)
  | .bipush _ => some ([], ls, .int v :: st, σ)
  | .sipush _ => some ([], ls, .int v :: st, σ)
  | .ldc _ => some ([], ls, .int v :: st, σ)
  | .lconst _ => some ([], ls, .long w :: st, σ)
  | .ldc2_w _ => some ([], ls, .long w :: st, σ)
  | .aconst_null => some ([], ls, .null :: st, σ)
  | .iload_n k => ldI ls k.val st σ
  | .iload k => ldI ls k st σ
  | .lload_n k => ldL ls k.val st σ
  | .lload k => ldL ls k st σ
  | .aload_n k => ldA ls k.val st σ
  | .aload k => ldA ls k st σ
  | .istore_n k => stI ls k.val st σ
  | .istore k => stI ls k st σ
  | .lstore_n k => stL ls k.val st σ
  | .lstore k => stL ls k st σ
  | .astore_n k => stA ls k.val st σ
  | .astore k => stA ls k st σ
  | .iinc k _ => match ls[k]?, prevOK ls k with
    | some (some (.int x)), true => some ([], ls.set k (some (.int (x + v))), st, σ)
    | _, _ => none
  | .iadd => match st with
    | .int y :: .int x :: r => some ([], ls, .int (x + y) :: r, σ)
    | _ => none
  | .isub => match st with
    | .int y :: .int x :: r => some ([], ls, .int (x - y) :: r, σ)
    | _ => none
  | .imul => match st with
    | .int y :: .int x :: r => some ([], ls, .int (x * y) :: r, σ)
    | _ => none
  | .iand => match st with
    | .int y :: .int x :: r => some ([], ls, .int (x &&& y) :: r, σ)
    | _ => none
  | .idiv => match st with
    | .int y :: .int x :: r => some ([¬ y = 0], ls, .int (x / y) :: r, σ)
    | _ => none
  | .irem => match st with
    | .int y :: .int x :: r => some ([¬ y = 0], ls, .int (x - x / y * y) :: r, σ)
    | _ => none
  | .ineg => match st with
    | .int x :: r => some ([], ls, .int (-x) :: r, σ)
    | _ => none
  | .lmul => match st with
    | .long y :: .long x :: r => some ([], ls, .long (x * y) :: r, σ)
    | _ => none
  | .ldiv => match st with
    | .long y :: .long x :: r => some ([¬ y = 0], ls, .long (x / y) :: r, σ)
    | _ => none
  | .lcmp => match st with
    | .long y :: .long x :: r => some ([], ls, .int (lg_cmp x y) :: r, σ)
    | _ => none
  | .i2l => match st with
    | .int x :: r => some ([], ls, .long x.toInt64 :: r, σ)
    | _ => none
  | .l2i => match st with
    | .long x :: r => some ([], ls, .int x.toInt32 :: r, σ)
    | _ => none
  | .i2b => match st with
    | .int x :: r => some ([], ls, .int x.toInt8.toInt32 :: r, σ)
    | _ => none
  | .i2s => match st with
    | .int x :: r => some ([], ls, .int x.toInt16.toInt32 :: r, σ)
    | _ => none
  | .dup => match st with
    | .int x :: r => some ([], ls, .int x :: .int x :: r, σ)
    | .ref x :: r => some ([], ls, .ref x :: .ref x :: r, σ)
    | _ => none
  | .dup2 => match st with
    | .int x :: .ref y :: r => some ([], ls, .int x :: .ref y :: .int x :: .ref y :: r, σ)
    | _ => none
  | .pop => match st with
    | .int _ :: r => some ([], ls, r, σ)
    | _ => none
  | .goto _ => some ([], ls, st, σ)
  | .getfield _ => match st with
    | .ref k :: r => some ([kd k = c], ls, fval c k j σ :: r, σ)
    | _ => none
  | .putfield _ => match st with
    | .int x :: .ref k :: r => match Nat.blt c 100 with
      | true => some ([kd k = c], ls, r, setI σ k j x)
      | false => some ([kd k = c - 100, isb x = true], ls, r, setI σ k j x)
    | _ => none
  | .arraylength => match st with
    | .ref k :: r => some ([kd k = c], ls, .int (Int32.ofNat (alen k)) :: r, σ)
    | _ => none
  | .iaload => match st with
    | .int i :: .ref k :: r => some ([kd k = 10, inb i (alen k) = true], ls, .int (σ.1 k i.toNatClampNeg) :: r, σ)
    | _ => none
  | .baload => match st with
    | .int i :: .ref k :: r => some ([kd k = 11, inb i (alen k) = true], ls, .int (σ.1 k i.toNatClampNeg) :: r, σ)
    | _ => none
  | .laload => match st with
    | .int i :: .ref k :: r => some ([kd k = 12, inb i (alen k) = true], ls, .long (σ.2 k i.toNatClampNeg) :: r, σ)
    | _ => none
  | .aaload => match st with
    | .int i :: .ref k :: r => some ([kd k = 13, inb i 8 = true], ls, .ref (20 + 2 * i.toNatClampNeg) :: r, σ)
    | _ => none
  | .iastore => match st with
    | .int x :: .int i :: .ref k :: r => some ([kd k = 10, inb i (alen k) = true], ls, r, setI σ k i.toNatClampNeg x)
    | _ => none
  | .bastore => match st with
    | .int x :: .int i :: .ref k :: r => some ([kd k = 11, inb i (alen k) = true, isb x = true], ls, r, setI σ k i.toNatClampNeg x)
    | _ => none
  | .lastore => match st with
    | .long x :: .int i :: .ref k :: r => some ([kd k = 12, inb i (alen k) = true], ls, r, setL σ k i.toNatClampNeg x)
    | _ => none
  | _ => none
def okP (ow idx c j : Nat) : Bool := match Nat.blt c 100 with
  | true => okF ow idx c j && ((TN c j).2.2.1 == "I" && (TN c j).2.2.2 == false)
  | false => okF ow idx (c - 100) j && ((TN (c - 100) j).2.2.1 == "Z" && (TN (c - 100) j).2.2.2 == false)
def okA (ow pc : Nat) (i : Instr) (n : Nat) (v : Int32) (w : Int64) (c j : Nat) : Bool := match i with
  | .iconst k => n == 1 && decide (Int32.ofInt k = v)
  | .bipush k => n == 2 && decide ((Int8.ofInt k).toInt32 = v)
  | .sipush k => n == 3 && decide ((Int16.ofInt k).toInt32 = v)
  | .ldc k => n == 2 && okCI ow k v
  | .lconst d => n == 1 && decide (Int64.ofNat (d : Nat) = w)
  | .ldc2_w k => n == 3 && okCL ow k w
  | .iload _ => n == 2
  | .lload _ => n == 2
  | .aload _ => n == 2
  | .istore _ => n == 2
  | .lstore _ => n == 2
  | .astore _ => n == 2
  | .iinc _ k => n == 3 && decide (Int32.ofInt k = v)
  | .getfield idx => n == 3 && okF ow idx c j
  | .putfield idx => n == 3 && okP ow idx c j
  | .goto off => n == 3 && decide ((pc : Int) + off = (j : Int))
  | .arraylength => n == 1 && (c == 10 || c == 11 || c == 12 || c == 13)
  | _ => n == 1
def nxt (pc : Nat) (it : IT) : Nat := match it.1 with
  | .goto _ => it.2.2.2.2.2
  | _ => pc + it.2.1
def okI (ow : Nat) (cc : ByteArray) (pc : Nat) (it : IT) : Bool := decide (decode cc pc = .ok (it.1, it.2.1)) && okA ow pc it.1 it.2.1 it.2.2.1 it.2.2.2.1 it.2.2.2.2.1 it.2.2.2.2.2
def decBs (ow : Nat) (cc : ByteArray) (pc : Nat) (bl : List IT) (pc2 : Nat) : Bool := match bl with
  | [] => pc == pc2
  | it :: r => okI ow cc pc it && decBs ow cc (nxt pc it) r pc2
def abl (bl : List IT) (ls : List (Option Value)) (st : List Value) (σ : ST) : Option AR := match bl with
  | [] => some ([], ls, st, σ)
  | it :: r => match ast1 it.1 it.2.2.1 it.2.2.2.1 it.2.2.2.2.1 it.2.2.2.2.2 ls st σ with
    | none => none
    | some (o, ls1, st1, σ1) => match abl r ls1 st1 σ1 with
      | none => none
      | some (o2, ls2, st2, σ2) => some (o ++ o2, ls2, st2, σ2)
/-! ### the judgement -/
def CT (p : Program) (s : State) (m : MethodId) (args : Array Value) (c : Code) (D : va_G) (cA : Nat → ClassId) (A : Nat → Prop) (nL ow : Nat) (cc : ByteArray) : Prop :=
  p.tables.exec = Jvm.exec ∧ c.code = cc ∧ c.maxLocals = nL ∧ s.vm.findClass (RN ow) = some m.cls ∧ (∀ w ∈ AW, w.before args s = true) ∧ KK D cA s ∧ ∀ x, s.heap.size ≤ x → A x
def VV (p : Program) (l : Launch) (e : Env) (R : Room) (s : State) (m : MethodId) (args : Array Value) (below : List Frame) (meth : Method) (c : Code) (cells slots : Nat) (Q : State → Prop)
    (D : va_G) (q : Nat → Nat) (cA : Nat → ClassId) (A : Nat → Prop) (nL : Nat) (pc : Nat) (ls : List (Option Value)) (st : List Value) (σ : ST) : Prop :=
  ∀ (H : Heap) (locs : List Loc) (lsA : Array Slot), va_P D cl7 (wG q cA σ) H → va_D A (wG q cA σ) → va_S A s.heap H locs → LH q ls nL lsA → W p l e R s m args below meth c H locs cells slots Q (F0 m pc lsA (st.map (cnc q)))
end
section
/-! SOUNDNESS of one step and of a straight stretch. -/
section STEP
variable {p : Program} {l : Launch} {e : Env} {R : Room} {s : State} {m : MethodId} {args : Array Value} {below : List Frame} {meth : Method} {c : Code} {cells slots : Nat} {Q : State → Prop}
variable {D : va_G} {q : Nat → Nat} {cA : Nat → ClassId} {A : Nat → Prop} {nL ow pc : Nat} {cc : ByteArray} {ls ls' : List (Option Value)} {st st' : List Value} {σ σ' : ST} {o : List Prop} {n : Nat}
/-- the next place, with a state -/
abbrev VVx (p : Program) (l : Launch) (e : Env) (R : Room) (s : State) (m : MethodId) (args : Array Value) (below : List Frame) (meth : Method) (c : Code) (cells slots : Nat) (Q : State → Prop)
    (D : va_G) (q : Nat → Nat) (cA : Nat → ClassId) (A : Nat → Prop) (nL : Nat) (pc : Nat) (a : List (Option Value) × List Value × ST) : Prop := VV p l e R s m args below meth c cells slots Q D q cA A nL pc a.1 a.2.1 a.2.2
theorem s_ldI {i : Nat} (h : ldI ls i st σ = some (o, ls', st', σ')) (k : VV p l e R s m args below meth c cells slots Q D q cA A nL (pc + n) ls' st' σ')
    (row : ∀ (x : Int32) (H : Heap) (locs : List Loc) (lsA : Array Slot), lsA[i]? = some (.val (.int x)) → W p l e R s m args below meth c H locs cells slots Q (F0 m (pc + n) lsA (.int x :: st.map (cnc q))) → W p l e R s m args below meth c H locs cells slots Q (F0 m pc lsA (st.map (cnc q)))) : VV p l e R s m args below meth c cells slots Q D q cA A nL pc ls st σ := by
  unfold ldI at h
  split at h
  · next x hx =>
    cases h
    intro H locs lsA hP hD hS hL
    exact row x H locs lsA (hL.2.2.2 i _ hx) (k H locs lsA hP hD hS hL)
  · cases h
theorem s_ldL {i : Nat} (h : ldL ls i st σ = some (o, ls', st', σ')) (k : VV p l e R s m args below meth c cells slots Q D q cA A nL (pc + n) ls' st' σ')
    (row : ∀ (x : Int64) (H : Heap) (locs : List Loc) (lsA : Array Slot), lsA[i]? = some (.val (.long x)) → W p l e R s m args below meth c H locs cells slots Q (F0 m (pc + n) lsA (.long x :: st.map (cnc q))) → W p l e R s m args below meth c H locs cells slots Q (F0 m pc lsA (st.map (cnc q)))) : VV p l e R s m args below meth c cells slots Q D q cA A nL pc ls st σ := by
  unfold ldL at h
  split at h
  · next x hx =>
    cases h
    intro H locs lsA hP hD hS hL
    exact row x H locs lsA (hL.2.2.2 i _ hx) (k H locs lsA hP hD hS hL)
  · cases h
theorem s_ldA {i : Nat} (h : ldA ls i st σ = some (o, ls', st', σ')) (k : VV p l e R s m args below meth c cells slots Q D q cA A nL (pc + n) ls' st' σ')
    (row : ∀ (x : Nat) (H : Heap) (locs : List Loc) (lsA : Array Slot), lsA[i]? = some (.val (.ref x)) → W p l e R s m args below meth c H locs cells slots Q (F0 m (pc + n) lsA (.ref x :: st.map (cnc q))) → W p l e R s m args below meth c H locs cells slots Q (F0 m pc lsA (st.map (cnc q))))
    (rowN : ∀ (H : Heap) (locs : List Loc) (lsA : Array Slot), lsA[i]? = some (.val .null) → W p l e R s m args below meth c H locs cells slots Q (F0 m (pc + n) lsA (.null :: st.map (cnc q))) → W p l e R s m args below meth c H locs cells slots Q (F0 m pc lsA (st.map (cnc q)))) : VV p l e R s m args below meth c cells slots Q D q cA A nL pc ls st σ := by
  unfold ldA at h
  split at h
  · next x hx =>
    cases h
    intro H locs lsA hP hD hS hL
    exact row _ H locs lsA (hL.2.2.2 i _ hx) (k H locs lsA hP hD hS hL)
  · next hx =>
    cases h
    intro H locs lsA hP hD hS hL
    exact rowN H locs lsA (hL.2.2.2 i _ hx) (k H locs lsA hP hD hS hL)
  · cases h
theorem len_of {i : Nat} {y : Option Value} (h : ls[i]? = some y) : i < ls.length := (List.getElem?_eq_some_iff.mp h).1
theorem s_stI {i : Nat} (h : stI ls i st σ = some (o, ls', st', σ')) (k : VV p l e R s m args below meth c cells slots Q D q cA A nL (pc + n) ls' st' σ')
    (row : ∀ (x : Int32) (r : List Value) (H : Heap) (locs : List Loc) (lsA : Array Slot), lv_has lsA nL (lvs q ls) → i < nL → (∀ ls' : Array Slot, lv_has ls' nL ((i, Value.int x) :: (lvs q ls).filter (fun q => !(q.1 == i) && !(q.1 + 1 == i && q.2.category == 2))) → W p l e R s m args below meth c H locs cells slots Q (F0 m (pc + n) ls' r)) → W p l e R s m args below meth c H locs cells slots Q (F0 m pc lsA (.int x :: r))) : VV p l e R s m args below meth c cells slots Q D q cA A nL pc ls st σ := by
  unfold stI at h
  split at h
  · next y x r h1 h2 =>
    cases h
    intro H locs lsA hP hD hS hL
    refine row x _ H locs lsA (LH_has hL) (by rw [← hL.1]; exact len_of h1) (fun ls2 h3 => ?_)
    exact k H locs ls2 hP hD hS (LH_st1 hL.1 h2 h3)
  · cases h
theorem s_stL {i : Nat} (h : stL ls i st σ = some (o, ls', st', σ')) (k : VV p l e R s m args below meth c cells slots Q D q cA A nL (pc + n) ls' st' σ')
    (row : ∀ (x : Int64) (r : List Value) (H : Heap) (locs : List Loc) (lsA : Array Slot), lv_has lsA nL (lvs q ls) → i + 1 < nL → (∀ ls' : Array Slot, lv_has ls' nL ((i, Value.long x) :: (lvs q ls).filter (fun q => !(q.1 == i) && (!(q.1 == i + 1) && !(q.1 + 1 == i && q.2.category == 2)))) → W p l e R s m args below meth c H locs cells slots Q (F0 m (pc + n) ls' r)) → W p l e R s m args below meth c H locs cells slots Q (F0 m pc lsA (.long x :: r))) : VV p l e R s m args below meth c cells slots Q D q cA A nL pc ls st σ := by
  unfold stL at h
  split at h
  · next y x r h1 h2 =>
    cases h
    intro H locs lsA hP hD hS hL
    refine row x _ H locs lsA (LH_has hL) (by rw [← hL.1]; exact len_of h1) (fun ls2 h3 => ?_)
    exact k H locs ls2 hP hD hS (LH_st2 hL.1 h2 h3)
  · cases h
theorem s_stA {i : Nat} (h : stA ls i st σ = some (o, ls', st', σ')) (k : VV p l e R s m args below meth c cells slots Q D q cA A nL (pc + n) ls' st' σ')
    (row : ∀ (x : Nat) (r : List Value) (H : Heap) (locs : List Loc) (lsA : Array Slot), lv_has lsA nL (lvs q ls) → i < nL → (∀ ls' : Array Slot, lv_has ls' nL ((i, Value.ref x) :: (lvs q ls).filter (fun q => !(q.1 == i) && !(q.1 + 1 == i && q.2.category == 2))) → W p l e R s m args below meth c H locs cells slots Q (F0 m (pc + n) ls' r)) → W p l e R s m args below meth c H locs cells slots Q (F0 m pc lsA (.ref x :: r)))
    (rowN : ∀ (r : List Value) (H : Heap) (locs : List Loc) (lsA : Array Slot), lv_has lsA nL (lvs q ls) → i < nL → (∀ ls' : Array Slot, lv_has ls' nL ((i, Value.null) :: (lvs q ls).filter (fun q => !(q.1 == i) && !(q.1 + 1 == i && q.2.category == 2))) → W p l e R s m args below meth c H locs cells slots Q (F0 m (pc + n) ls' r)) → W p l e R s m args below meth c H locs cells slots Q (F0 m pc lsA (.null :: r))) : VV p l e R s m args below meth c cells slots Q D q cA A nL pc ls st σ := by
  unfold stA at h
  split at h
  · next y x r h1 h2 =>
    cases h
    intro H locs lsA hP hD hS hL
    refine row _ _ H locs lsA (LH_has hL) (by rw [← hL.1]; exact len_of h1) (fun ls2 h3 => ?_)
    exact k H locs ls2 hP hD hS (LH_st1 (v := .ref x) hL.1 h2 h3)
  · next y r h1 h2 =>
    cases h
    intro H locs lsA hP hD hS hL
    refine rowN _ H locs lsA (LH_has hL) (by rw [← hL.1]; exact len_of h1) (fun ls2 h3 => ?_)
    exact k H locs ls2 hP hD hS (LH_st1 (v := .null) hL.1 h2 h3)
  · cases h
theorem fs_at {ci k j : Nat} (hj : j < NN ci) : ((List.range (NN ci)).map fun j => cnc q (fval ci k j σ))[j]? = some (cnc q (fval ci k j σ)) := by
  simp [hj]
theorem fs_set {ci k j : Nat} {x : Int32} (hr : rfN ci j = false) : ((List.range (NN ci)).map fun j => cnc q (fval ci k j σ)).set j (.int x) = (List.range (NN ci)).map fun i => cnc q (fval ci k i (setI σ k j x)) := by
  apply List.ext_getElem?
  intro i
  rw [List.getElem?_set]
  by_cases hi : j = i
  · subst hi
    rw [if_pos rfl]
    by_cases h2 : j < NN ci
    · simp [h2, fval, hr, setI, cnc]
    · simp [h2]
  · rw [if_neg hi]
    by_cases h2 : i < NN ci
    · have : fval ci k i (setI σ k j x) = fval ci k i σ := by
        unfold fval
        split
        · rfl
        · simp [setI, Ne.symm hi]
      simp [h2, this]
    · simp [h2]
theorem setI_off {k j : Nat} {x : Int32} : ∀ i, i ≠ k → σ.1 i = (setI σ k j x).1 i ∧ σ.2 i = (setI σ k j x).2 i := fun i hi => ⟨by funext b; simp [setI, hi], rfl⟩
theorem setL_off {k j : Nat} {x : Int64} : ∀ i, i ≠ k → σ.1 i = (setL σ k j x).1 i ∧ σ.2 i = (setL σ k j x).2 i := fun i hi => ⟨rfl, by funext b; simp [setL, hi]⟩
theorem setI_upd {k j : Nat} {x : Int32} : (setI σ k j x).1 k = upd (σ.1 k) j x := by funext b; simp [setI, upd]
theorem setL_upd {k j : Nat} {x : Int64} : (setL σ k j x).2 k = vp_updL (σ.2 k) j x := by funext b; simp [setL, vp_updL]
theorem V_get {idx ci j k : Nat} {r : List Value} (hC : CT p s m args c D cA A nL ow cc) (hd : decode cc pc = .ok (.getfield idx, 3)) (hF : okF ow idx ci j = true) (hk : kd k = ci)
    (kk : VV p l e R s m args below meth c cells slots Q D q cA A nL (pc + 3) ls (fval ci k j σ :: r) σ) : VV p l e R s m args below meth c cells slots Q D q cA A nL pc ls (.ref k :: r) σ := by
  obtain ⟨hx, hb, hml, hown, hts, hK, hA⟩ := hC
  obtain ⟨h7, hj, hw⟩ := okF_spec hF
  intro H locs lsA hP hD hS hL
  have he : (wG q cA σ)[k]? = some (q k, .inr (ci, (List.range (NN ci)).map fun j => cnc q (fval ci k j σ))) := by rw [wG_at (kd_lt (by omega)), cellG_obj hk h7]
  rcases hw with hw | hw
  · exact va_get hx hb hts (inAN ci h7) hown hK.1 hP k he (cl7_at ci h7) j hj (hts _ hw) (fun _ h9 => h9) (fs_at hj) hd (kk H locs lsA hP hD hS hL)
  · exact va_getN hx hb hts (inAN ci h7) hown hK.1 hP k he (cl7_at ci h7) j hj (va_Nw.use (nw_onTables hw) (hK.2 _ hw)) (fun _ h9 => h9) (fs_at hj) hd (kk H locs lsA hP hD hS hL)
theorem V_put {idx ci j k : Nat} {x : Int32} {r : List Value} (hC : CT p s m args c D cA A nL ow cc) (hd : decode cc pc = .ok (.putfield idx, 3)) (hF : okF ow idx ci j = true) (hk : kd k = ci)
    {ty : FieldType} (hty : parseFieldDescriptor (TN ci j).2.2.1 = some ty) (hn : narrow ty (.int x) = .int x) (hfit : fits ty (.int x) = true) (hfin : (TN ci j).2.2.2 = false) (hrf : rfN ci j = false)
    (kk : VV p l e R s m args below meth c cells slots Q D q cA A nL (pc + 3) ls r (setI σ k j x)) : VV p l e R s m args below meth c cells slots Q D q cA A nL pc ls (.int x :: .ref k :: r) σ := by
  obtain ⟨hx, hb, hml, hown, hts, hK, hA⟩ := hC
  obtain ⟨h7, hj, hw⟩ := okF_spec hF
  intro H locs lsA hP hD hS hL
  have h68 : k < 68 := kd_lt (by omega)
  have he : (wG q cA σ)[k]? = some (q k, .inr (ci, (List.range (NN ci)).map fun j => cnc q (fval ci k j σ))) := by rw [wG_at h68, cellG_obj hk h7]
  have hset : (wG q cA σ).set k (q k, .inr (ci, ((List.range (NN ci)).map fun j => cnc q (fval ci k j σ)).set j (cnc q (.int x)))) = wG q cA (setI σ k j x) := wG_set h68 (by rw [cellG_obj hk h7, ← fs_set hrf]; rfl) setI_off
  rcases hw with hw | hw
  · refine va_put hx hb hts (inAN ci h7) (tyN ci) (tyN_ok ci h7) (nmN ci h7) hown hK.1 hP hD hS k he (cl7_at ci h7) j hj (hts _ hw) (fun _ h9 => h9) hfin hty hn hfit (by simp [hj]) hd (fun H1 locs1 hP1 hD1 hS1 => ?_)
    rw [hset] at hP1 hD1
    exact kk H1 locs1 lsA hP1 hD1 hS1 hL
  · refine va_putN hx hb hts (inAN ci h7) (tyN ci) (tyN_ok ci h7) (nmN ci h7) hown hK.1 hP hD hS k he (cl7_at ci h7) j hj (va_Nw.use (nw_onTables hw) (hK.2 _ hw)) (fun _ h9 => h9) hfin hty hn hfit (by simp [hj]) hd (fun H1 locs1 hP1 hD1 hS1 => ?_)
    rw [hset] at hP1 hD1
    exact kk H1 locs1 lsA hP1 hD1 hS1 hL
theorem d_I : parseFieldDescriptor "I" = some .int := by decide +kernel
theorem d_Z : parseFieldDescriptor "Z" = some .boolean := by decide +kernel
theorem isb_nar {x : Int32} (h : isb x = true) : narrow .boolean (.int x) = .int x ∧ fits .boolean (.int x) = true := by
  rcases isb_cases h with rfl | rfl <;> decide
theorem isb_nar2 {x : Int32} (h : isb x = true) : vp_nar .boolean x = x := by
  rcases isb_cases h with rfl | rfl <;> decide
set_option maxHeartbeats 4000000 in
theorem V_step {it : IT} (hC : CT p s m args c D cA A nL ow cc) (hok : okI ow cc pc it = true) (h : ast1 it.1 it.2.2.1 it.2.2.2.1 it.2.2.2.2.1 it.2.2.2.2.2 ls st σ = some (o, ls', st', σ')) (ho : conj o)
    (k : VV p l e R s m args below meth c cells slots Q D q cA A nL (nxt pc it) ls' st' σ') : VV p l e R s m args below meth c cells slots Q D q cA A nL pc ls st σ := by
  obtain ⟨i, n, v, w, ci, j⟩ := it
  simp only [okI, Bool.and_eq_true, decide_eq_true_eq] at hok
  obtain ⟨hd, hokA⟩ := hok
  simp only at h
  have hC' := hC
  obtain ⟨hx, hb, hml, hown, hts, hK, hA⟩ := hC
  unfold ast1 at h
  split at h
  · cases h
    simp only [okA, Bool.and_eq_true, beq_iff_eq, decide_eq_true_eq] at hokA
    obtain ⟨rfl, hv⟩ := hokA
    intro H locs lsA hP hD hS hL
    exact lv_iconst hx hb hd hv (k H locs lsA hP hD hS hL)
  · cases h
    simp only [okA, Bool.and_eq_true, beq_iff_eq, decide_eq_true_eq] at hokA
    obtain ⟨rfl, hv⟩ := hokA
    intro H locs lsA hP hD hS hL
    exact lv_bipush hx hb hd hv (k H locs lsA hP hD hS hL)
  · cases h
    simp only [okA, Bool.and_eq_true, beq_iff_eq, decide_eq_true_eq] at hokA
    obtain ⟨rfl, hv⟩ := hokA
    intro H locs lsA hP hD hS hL
    exact lv_sipush hx hb hd hv (k H locs lsA hP hD hS hL)
  · cases h
    simp only [okA, Bool.and_eq_true, beq_iff_eq, decide_eq_true_eq] at hokA
    obtain ⟨rfl, hv⟩ := hokA
    intro H locs lsA hP hD hS hL
    exact lv_ldc hx hb hown (hts _ (okCI_spec hv)) hd (k H locs lsA hP hD hS hL)
  · cases h
    simp only [okA, Bool.and_eq_true, beq_iff_eq, decide_eq_true_eq] at hokA
    obtain ⟨rfl, hv⟩ := hokA
    intro H locs lsA hP hD hS hL
    exact lv_lconst hx hb hd hv (k H locs lsA hP hD hS hL)
  · cases h
    simp only [okA, Bool.and_eq_true, beq_iff_eq, decide_eq_true_eq] at hokA
    obtain ⟨rfl, hv⟩ := hokA
    intro H locs lsA hP hD hS hL
    exact lv_ldc2 hx hb hown (hts _ (okCL_spec hv)) hd (k H locs lsA hP hD hS hL)
  · cases h
    simp only [okA, beq_iff_eq] at hokA
    subst hokA
    intro H locs lsA hP hD hS hL
    exact lv_null hx hb hd (k H locs lsA hP hD hS hL)
  · simp only [okA, beq_iff_eq] at hokA
    subst hokA
    exact s_ldI h k (fun x H locs lsA hl kk => lv_iload_n hx hb hd rfl hl kk)
  · simp only [okA, beq_iff_eq] at hokA
    subst hokA
    exact s_ldI h k (fun x H locs lsA hl kk => lv_iload hx hb hd hl kk)
  · simp only [okA, beq_iff_eq] at hokA
    subst hokA
    exact s_ldL h k (fun x H locs lsA hl kk => lv_lload_n hx hb hd rfl hl kk)
  · simp only [okA, beq_iff_eq] at hokA
    subst hokA
    exact s_ldL h k (fun x H locs lsA hl kk => lv_lload hx hb hd hl kk)
  · simp only [okA, beq_iff_eq] at hokA
    subst hokA
    exact s_ldA h k (fun x H locs lsA hl kk => lv_aload_n hx hb hd rfl hl kk) (fun H locs lsA hl kk => lv_aload_nN hx hb hd rfl hl kk)
  · simp only [okA, beq_iff_eq] at hokA
    subst hokA
    exact s_ldA h k (fun x H locs lsA hl kk => lv_aload hx hb hd hl kk) (fun H locs lsA hl kk => lv_aloadN hx hb hd hl kk)
  · simp only [okA, beq_iff_eq] at hokA
    subst hokA
    exact s_stI h k (fun x r H locs lsA hl hi kk => lv_istore_n hx hb hd rfl hl hi rfl kk)
  · simp only [okA, beq_iff_eq] at hokA
    subst hokA
    exact s_stI h k (fun x r H locs lsA hl hi kk => lv_istore hx hb hd hl hi rfl kk)
  · simp only [okA, beq_iff_eq] at hokA
    subst hokA
    exact s_stL h k (fun x r H locs lsA hl hi kk => lv_lstore_n hx hb hd rfl hl hi rfl kk)
  · simp only [okA, beq_iff_eq] at hokA
    subst hokA
    exact s_stL h k (fun x r H locs lsA hl hi kk => lv_lstore hx hb hd hl hi rfl kk)
  · simp only [okA, beq_iff_eq] at hokA
    subst hokA
    exact s_stA h k (fun x r H locs lsA hl hi kk => lv_astore_n hx hb hd rfl hl hi rfl kk) (fun r H locs lsA hl hi kk => lv_astore_nN hx hb hd rfl hl hi rfl kk)
  · simp only [okA, beq_iff_eq] at hokA
    subst hokA
    exact s_stA h k (fun x r H locs lsA hl hi kk => lv_astore hx hb hd hl hi rfl kk) (fun r H locs lsA hl hi kk => lv_astoreN hx hb hd hl hi rfl kk)
  · split at h
    · next x h1 h2 =>
      cases h
      simp only [okA, Bool.and_eq_true, beq_iff_eq, decide_eq_true_eq] at hokA
      obtain ⟨rfl, hv⟩ := hokA
      intro H locs lsA hP hD hS hL
      obtain ⟨kp, hkp⟩ := List.mem_iff_getElem?.mp (lvs_mem.mpr ⟨.int x, h1, rfl⟩ : ((_ : Nat), cnc q (Value.int x)) ∈ lvs q ls)
      exact lv_iinc hx hb hd (LH_has hL) hkp (by rw [hv]) (by rw [← hL.1]; exact len_of h1) rfl (fun ls2 h3 => k H locs ls2 hP hD hS (LH_st1 (v := .int (x + v)) hL.1 h2 h3))
    · cases h
  · split at h
    · cases h
      simp only [okA, beq_iff_eq] at hokA
      subst hokA
      intro H locs lsA hP hD hS hL
      exact lv_iadd hx hb hd (k H locs lsA hP hD hS hL)
    · cases h
  · split at h
    · cases h
      simp only [okA, beq_iff_eq] at hokA
      subst hokA
      intro H locs lsA hP hD hS hL
      exact lv_isub hx hb hd (k H locs lsA hP hD hS hL)
    · cases h
  · split at h
    · cases h
      simp only [okA, beq_iff_eq] at hokA
      subst hokA
      intro H locs lsA hP hD hS hL
      exact lv_imul hx hb hd (k H locs lsA hP hD hS hL)
    · cases h
  · split at h
    · cases h
      simp only [okA, beq_iff_eq] at hokA
      subst hokA
      intro H locs lsA hP hD hS hL
      exact lv_iand hx hb hd (k H locs lsA hP hD hS hL)
    · cases h
  · split at h
    · cases h
      simp only [okA, beq_iff_eq] at hokA
      subst hokA
      intro H locs lsA hP hD hS hL
      exact lv_idiv hx hb hd ho.1 (k H locs lsA hP hD hS hL)
    · cases h
  · split at h
    · cases h
      simp only [okA, beq_iff_eq] at hokA
      subst hokA
      intro H locs lsA hP hD hS hL
      exact lv_irem hx hb hd ho.1 (k H locs lsA hP hD hS hL)
    · cases h
  · split at h
    · cases h
      simp only [okA, beq_iff_eq] at hokA
      subst hokA
      intro H locs lsA hP hD hS hL
      exact lv_ineg hx hb hd (k H locs lsA hP hD hS hL)
    · cases h
  · split at h
    · cases h
      simp only [okA, beq_iff_eq] at hokA
      subst hokA
      intro H locs lsA hP hD hS hL
      exact lv_lmul hx hb hd (k H locs lsA hP hD hS hL)
    · cases h
  · split at h
    · cases h
      simp only [okA, beq_iff_eq] at hokA
      subst hokA
      intro H locs lsA hP hD hS hL
      exact lv_ldiv hx hb hd ho.1 (k H locs lsA hP hD hS hL)
    · cases h
  · split at h
    · cases h
      simp only [okA, beq_iff_eq] at hokA
      subst hokA
      intro H locs lsA hP hD hS hL
      exact W.lcmp hx hb hd (k H locs lsA hP hD hS hL)
    · cases h
  · split at h
    · cases h
      simp only [okA, beq_iff_eq] at hokA
      subst hokA
      intro H locs lsA hP hD hS hL
      exact lv_i2l hx hb hd rfl (k H locs lsA hP hD hS hL)
    · cases h
  · split at h
    · cases h
      simp only [okA, beq_iff_eq] at hokA
      subst hokA
      intro H locs lsA hP hD hS hL
      exact lv_l2i hx hb hd rfl (k H locs lsA hP hD hS hL)
    · cases h
  · split at h
    · cases h
      simp only [okA, beq_iff_eq] at hokA
      subst hokA
      intro H locs lsA hP hD hS hL
      exact lv_i2b hx hb hd rfl (k H locs lsA hP hD hS hL)
    · cases h
  · split at h
    · cases h
      simp only [okA, beq_iff_eq] at hokA
      subst hokA
      intro H locs lsA hP hD hS hL
      exact lv_i2s hx hb hd rfl (k H locs lsA hP hD hS hL)
    · cases h
  · split at h
    · cases h
      simp only [okA, beq_iff_eq] at hokA
      subst hokA
      intro H locs lsA hP hD hS hL
      exact lv_dup hx hb hd rfl (k H locs lsA hP hD hS hL)
    · cases h
      simp only [okA, beq_iff_eq] at hokA
      subst hokA
      intro H locs lsA hP hD hS hL
      exact lv_dup hx hb hd rfl (k H locs lsA hP hD hS hL)
    · cases h
  · split at h
    · cases h
      simp only [okA, beq_iff_eq] at hokA
      subst hokA
      intro H locs lsA hP hD hS hL
      exact lv_dup2_11 hx hb hd rfl rfl (k H locs lsA hP hD hS hL)
    · cases h
  · split at h
    · cases h
      simp only [okA, beq_iff_eq] at hokA
      subst hokA
      intro H locs lsA hP hD hS hL
      exact lv_pop hx hb hd rfl (k H locs lsA hP hD hS hL)
    · cases h
  · cases h
    simp only [okA, Bool.and_eq_true, beq_iff_eq, decide_eq_true_eq] at hokA
    obtain ⟨rfl, hv⟩ := hokA
    intro H locs lsA hP hD hS hL
    exact lv_goto hx hb hd hv (k H locs lsA hP hD hS hL)
  · split at h
    · cases h
      simp only [okA, Bool.and_eq_true, beq_iff_eq] at hokA
      obtain ⟨rfl, hv⟩ := hokA
      exact V_get hC' hd hv ho.1 k
    · cases h
  · split at h
    · split at h
      · next h100 =>
        cases h
        simp only [okA, okP, h100, Bool.and_eq_true, beq_iff_eq] at hokA
        obtain ⟨rfl, hF, hI, hfin⟩ := hokA
        obtain ⟨h7, hj, -⟩ := okF_spec hF
        exact V_put hC' hd hF ho.1 (ty := .int) (by rw [hI]; exact d_I) rfl rfl hfin (by rw [rf_ok _ h7 _ hj, hI]; rfl) k
      · next h100 =>
        cases h
        simp only [okA, okP, h100, Bool.and_eq_true, beq_iff_eq] at hokA
        obtain ⟨rfl, hF, hI, hfin⟩ := hokA
        obtain ⟨h7, hj, -⟩ := okF_spec hF
        exact V_put hC' hd hF ho.1 (ty := .boolean) (by rw [hI]; exact d_Z) (isb_nar ho.2.1).1 (isb_nar ho.2.1).2 hfin (by rw [rf_ok _ h7 _ hj, hI]; rfl) k
    · cases h
  · split at h
    · next kk r =>
      cases h
      simp only [okA, Bool.and_eq_true, beq_iff_eq, Bool.or_eq_true] at hokA
      obtain ⟨rfl, hv⟩ := hokA
      intro H locs lsA hP hD hS hL
      have hk := ho.1
      rcases hv with ((rfl | rfl) | rfl) | rfl
      · have he : (wG q cA σ)[kk]? = some (q kk, .inl (cA 0, alen kk, .inl (σ.1 kk))) := by rw [wG_at (kd_lt (by omega)), cellG_I hk]
        exact va_alen hx hb hK.1 hP kk 0 he rfl rfl hd (k H locs lsA hP hD hS hL)
      · have he : (wG q cA σ)[kk]? = some (q kk, .inl (cA 1, alen kk, .inl (σ.1 kk))) := by rw [wG_at (kd_lt (by omega)), cellG_Z hk]
        exact va_alen hx hb hK.1 hP kk 1 he rfl rfl hd (k H locs lsA hP hD hS hL)
      · have he : (wG q cA σ)[kk]? = some (q kk, .inl (cA 2, alen kk, .inr (.inl (σ.2 kk)))) := by rw [wG_at (kd_lt (by omega)), cellG_J hk]
        exact va_alen hx hb hK.1 hP kk 2 he rfl rfl hd (k H locs lsA hP hD hS hL)
      · have ha : alen kk = 8 := kd_all (P := fun k => kd k = 13 → alen k = 8) (by decide +kernel) hk (by omega) hk
        exact va_alen hx hb hK.1 hP kk 3 ((wG_at (kd_lt (by omega))).trans (by rw [cellG_S hk])) rfl (by rw [ha]) hd (k H locs lsA hP hD hS hL)
    · cases h
  · split at h
    · next i kk r =>
      cases h
      simp only [okA, beq_iff_eq] at hokA
      subst hokA
      intro H locs lsA hP hD hS hL
      exact va_iald hx hb hK.1 hP kk 0 ((wG_at (kd_lt (by have := ho.1; omega))).trans (by rw [cellG_I ho.1])) rfl (inb_in ho.2.1) hd (k H locs lsA hP hD hS hL)
    · cases h
  · split at h
    · next i kk r =>
      cases h
      simp only [okA, beq_iff_eq] at hokA
      subst hokA
      intro H locs lsA hP hD hS hL
      exact va_zald hx hb hK.1 hP kk 1 ((wG_at (kd_lt (by have := ho.1; omega))).trans (by rw [cellG_Z ho.1])) rfl (inb_in ho.2.1) hd (k H locs lsA hP hD hS hL)
    · cases h
  · split at h
    · next i kk r =>
      cases h
      simp only [okA, beq_iff_eq] at hokA
      subst hokA
      intro H locs lsA hP hD hS hL
      exact va_lald hx hb hK.1 hP kk 2 ((wG_at (kd_lt (by have := ho.1; omega))).trans (by rw [cellG_J ho.1])) rfl (inb_in ho.2.1) hd (k H locs lsA hP hD hS hL)
    · cases h
  · split at h
    · next i kk r =>
      cases h
      simp only [okA, beq_iff_eq] at hokA
      subst hokA
      intro H locs lsA hP hD hS hL
      have he : (wG q cA σ)[kk]? = some (q kk, .inl (cA 3, 8, .inr (.inr (.inr (.inr fun j => some (q (20 + 2 * j))))))) := by rw [wG_at (kd_lt (by have := ho.1; omega)), cellG_S ho.1]
      exact va_aldq hx hb hK.1 hP kk 3 he rfl (inb_in ho.2.1) hd (k H locs lsA hP hD hS hL)
    · cases h
  · split at h
    · next x i kk r =>
      cases h
      simp only [okA, beq_iff_eq] at hokA
      subst hokA
      intro H locs lsA hP hD hS hL
      have h68 : kk < 68 := kd_lt (by have := ho.1; omega)
      refine va_iast hx hb hK.1 hP hD hS kk 0 ((wG_at h68).trans (by rw [cellG_I ho.1])) rfl (inb_in ho.2.1) hd (fun H1 locs1 hP1 hD1 hS1 => ?_)
      rw [wG_set h68 (by rw [cellG_I ho.1, setI_upd]) setI_off] at hP1 hD1
      exact k H1 locs1 lsA hP1 hD1 hS1 hL
    · cases h
  · split at h
    · next x i kk r =>
      cases h
      simp only [okA, beq_iff_eq] at hokA
      subst hokA
      intro H locs lsA hP hD hS hL
      have h68 : kk < 68 := kd_lt (by have := ho.1; omega)
      refine va_zast hx hb hK.1 hP hD hS kk 1 ((wG_at h68).trans (by rw [cellG_Z ho.1])) rfl (inb_in ho.2.1) hd (fun H1 locs1 hP1 hD1 hS1 => ?_)
      rw [isb_nar2 ho.2.2.1] at hP1 hD1
      rw [wG_set h68 (by rw [cellG_Z ho.1, setI_upd]) setI_off] at hP1 hD1
      exact k H1 locs1 lsA hP1 hD1 hS1 hL
    · cases h
  · split at h
    · next x i kk r =>
      cases h
      simp only [okA, beq_iff_eq] at hokA
      subst hokA
      intro H locs lsA hP hD hS hL
      have h68 : kk < 68 := kd_lt (by have := ho.1; omega)
      refine va_last hx hb hK.1 hP hD hS kk 2 ((wG_at h68).trans (by rw [cellG_J ho.1])) rfl (inb_in ho.2.1) hd (fun H1 locs1 hP1 hD1 hS1 => ?_)
      rw [wG_set h68 (by rw [cellG_J ho.1, setL_upd]) setL_off] at hP1 hD1
      exact k H1 locs1 lsA hP1 hD1 hS1 hL
    · cases h
  · cases h
theorem V_run (hC : CT p s m args c D cA A nL ow cc) : ∀ (bl : List IT) (pc pc2 : Nat) (ls : List (Option Value)) (st : List Value) (σ : ST) (o : List Prop) (ls' : List (Option Value)) (st' : List Value) (σ' : ST), decBs ow cc pc bl pc2 = true → abl bl ls st σ = some (o, ls', st', σ') → conj o →
    VV p l e R s m args below meth c cells slots Q D q cA A nL pc2 ls' st' σ' → VV p l e R s m args below meth c cells slots Q D q cA A nL pc ls st σ := by
  intro bl
  induction bl with
  | nil =>
    intro pc pc2 ls st σ o ls' st' σ' hd h ho k
    cases h
    simp only [decBs, beq_iff_eq] at hd
    subst hd
    exact k
  | cons it r ih =>
    intro pc pc2 ls st σ o ls' st' σ' hd h ho k
    simp only [decBs, Bool.and_eq_true] at hd
    simp only [abl] at h
    split at h
    · cases h
    · next o1 ls1 st1 σ1 h1 =>
      split at h
      · cases h
      · next o2 ls2 st2 σ2 h2 =>
        cases h
        obtain ⟨ho1, ho2⟩ := conj_app ho
        exact V_step hC hd.1 h1 ho1 (ih _ _ _ _ _ _ _ _ _ hd.2 h2 ho2 k)
end STEP
end
section
/-! THE RULES: what a method's walk may use, told of a predicate V alone; a method's contract KM. -/
def QK (D : va_G) (q : Nat → Nat) (cA : Nat → ClassId) (A : Nat → Prop) (v : Option Value) (τ : ST) : Array Value → State → Outcome → State → Prop := fun _ st oc t => (oc = .returned (v.map (cnc q)) ∧ va_P D cl7 (wG q cA τ) t.heap) ∧ va_F A st t
def PK (D : va_G) (q : Nat → Nat) (cA : Nat → ClassId) (sz : Nat) (as : List Value) (σ : ST) : Array Value → State → Prop := va_Pc (as.map (cnc q)) (fun U => U.heap.size = sz ∧ va_P D cl7 (wG q cA σ) U.heap ∧ KK D cA U ∧ va_D (fun _ => True) (wG q cA σ))
/-- a method's contract: at these arguments and this heap it answers v and leaves the heap τ; it makes no cell -/
def KM (l : Launch) (y : MethodName) (cc : ByteArray) (mL : Nat) (ret : Option FieldType) (fr lo : Nat) (as : List Value) (σ : ST) (v : Option Value) (τ : ST) : Prop :=
  ∀ (D : va_G) (q : Nat → Nat) (cA : Nat → ClassId) (sz : Nat), Met l y (.code y cc mL ret :: AW) { frames := fr, cells := 0, slots := 0, locals := lo } (PK D q cA sz as σ) (QK D q cA (va_A (wG q cA σ) sz) v τ) 0 0 (va_A (wG q cA σ) sz)
def BD (l : Launch) (ow : Nat) (cc : ByteArray) (nL fr lo : Nat) (V : Nat → List (Option Value) → List Value → ST → Prop) : Prop :=
  ∃ (p : Program) (e : Env) (R : Room) (s : State) (m : MethodId) (args : Array Value) (below : List Frame) (meth : Method) (c : Code) (cells slots : Nat) (Q : State → Prop) (D : va_G) (q : Nat → Nat) (cA : Nat → ClassId) (A : Nat → Prop),
    CT p s m args c D cA A nL ow cc ∧ R.frames = fr ∧ R.locals = lo ∧ cells ≤ R.cells ∧ slots ≤ R.slots ∧ V = VV p l e R s m args below meth c cells slots Q D q cA A nL
def BM (l : Launch) (ow : Nat) (cc : ByteArray) (nL : Nat) (ret : Option FieldType) (fr lo : Nat) (v : Option Value) (τ : ST) (V : Nat → List (Option Value) → List Value → ST → Prop) : Prop :=
  ∃ (p : Program) (e : Env) (R : Room) (s : State) (m : MethodId) (args : Array Value) (below : List Frame) (meth : Method) (c : Code) (D : va_G) (q : Nat → Nat) (cA : Nat → ClassId) (A : Nat → Prop),
    CT p s m args c D cA A nL ow cc ∧ R.frames = fr ∧ R.locals = lo ∧ meth.sig.returnType = ret ∧ meth.locks = false ∧ V = VV p l e R s m args below meth c 0 0 (MQ below (QK D q cA A v τ) args s 0 0 A) D q cA A nL
theorem BM.bd {l : Launch} {ow : Nat} {cc : ByteArray} {nL : Nat} {ret : Option FieldType} {fr lo : Nat} {v : Option Value} {τ : ST} {V : Nat → List (Option Value) → List Value → ST → Prop} (h : BM l ow cc nL ret fr lo v τ V) : BD l ow cc nL fr lo V := by
  obtain ⟨p, e, R, s, m, args, below, meth, c, D, q, cA, A, hC, hf, hl, -, -, hV⟩ := h
  exact ⟨p, e, R, s, m, args, below, meth, c, 0, 0, _, D, q, cA, A, hC, hf, hl, Nat.zero_le _, Nat.zero_le _, hV⟩
section RULES
variable {l : Launch} {ow nL fr lo pc : Nat} {cc : ByteArray} {V : Nat → List (Option Value) → List Value → ST → Prop} {ls ls' : List (Option Value)} {st st' : List Value} {σ σ' τ : ST} {o : List Prop}
theorem BD.run (h : BD l ow cc nL fr lo V) (bl : List IT) {pc2 : Nat} (hd : decBs ow cc pc bl pc2 = true) (he : abl bl ls st σ = some (o, ls', st', σ')) (ho : conj o) (k : V pc2 ls' st' σ') : V pc ls st σ := by
  obtain ⟨p, e, R, s, m, args, below, meth, c, cells, slots, Q, D, q, cA, A, hC, -, -, -, -, rfl⟩ := h
  exact V_run hC bl pc pc2 ls st σ o ls' st' σ' hd he ho k
theorem BD.if_eq (h : BD l ow cc nL fr lo V) {x : Int32} {off : Int} {tgt : Nat} (hd : decode cc pc = .ok (.ifCond .eq off, 3)) (ht : (pc : Int) + off = (tgt : Int)) (kt : x = 0 → V tgt ls st σ) (kf : ¬ x = 0 → V (pc + 3) ls st σ) : V pc ls (.int x :: st) σ := by
  obtain ⟨p, e, R, s, m, args, below, meth, c, cells, slots, Q, D, q, cA, A, ⟨hx, hb, -⟩, -, -, -, -, rfl⟩ := h
  intro H locs lsA hP hD hS hL
  exact lv_if_eq hx hb hd ht (fun z => kt z H locs lsA hP hD hS hL) (fun z => kf z H locs lsA hP hD hS hL)
theorem BD.icmp_eq (h : BD l ow cc nL fr lo V) {x y : Int32} {off : Int} {tgt : Nat} (hd : decode cc pc = .ok (.if_icmp .eq off, 3)) (ht : (pc : Int) + off = (tgt : Int)) (kt : x = y → V tgt ls st σ) (kf : ¬ x = y → V (pc + 3) ls st σ) : V pc ls (.int y :: .int x :: st) σ := by
  obtain ⟨p, e, R, s, m, args, below, meth, c, cells, slots, Q, D, q, cA, A, ⟨hx, hb, -⟩, -, -, -, -, rfl⟩ := h
  intro H locs lsA hP hD hS hL
  exact lv_icmp_eq hx hb hd ht (fun z => kt z H locs lsA hP hD hS hL) (fun z => kf z H locs lsA hP hD hS hL)
theorem BD.if_ne (h : BD l ow cc nL fr lo V) {x : Int32} {off : Int} {tgt : Nat} (hd : decode cc pc = .ok (.ifCond .ne off, 3)) (ht : (pc : Int) + off = (tgt : Int)) (kt : ¬ x = 0 → V tgt ls st σ) (kf : x = 0 → V (pc + 3) ls st σ) : V pc ls (.int x :: st) σ := by
  obtain ⟨p, e, R, s, m, args, below, meth, c, cells, slots, Q, D, q, cA, A, ⟨hx, hb, -⟩, -, -, -, -, rfl⟩ := h
  intro H locs lsA hP hD hS hL
  exact lv_if_ne hx hb hd ht (fun z => kt z H locs lsA hP hD hS hL) (fun z => kf z H locs lsA hP hD hS hL)
theorem BD.icmp_ne (h : BD l ow cc nL fr lo V) {x y : Int32} {off : Int} {tgt : Nat} (hd : decode cc pc = .ok (.if_icmp .ne off, 3)) (ht : (pc : Int) + off = (tgt : Int)) (kt : ¬ x = y → V tgt ls st σ) (kf : x = y → V (pc + 3) ls st σ) : V pc ls (.int y :: .int x :: st) σ := by
  obtain ⟨p, e, R, s, m, args, below, meth, c, cells, slots, Q, D, q, cA, A, ⟨hx, hb, -⟩, -, -, -, -, rfl⟩ := h
  intro H locs lsA hP hD hS hL
  exact lv_icmp_ne hx hb hd ht (fun z => kt z H locs lsA hP hD hS hL) (fun z => kf z H locs lsA hP hD hS hL)
theorem BD.if_lt (h : BD l ow cc nL fr lo V) {x : Int32} {off : Int} {tgt : Nat} (hd : decode cc pc = .ok (.ifCond .lt off, 3)) (ht : (pc : Int) + off = (tgt : Int)) (kt : x < 0 → V tgt ls st σ) (kf : ¬ x < 0 → V (pc + 3) ls st σ) : V pc ls (.int x :: st) σ := by
  obtain ⟨p, e, R, s, m, args, below, meth, c, cells, slots, Q, D, q, cA, A, ⟨hx, hb, -⟩, -, -, -, -, rfl⟩ := h
  intro H locs lsA hP hD hS hL
  exact lv_if_lt hx hb hd ht (fun z => kt z H locs lsA hP hD hS hL) (fun z => kf z H locs lsA hP hD hS hL)
theorem BD.icmp_lt (h : BD l ow cc nL fr lo V) {x y : Int32} {off : Int} {tgt : Nat} (hd : decode cc pc = .ok (.if_icmp .lt off, 3)) (ht : (pc : Int) + off = (tgt : Int)) (kt : x < y → V tgt ls st σ) (kf : ¬ x < y → V (pc + 3) ls st σ) : V pc ls (.int y :: .int x :: st) σ := by
  obtain ⟨p, e, R, s, m, args, below, meth, c, cells, slots, Q, D, q, cA, A, ⟨hx, hb, -⟩, -, -, -, -, rfl⟩ := h
  intro H locs lsA hP hD hS hL
  exact lv_icmp_lt hx hb hd ht (fun z => kt z H locs lsA hP hD hS hL) (fun z => kf z H locs lsA hP hD hS hL)
theorem BD.if_ge (h : BD l ow cc nL fr lo V) {x : Int32} {off : Int} {tgt : Nat} (hd : decode cc pc = .ok (.ifCond .ge off, 3)) (ht : (pc : Int) + off = (tgt : Int)) (kt : 0 ≤ x → V tgt ls st σ) (kf : ¬ 0 ≤ x → V (pc + 3) ls st σ) : V pc ls (.int x :: st) σ := by
  obtain ⟨p, e, R, s, m, args, below, meth, c, cells, slots, Q, D, q, cA, A, ⟨hx, hb, -⟩, -, -, -, -, rfl⟩ := h
  intro H locs lsA hP hD hS hL
  exact lv_if_ge hx hb hd ht (fun z => kt z H locs lsA hP hD hS hL) (fun z => kf z H locs lsA hP hD hS hL)
theorem BD.icmp_ge (h : BD l ow cc nL fr lo V) {x y : Int32} {off : Int} {tgt : Nat} (hd : decode cc pc = .ok (.if_icmp .ge off, 3)) (ht : (pc : Int) + off = (tgt : Int)) (kt : y ≤ x → V tgt ls st σ) (kf : ¬ y ≤ x → V (pc + 3) ls st σ) : V pc ls (.int y :: .int x :: st) σ := by
  obtain ⟨p, e, R, s, m, args, below, meth, c, cells, slots, Q, D, q, cA, A, ⟨hx, hb, -⟩, -, -, -, -, rfl⟩ := h
  intro H locs lsA hP hD hS hL
  exact lv_icmp_ge hx hb hd ht (fun z => kt z H locs lsA hP hD hS hL) (fun z => kf z H locs lsA hP hD hS hL)
theorem BD.if_gt (h : BD l ow cc nL fr lo V) {x : Int32} {off : Int} {tgt : Nat} (hd : decode cc pc = .ok (.ifCond .gt off, 3)) (ht : (pc : Int) + off = (tgt : Int)) (kt : 0 < x → V tgt ls st σ) (kf : ¬ 0 < x → V (pc + 3) ls st σ) : V pc ls (.int x :: st) σ := by
  obtain ⟨p, e, R, s, m, args, below, meth, c, cells, slots, Q, D, q, cA, A, ⟨hx, hb, -⟩, -, -, -, -, rfl⟩ := h
  intro H locs lsA hP hD hS hL
  exact lv_if_gt hx hb hd ht (fun z => kt z H locs lsA hP hD hS hL) (fun z => kf z H locs lsA hP hD hS hL)
theorem BD.icmp_gt (h : BD l ow cc nL fr lo V) {x y : Int32} {off : Int} {tgt : Nat} (hd : decode cc pc = .ok (.if_icmp .gt off, 3)) (ht : (pc : Int) + off = (tgt : Int)) (kt : y < x → V tgt ls st σ) (kf : ¬ y < x → V (pc + 3) ls st σ) : V pc ls (.int y :: .int x :: st) σ := by
  obtain ⟨p, e, R, s, m, args, below, meth, c, cells, slots, Q, D, q, cA, A, ⟨hx, hb, -⟩, -, -, -, -, rfl⟩ := h
  intro H locs lsA hP hD hS hL
  exact lv_icmp_gt hx hb hd ht (fun z => kt z H locs lsA hP hD hS hL) (fun z => kf z H locs lsA hP hD hS hL)
theorem BD.if_le (h : BD l ow cc nL fr lo V) {x : Int32} {off : Int} {tgt : Nat} (hd : decode cc pc = .ok (.ifCond .le off, 3)) (ht : (pc : Int) + off = (tgt : Int)) (kt : x ≤ 0 → V tgt ls st σ) (kf : ¬ x ≤ 0 → V (pc + 3) ls st σ) : V pc ls (.int x :: st) σ := by
  obtain ⟨p, e, R, s, m, args, below, meth, c, cells, slots, Q, D, q, cA, A, ⟨hx, hb, -⟩, -, -, -, -, rfl⟩ := h
  intro H locs lsA hP hD hS hL
  exact lv_if_le hx hb hd ht (fun z => kt z H locs lsA hP hD hS hL) (fun z => kf z H locs lsA hP hD hS hL)
theorem BD.icmp_le (h : BD l ow cc nL fr lo V) {x y : Int32} {off : Int} {tgt : Nat} (hd : decode cc pc = .ok (.if_icmp .le off, 3)) (ht : (pc : Int) + off = (tgt : Int)) (kt : x ≤ y → V tgt ls st σ) (kf : ¬ x ≤ y → V (pc + 3) ls st σ) : V pc ls (.int y :: .int x :: st) σ := by
  obtain ⟨p, e, R, s, m, args, below, meth, c, cells, slots, Q, D, q, cA, A, ⟨hx, hb, -⟩, -, -, -, -, rfl⟩ := h
  intro H locs lsA hP hD hS hL
  exact lv_icmp_le hx hb hd ht (fun z => kt z H locs lsA hP hD hS hL) (fun z => kf z H locs lsA hP hD hS hL)
theorem BD.ifnull (h : BD l ow cc nL fr lo V) {x : Nat} {off : Int} (hd : decode cc pc = .ok (.ifnull off, 3)) (k : V (pc + 3) ls st σ) : V pc ls (.ref x :: st) σ := by
  obtain ⟨p, e, R, s, m, args, below, meth, c, cells, slots, Q, D, q, cA, A, ⟨hx, hb, -⟩, -, -, -, -, rfl⟩ := h
  intro H locs lsA hP hD hS hL
  exact lv_ifnull hx hb hd (k H locs lsA hP hD hS hL)
theorem BD.ifnullN (h : BD l ow cc nL fr lo V) {off : Int} {tgt : Nat} (hd : decode cc pc = .ok (.ifnull off, 3)) (ht : (pc : Int) + off = (tgt : Int)) (k : V tgt ls st σ) : V pc ls (.null :: st) σ := by
  obtain ⟨p, e, R, s, m, args, below, meth, c, cells, slots, Q, D, q, cA, A, ⟨hx, hb, -⟩, -, -, -, -, rfl⟩ := h
  intro H locs lsA hP hD hS hL
  exact lv_ifnullN hx hb hd ht (k H locs lsA hP hD hS hL)
theorem BD.ifnonnull (h : BD l ow cc nL fr lo V) {x : Nat} {off : Int} {tgt : Nat} (hd : decode cc pc = .ok (.ifnonnull off, 3)) (ht : (pc : Int) + off = (tgt : Int)) (k : V tgt ls st σ) : V pc ls (.ref x :: st) σ := by
  obtain ⟨p, e, R, s, m, args, below, meth, c, cells, slots, Q, D, q, cA, A, ⟨hx, hb, -⟩, -, -, -, -, rfl⟩ := h
  intro H locs lsA hP hD hS hL
  exact lv_ifnonnull hx hb hd ht (k H locs lsA hP hD hS hL)
theorem BD.ifnonnullN (h : BD l ow cc nL fr lo V) {off : Int} (hd : decode cc pc = .ok (.ifnonnull off, 3)) (k : V (pc + 3) ls st σ) : V pc ls (.null :: st) σ := by
  obtain ⟨p, e, R, s, m, args, below, meth, c, cells, slots, Q, D, q, cA, A, ⟨hx, hb, -⟩, -, -, -, -, rfl⟩ := h
  intro H locs lsA hP hD hS hL
  exact lv_ifnonnullN hx hb hd (k H locs lsA hP hD hS hL)
theorem BD.tableIn (h : BD l ow cc nL fr lo V) {dflt lw hi : Int} {offs : Array Int} {len : Nat} {x : Int32} {off : Int} {tgt : Nat} (hd : decode cc pc = .ok (.tableswitch dflt lw hi offs, len)) (h1 : ¬ x.toInt < lw) (h2 : ¬ hi < x.toInt) (ho : offs[(x.toInt - lw).toNat]? = some off) (ht : (pc : Int) + off = (tgt : Int)) (k : V tgt ls st σ) : V pc ls (.int x :: st) σ := by
  obtain ⟨p, e, R, s, m, args, below, meth, c, cells, slots, Q, D, q, cA, A, ⟨hx, hb, -⟩, -, -, -, -, rfl⟩ := h
  intro H locs lsA hP hD hS hL
  exact lv_tableIn hx hb hd h1 h2 ho ht (k H locs lsA hP hD hS hL)
theorem BD.tableOut (h : BD l ow cc nL fr lo V) {dflt lw hi : Int} {offs : Array Int} {len : Nat} {x : Int32} {tgt : Nat} (hd : decode cc pc = .ok (.tableswitch dflt lw hi offs, len)) (h1 : x.toInt < lw ∨ hi < x.toInt) (ht : (pc : Int) + dflt = (tgt : Int)) (k : V tgt ls st σ) : V pc ls (.int x :: st) σ := by
  obtain ⟨p, e, R, s, m, args, below, meth, c, cells, slots, Q, D, q, cA, A, ⟨hx, hb, -⟩, -, -, -, -, rfl⟩ := h
  intro H locs lsA hP hD hS hL
  exact lv_tableOut hx hb hd h1 ht (k H locs lsA hP hD hS hL)
theorem BD.lookup (h : BD l ow cc nL fr lo V) {dflt : Int} {ps : Array (Int × Int)} {len : Nat} {x : Int32} {off : Int} {tgt : Nat} (hd : decode cc pc = .ok (.lookupswitch dflt ps, len)) (hp : (ps.toList.zip (ps.toList.drop 1)).all (fun (a, next) => a.1 < next.1) = true) (ho : Op.lookupswitch.offset ps.toList dflt x.toInt = off) (ht : (pc : Int) + off = (tgt : Int)) (k : V tgt ls st σ) : V pc ls (.int x :: st) σ := by
  obtain ⟨p, e, R, s, m, args, below, meth, c, cells, slots, Q, D, q, cA, A, ⟨hx, hb, -⟩, -, -, -, -, rfl⟩ := h
  intro H locs lsA hP hD hS hL
  exact lv_lookup hx hb hd hp ho ht (k H locs lsA hP hD hS hL)
theorem rest_cat {q : Nat → Nat} {r : List Value} : ((r.map (cnc q)).map fun v => v.category).sum = (r.map fun v => v.category).sum := by
  rw [List.map_map]
  congr 1
  apply List.map_congr_left
  intro v _
  exact cnc_cat q v
theorem wG_D {A : Nat → Prop} {q : Nat → Nat} {cA : Nat → ClassId} {σ τ : ST} (h : va_D A (wG q cA σ)) : va_D A (wG q cA τ) := by
  have hk : ∀ (ρ : ST) (k : Nat) (p : Nat × va_E), (wG q cA ρ)[k]? = some p → k < 68 ∧ p.1 = q k := by
    intro ρ k p hp
    have h68 : k < 68 := by
      have := (List.getElem?_eq_some_iff.mp hp).1
      simpa [wG] using this
    rw [wG_at h68] at hp
    cases hp
    exact ⟨h68, rfl⟩
  refine ⟨fun i j p r hi hj hpr => ?_, fun k p hp => ?_⟩
  · obtain ⟨h1, h2⟩ := hk τ i p hi
    obtain ⟨h3, h4⟩ := hk τ j r hj
    exact h.1 i j _ _ (wG_at h1) (wG_at h3) (by rw [h2, h4] at hpr; exact hpr)
  · obtain ⟨h1, h2⟩ := hk τ k p hp
    rw [h2]
    exact h.2 k _ (wG_at h1)
theorem PK_blind (D : va_G) (q : Nat → Nat) (cA : Nat → ClassId) (sz : Nat) (as : List Value) (σ : ST) : FrameBlind (PK D q cA sz as σ) := by
  intro a U g mk h
  obtain ⟨h0, h1, h2, h3, h4⟩ := h
  exact ⟨h0, h1, h2, ⟨va_K.moved (u := U) (U := U.calling g mk a) (Vm.Alike.refl U.vm) h3.1, fun w hw => va_Nw.same (u := U) (U := U.calling g mk a) (nw_onTables hw) rfl (h3.2 w hw)⟩, h4⟩
/-- the words of an instance method that is called -/
def CW (ci : Nat) (y : MethodName) (yc : ByteArray) (mL : Nat) (ret : Option FieldType) (n : Nat) : Prop :=
  ci < 7 ∧ y.cls = RN ci ∧ Jvm.Cond.instanceMethod y ∈ AW ∧ Jvm.Cond.selects (RN ci) y y ∈ AW ∧ Jvm.Cond.initialized (RN ci) ∈ AW ∧ Jvm.Cond.code y yc mL ret ∈ AW ∧ (y.cls ≠ "java/lang/invoke/MethodHandle" ∧ y.cls ≠ "java/lang/invoke/VarHandle") ∧ (parseMethodDescriptor y.desc).map (fun d => d.parameters.length) = some n
def CS (y : MethodName) (yc : ByteArray) (mL : Nat) (ret : Option FieldType) (n : Nat) : Prop :=
  Jvm.Cond.static y ∈ AW ∧ Jvm.Cond.initialized y.cls ∈ AW ∧ Jvm.Cond.code y yc mL ret ∈ AW ∧ (y.cls ≠ "java/lang/invoke/MethodHandle" ∧ y.cls ≠ "java/lang/invoke/VarHandle") ∧ (parseMethodDescriptor y.desc).map (fun d => d.parameters.length) = some n
def LK (ow idx : Nat) (y : MethodName) : Prop := Jvm.Cond.methodLink (RN ow) idx y ∈ AW ∨ Jvm.Cond.methodLinkNest (RN ow) idx y "ThreeTimes" ∈ NW
theorem par_len {y : MethodName} {n : Nat} (h : (parseMethodDescriptor y.desc).map (fun d => d.parameters.length) = some n) : ∀ sig, parseMethodDescriptor y.desc = some sig → n = sig.parameters.length := by
  intro sig hs
  rw [hs] at h
  simpa using h.symm
theorem ws_warm {s : State} {args : Array Value} {w0 : Jvm.Cond} (hts : ∀ w ∈ AW, w.before args s = true) (h0 : w0 ∈ AW) : ∀ w ∈ w0 :: AW, ∀ (a' : Array Value) (U : State), s.WarmedH U.vm → w.before a' U = true := by
  intro w hw a' U hW
  have hw2 : w ∈ AW := by
    rcases List.mem_cons.mp hw with rfl | h
    · exact h0
    · exact h
  exact word_at hW (good_of_word (aw_good hw2)) (hts w hw2)
section CG
variable {p : Program} {e : Env} {R : Room} {s : State} {m : MethodId} {args : Array Value} {below : List Frame} {meth : Method} {c : Code} {cells slots : Nat} {Q : State → Prop} {D : va_G} {q : Nat → Nat} {cA : Nat → ClassId} {A A1 : Nat → Prop} {H : Heap} {locs : List Loc} {lsA : Array Slot} {st0 rest : List Value} {a : Array Value} {free : Addr → Prop} {v : Option Value}
theorem va_callG (hr : va_Run p l e R s m args below meth c H locs cells slots 0 0 (F0 m pc lsA st0) rest (QK D q cA A1 v τ a) free) (hS : va_S A s.heap H locs) (hA : ∀ q, q < H.size → A1 q → A q) (hf : ∀ q, free q → A q)
    (kk : ∀ (H1 : Heap) (locs1 : List Loc), va_P D cl7 (wG q cA τ) H1 → va_S A s.heap H1 locs1 → W p l e R s m args below meth c H1 locs1 cells slots Q (F0 m (pc + 3) lsA ((v.map (cnc q)).toList ++ rest))) : W p l e R s m args below meth c H locs cells slots Q (F0 m pc lsA st0) := by
  intro T hT X
  obtain ⟨v', st₀, t, T', L, h0, X', hL, e1, e2, ⟨⟨hv, hb⟩, hz, hk⟩, st⟩ := hr T hT X
  cases hv
  rw [h0] at hz hk
  obtain ⟨t2, a1, b1⟩ := kk T'.heap (locs ++ L) (by rw [e1]; exact hb)
    ⟨Nat.le_trans hS.1 (by rw [e1]; exact hz), fun q h1 h2 => by rw [e1, hk q (Nat.lt_of_lt_of_le h1 hS.1) (fun z => h2 (hA q (Nat.lt_of_lt_of_le h1 hS.1) z))]; exact hS.2.1 q h1 h2, fun q hq => by
      rcases List.mem_append.mp hq with h | h
      · exact hS.2.2 q h
      · exact hf _ (hL q h)⟩ T' rfl X'
  exact ⟨t2, st t2 a1, b1⟩
theorem wG_free (hD : va_D A (wG q cA σ)) (hS : va_S A s.heap H locs) (hA : ∀ x, s.heap.size ≤ x → A x) : ∀ x, va_A (wG q cA σ) H.size x → A x := by
  rintro x (⟨k, e, hk⟩ | h)
  · exact hD.2 k _ hk
  · exact hA x (Nat.le_trans hS.1 h)
end CG
theorem BD.callV (h : BD l ow cc nL fr lo V) {idx ci k n mL fy ly : Nat} {y : MethodName} {yc : ByteArray} {ret : Option FieldType} {as rest : List Value} {v : Option Value} (hd : decode cc pc = .ok (.invokevirtual idx, 3)) (hlk : LK ow idx y) (hw : CW ci y yc mL ret n) (hk : kd k = ci)
    (hM : KM l y yc mL ret fy ly (.ref k :: as) σ v τ) (hn : as.length = n) (hfr : fy + 1 ≤ fr) (hlo : 8 + (mL + 11) + ly ≤ lo) (hrest : (rest.map fun v => v.category).sum ≤ 8) (kk : V (pc + 3) ls (v.toList ++ rest) τ) : V pc ls (as.reverse ++ .ref k :: rest) σ := by
  obtain ⟨p, e, R, s, m, args, below, meth, c, cells, slots, Q, D, q, cA, A, hC, rfl, rfl, hcs, hss, rfl⟩ := h
  obtain ⟨hx, hb, hml, hown, hts, hK, hA⟩ := hC
  obtain ⟨h7, hy, hinst, hsel, hini, hcode, hno, hpar⟩ := hw
  intro H locs lsA hP hD hS hL
  have h68 : k < 68 := kd_lt (by omega)
  have he : (wG q cA σ)[k]? = some (q k, .inr (ci, (List.range (NN ci)).map fun j => cnc q (fval ci k j σ))) := by rw [wG_at h68, cellG_obj hk h7]
  have hpre : PreV s H (RN ci) (q k) (PK D q cA H.size (.ref k :: as) σ) (as.map (cnc q)) :=
    ⟨PK_blind _ _ _ _ _ _, va_recv hK.1 hP (cl7_at ci h7) he, fun U hU hW => ⟨rfl, by rw [hU], by rw [hU]; exact hP, ⟨va_K.moved hW.alike hK.1, nw_warm hW hK.2⟩, hD.weaken (fun _ _ _ _ => trivial)⟩⟩
  have hstk : (as.reverse ++ .ref k :: rest).map (cnc q) = (as.map (cnc q)).reverse ++ .ref (q k) :: rest.map (cnc q) := by simp [cnc]
  have hcat : 2 * (F0 m pc lsA ((as.reverse ++ .ref k :: rest).map (cnc q))).monitorRoom + ((rest.map (cnc q)).map fun v => v.category).sum ≤ 8 := lv_room (by rw [rest_cat]; exact hrest)
  have hfree := wG_free hD hS hA
  have hfin : ∀ (H1 : Heap) (locs1 : List Loc), va_P D cl7 (wG q cA τ) H1 → va_S A s.heap H1 locs1 → W p l e R s m args below meth c H1 locs1 cells slots Q (F0 m (pc + 3) lsA ((v.map (cnc q)).toList ++ rest.map (cnc q))) := by
    intro H1 locs1 hP1 hS1
    have := kk H1 locs1 lsA hP1 (wG_D hD) hS1 hL
    cases v <;> simpa using this
  rcases hlk with hlk | hlk
  · refine va_callG (v := v) (τ := τ) (va_runV (As := as.map (cnc q)) (rest := rest.map (cnc q)) (own := RN ow) (C := RN ci) ⟨hx, hb, hml, hown, hts⟩ (hM D q cA H.size) ⟨⟨rfl, rfl, hfr, hlo, ws_warm hts hcode, List.mem_cons_self, hts _ hcode, by rw [hy]; exact hts _ hini, hno, par_len hpar, hts _ hlk⟩, hts _ hinst, hts _ hsel⟩ hpre rfl (by rw [List.length_map, hn]) hL.2.1 hstk hcat hd ⟨by omega, by omega⟩) hS (fun x _ hx => hfree x hx) hfree hfin
  · refine va_callG (v := v) (τ := τ) (va_runVN (As := as.map (cnc q)) (rest := rest.map (cnc q)) (own := RN ow) (C := RN ci) (host := "ThreeTimes") ⟨hx, hb, hml, hown, hts⟩ (hM D q cA H.size) ⟨⟨⟨rfl, rfl, hfr, hlo, ws_warm hts hcode, List.mem_cons_self⟩, hts _ hcode, by rw [hy]; exact hts _ hini, hno, par_len hpar, va_Nw.use (nw_onTables hlk) (hK.2 _ hlk)⟩, hts _ hinst, hts _ hsel⟩ hpre rfl (by rw [List.length_map, hn]) hL.2.1 hstk hcat hd ⟨by omega, by omega⟩) hS (fun x _ hx => hfree x hx) hfree hfin
theorem BD.callS (h : BD l ow cc nL fr lo V) {idx n mL fy ly : Nat} {y : MethodName} {yc : ByteArray} {ret : Option FieldType} {as rest : List Value} {v : Option Value} (hd : decode cc pc = .ok (.invokestatic idx, 3)) (hlk : Jvm.Cond.methodLink (RN ow) idx y ∈ AW) (hw : CS y yc mL ret n)
    (hM : KM l y yc mL ret fy ly as σ v τ) (hn : as.length = n) (hfr : fy + 1 ≤ fr) (hlo : 8 + (mL + 11) + ly ≤ lo) (hrest : (rest.map fun v => v.category).sum ≤ 8) (kk : V (pc + 3) ls (v.toList ++ rest) τ) : V pc ls (as.reverse ++ rest) σ := by
  obtain ⟨p, e, R, s, m, args, below, meth, c, cells, slots, Q, D, q, cA, A, hC, rfl, rfl, hcs, hss, rfl⟩ := h
  obtain ⟨hx, hb, hml, hown, hts, hK, hA⟩ := hC
  obtain ⟨hst, hini, hcode, hno, hpar⟩ := hw
  intro H locs lsA hP hD hS hL
  have hpre : PreS s H (PK D q cA H.size as σ) (as.map (cnc q)) :=
    ⟨PK_blind _ _ _ _ _ _, fun U hU hW => ⟨rfl, by rw [hU], by rw [hU]; exact hP, ⟨va_K.moved hW.alike hK.1, nw_warm hW hK.2⟩, hD.weaken (fun _ _ _ _ => trivial)⟩⟩
  have hstk : (as.reverse ++ rest).map (cnc q) = (as.map (cnc q)).reverse ++ rest.map (cnc q) := by simp
  have hcat : 2 * (F0 m pc lsA ((as.reverse ++ rest).map (cnc q))).monitorRoom + ((rest.map (cnc q)).map fun v => v.category).sum ≤ 8 := lv_room (by rw [rest_cat]; exact hrest)
  have hfree := wG_free hD hS hA
  have hfin : ∀ (H1 : Heap) (locs1 : List Loc), va_P D cl7 (wG q cA τ) H1 → va_S A s.heap H1 locs1 → W p l e R s m args below meth c H1 locs1 cells slots Q (F0 m (pc + 3) lsA ((v.map (cnc q)).toList ++ rest.map (cnc q))) := by
    intro H1 locs1 hP1 hS1
    have := kk H1 locs1 lsA hP1 (wG_D hD) hS1 hL
    cases v <;> simpa using this
  exact va_callG (v := v) (τ := τ) (va_runS (As := as.map (cnc q)) (rest := rest.map (cnc q)) (own := RN ow) ⟨hx, hb, hml, hown, hts⟩ (hM D q cA H.size) ⟨⟨rfl, rfl, hfr, hlo, ws_warm hts hcode, List.mem_cons_self, hts _ hcode, hts _ hini, hno, par_len hpar, hts _ hlk⟩, hts _ hst⟩ hpre rfl (by rw [List.length_map, hn]) hL.2.1 hstk hcat hd ⟨by omega, by omega⟩) hS (fun x _ hx => hfree x hx) hfree hfin
theorem BM.iret {x : Int32} (h : BM l ow cc nL (some .int) fr lo (some (.int x)) τ V) (hd : decode cc pc = .ok (.ireturn, 1)) : V pc ls [.int x] τ := by
  obtain ⟨p, e, R, s, m, args, below, meth, c, D, q, cA, A, ⟨hx, hb, -⟩, -, -, hr, hlocks, rfl⟩ := h
  intro H locs lsA hP hD hS hL
  exact W.iret hx hb hr (fun t ht hW => ⟨⟨rfl, by rw [ht]; exact hP⟩, hS.F ht⟩) hS.2.2 hd hlocks
theorem BM.zret {x : Int32} (h : BM l ow cc nL (some .boolean) fr lo (some (.int x)) τ V) (hd : decode cc pc = .ok (.ireturn, 1)) (hx01 : isb x = true) : V pc ls [.int x] τ := by
  obtain ⟨p, e, R, s, m, args, below, meth, c, D, q, cA, A, ⟨hx, hb, -⟩, -, -, hr, hlocks, rfl⟩ := h
  intro H locs lsA hP hD hS hL
  exact W.zret hx hb hr (isb_nar hx01).1 (fun t ht hW => ⟨⟨rfl, by rw [ht]; exact hP⟩, hS.F ht⟩) hS.2.2 hd hlocks
theorem BM.lret {x : Int64} (h : BM l ow cc nL (some .long) fr lo (some (.long x)) τ V) (hd : decode cc pc = .ok (.lreturn, 1)) : V pc ls [.long x] τ := by
  obtain ⟨p, e, R, s, m, args, below, meth, c, D, q, cA, A, ⟨hx, hb, -⟩, -, -, hr, hlocks, rfl⟩ := h
  intro H locs lsA hP hD hS hL
  exact W.lret hx hb hr (fun t ht hW => ⟨⟨rfl, by rw [ht]; exact hP⟩, hS.F ht⟩) hS.2.2 hd hlocks
theorem BM.vret (h : BM l ow cc nL none fr lo none τ V) (hd : decode cc pc = .ok (.return_, 1)) : V pc ls [] τ := by
  obtain ⟨p, e, R, s, m, args, below, meth, c, D, q, cA, A, ⟨hx, hb, -⟩, -, -, hr, hlocks, rfl⟩ := h
  intro H locs lsA hP hD hS hL
  exact W.vret hx hb hr (fun t ht hW => ⟨⟨rfl, by rw [ht]; exact hP⟩, hS.F ht⟩) hS.2.2 hd hlocks
theorem BM.aret {r : Option Nat} {C : String} (h : BM l ow cc nL (some (.object C)) fr lo (some (va_rf r)) τ V) (hd : decode cc pc = .ok (.areturn, 1)) : V pc ls [va_rf r] τ := by
  obtain ⟨p, e, R, s, m, args, below, meth, c, D, q, cA, A, ⟨hx, hb, -⟩, -, -, hr, hlocks, rfl⟩ := h
  intro H locs lsA hP hD hS hL
  exact W.aret hx hb hr (Or.inl ⟨_, rfl⟩) (by cases r; exact Or.inl rfl; exact Or.inr ⟨_, rfl⟩) (fun t ht hW => ⟨⟨rfl, by rw [ht]; exact hP⟩, hS.F ht⟩) hS.2.2 hd hlocks
theorem lsOf_args : ∀ (as : List Value) (q : Nat → Nat) (k i : Nat) (x : Value), (as.flatMap fun v => if v.category = 2 then [some v, none] else [some v])[i]? = some (some x) → (k + i, cnc q x) ∈ lv_args k (as.map (cnc q)) := by
  intro as q
  induction as with
  | nil => intro k i x h; simp at h
  | cons v r ih =>
    intro k i x h
    rw [List.flatMap_cons] at h
    rw [List.map_cons]
    unfold lv_args
    rw [cnc_cat]
    by_cases hc : v.category = 2
    · simp only [hc, if_true] at h ⊢
      match i, h with
      | 0, h => simp at h; subst h; exact List.mem_cons_self
      | 1, h => simp at h
      | i + 2, h =>
        have := ih (k + 2) i x (by simpa using h)
        exact List.mem_cons_of_mem _ (by rw [show k + (i + 2) = k + 2 + i by omega]; exact this)
    · simp only [hc, if_false] at h ⊢
      match i, h with
      | 0, h => simp at h; subst h; exact List.mem_cons_self
      | i + 1, h =>
        have := ih (k + 1) i x (by simpa using h)
        exact List.mem_cons_of_mem _ (by rw [show k + (i + 1) = k + 1 + i by omega]; exact this)
def lsOf (as : List Value) (mL : Nat) : List (Option Value) := (as.flatMap fun v => if v.category = 2 then [some v, none] else [some v]) ++ List.replicate (mL - (as.flatMap fun v => if v.category = 2 then [some v, none] else [some v]).length) none
theorem lsOf_len (as : List Value) : (as.flatMap fun v => if v.category = 2 then [some v, none] else [some v]).length = (lg_sl as).length := by
  unfold lg_sl
  rw [List.length_flatMap, List.length_flatMap]
  congr 1
  apply List.map_congr_left
  intro v _
  split <;> rfl
theorem lgsl_cnc (q : Nat → Nat) (as : List Value) : (lg_sl (as.map (cnc q))).length = (lg_sl as).length := by
  unfold lg_sl
  rw [List.length_flatMap, List.length_flatMap, List.map_map]
  congr 1
  apply List.map_congr_left
  intro v _
  show (if (cnc q v).category = 2 then _ else _ : List Slot).length = _
  rw [cnc_cat]
  split <;> rfl
theorem KM.intro {y : MethodName} {mL : Nat} {ret : Option FieldType} {as : List Value} {v : Option Value} (hy : plainName y.cls = true) (hcls : y.cls = RN ow) (hlen : (lg_sl as).length ≤ mL)
    (body : ∀ V, BM l ow cc mL ret fr lo v τ V → V 0 (lsOf as mL) [] σ) : KM l y cc mL ret fr lo as σ v τ := by
  intro D q cA sz
  refine Met.ofW (cc := cc) (maxL := mL) (ret := ret) hy rfl ?_
  intro p e s m args below meth c s₁ B hml hv
  obtain ⟨rfl, hsz, hP, hK, hD0⟩ := hv
  have hts := atoms_spec (ws := .code y cc mL ret :: AW) B.pre
  have hown : s.vm.findClass (RN ow) = some m.cls := by rw [← hcls]; exact findClass_of_methodNamed B.named
  subst hsz
  rw [lg_entry_eq]
  have hb := body (VV p l e (headSpec (.code y cc mL ret :: AW) { frames := fr, cells := 0, slots := 0, locals := lo }).room s m (as.map (cnc q)).toArray below meth c 0 0 (MQ below (QK D q cA (va_A (wG q cA σ) s.heap.size) v τ) (as.map (cnc q)).toArray s 0 0 (va_A (wG q cA σ) s.heap.size)) D q cA (va_A (wG q cA σ) s.heap.size) mL)
    ⟨p, e, (headSpec (.code y cc mL ret :: AW) { frames := fr, cells := 0, slots := 0, locals := lo }).room, s, m, _, below, meth, c, D, q, cA, _, ⟨B.exec, B.bytes, hml, hown, fun w hw => hts w (List.mem_cons_of_mem _ hw), hK, fun x hx => Or.inr hx⟩, rfl, rfl, B.returns, B.notSynchronized, rfl⟩
  have hl := lv_entry (as.map (cnc q)) (n := mL) (by rw [lgsl_cnc]; exact hlen)
  refine hb s.heap [] _ hP hD0.self va_S.rf ⟨?_, hl.1, hl.2.1, ?_⟩
  · unfold lsOf
    rw [List.length_append, List.length_replicate, lsOf_len]
    omega
  · intro i x hx
    unfold lsOf at hx
    rw [List.getElem?_append] at hx
    split at hx
    · have := lsOf_args as q 0 i x hx
      rw [Nat.zero_add] at this
      exact hl.2.2 _ this
    · rw [List.getElem?_replicate] at hx
      split at hx <;> cases hx
end RULES
end
section
/-! THE JDK's own: Math.min, Math.abs, System.arraycopy. -/
def okCpy (sp dp n : Int32) (n0 n1 : Nat) : Bool := decide (0 ≤ sp) && (decide (0 ≤ dp) && (decide (0 ≤ n) && (decide (sp.toNatClampNeg + n.toNatClampNeg ≤ n0) && decide (dp.toNatClampNeg + n.toNatClampNeg ≤ n1))))
theorem jw_min : Jvm.Cond.static Lib.Math.min.name ∈ AW ∧ Jvm.Cond.initialized "java/lang/Math" ∈ AW ∧ Jvm.Cond.code Lib.Math.min.name Lib.Math.min.code 2 (some .int) ∈ AW := ⟨aw_of (i := 466) (by decide +kernel) (by decide +kernel), aw_of (i := 85) (by decide +kernel) (by decide +kernel), aw_of (i := 467) (by decide +kernel) (by decide +kernel)⟩
theorem jw_abs : Jvm.Cond.static Lib.Math.abs.name ∈ AW ∧ Jvm.Cond.code Lib.Math.abs.name Lib.Math.abs.code 1 (some .int) ∈ AW := ⟨aw_of (i := 605) (by decide +kernel) (by decide +kernel), aw_of (i := 606) (by decide +kernel) (by decide +kernel)⟩
theorem jw_cpy : Jvm.Cond.static arraycopyName ∈ AW ∧ Jvm.Cond.native arraycopyName ∈ AW ∧ Jvm.Cond.initialized "java/lang/System" ∈ AW := ⟨aw_of (i := 621) (by decide +kernel) (by decide +kernel), aw_of (i := 622) (by decide +kernel) (by decide +kernel), aw_of (i := 90) (by decide +kernel) (by decide +kernel)⟩
theorem jw_l42 : Jvm.Cond.methodLink (RN 1) 42 Lib.Math.min.name ∈ AW := aw_of (i := 465) (by decide +kernel) (by decide +kernel)
theorem jw_l39 : Jvm.Cond.methodLink (RN 4) 39 Lib.Math.min.name ∈ AW := aw_of (i := 619) (by decide +kernel) (by decide +kernel)
theorem jw_l298 : Jvm.Cond.methodLink (RN 5) 298 Lib.Math.abs.name ∈ AW := aw_of (i := 604) (by decide +kernel) (by decide +kernel)
theorem jw_lc4 : Jvm.Cond.methodLink (RN 4) 42 arraycopyName ∈ AW := aw_of (i := 620) (by decide +kernel) (by decide +kernel)
theorem jw_lc5 : Jvm.Cond.methodLink (RN 5) 242 arraycopyName ∈ AW := aw_of (i := 664) (by decide +kernel) (by decide +kernel)
section NAT
variable {l : Launch} {ow nL fr lo pc : Nat} {cc : ByteArray} {V : Nat → List (Option Value) → List Value → ST → Prop} {ls : List (Option Value)} {rest : List Value} {σ : ST}
theorem BD.mmin (h : BD l ow cc nL fr lo V) {idx : Nat} {x y : Int32} (hlk : Jvm.Cond.methodLink (RN ow) idx Lib.Math.min.name ∈ AW) (hd : decode cc pc = .ok (.invokestatic idx, 3)) (hfr : 1 ≤ fr) (hlo : (rest.map fun v => v.category).sum + 13 ≤ lo) (k : V (pc + 3) ls (.int (if y < x then y else x) :: rest) σ) : V pc ls (.int y :: .int x :: rest) σ := by
  obtain ⟨p, e, R, s, m, args, below, meth, c, cells, slots, Q, D, q, cA, A, ⟨hx, hb, hml, hown, hts, hK, hA⟩, rfl, rfl, hcs, hss, rfl⟩ := h
  intro H locs lsA hP hD hS hL
  exact va_mmin hx hb (by rw [hml, hL.2.1]) hown (hts _ hlk) (hts _ jw_min.1) (hts _ jw_min.2.1) (hts _ jw_min.2.2) hfr (by rw [rest_cat]; exact hlo) hcs hss hd (k H locs lsA hP hD hS hL)
theorem BD.mabs (h : BD l ow cc nL fr lo V) {idx : Nat} {x : Int32} (hlk : Jvm.Cond.methodLink (RN ow) idx Lib.Math.abs.name ∈ AW) (hd : decode cc pc = .ok (.invokestatic idx, 3)) (hfr : 1 ≤ fr) (hlo : (rest.map fun v => v.category).sum + 13 ≤ lo) (k : V (pc + 3) ls (.int (if 0 ≤ x then x else 0 - x) :: rest) σ) : V pc ls (.int x :: rest) σ := by
  obtain ⟨p, e, R, s, m, args, below, meth, c, cells, slots, Q, D, q, cA, A, ⟨hx, hb, hml, hown, hts, hK, hA⟩, rfl, rfl, hcs, hss, rfl⟩ := h
  intro H locs lsA hP hD hS hL
  exact va_mabs hx hb (by rw [hml, hL.2.1]) hown (hts _ hlk) (hts _ jw_abs.1) (hts _ jw_min.2.1) (hts _ jw_abs.2) hfr (by rw [rest_cat]; exact hlo) hcs hss hd (k H locs lsA hP hD hS hL)
theorem cpy_words : nativeFrameWords "java/lang/System" "arraycopy" 5 + 11 ≤ 40 := by decide +kernel
theorem BD.cpy (h : BD l ow cc nL fr lo V) {idx a0 a1 : Nat} {sp dp n : Int32} (hlk : Jvm.Cond.methodLink (RN ow) idx arraycopyName ∈ AW) (hd : decode cc pc = .ok (.invokestatic idx, 3)) (h0 : kd a0 = 10) (h1 : kd a1 = 10) (hok : okCpy sp dp n (alen a0) (alen a1) = true) (hfr : 1 ≤ fr) (hlo : (rest.map fun v => v.category).sum + 40 ≤ lo)
    (k : V (pc + 3) ls rest (cpyI σ a0 a1 sp.toNatClampNeg dp.toNatClampNeg n.toNatClampNeg)) : V pc ls (.int n :: .int dp :: .ref a1 :: .int sp :: .ref a0 :: rest) σ := by
  obtain ⟨p, e, R, s, m, args, below, meth, c, cells, slots, Q, D, q, cA, A, ⟨hx, hb, hml, hown, hts, hK, hA⟩, rfl, rfl, hcs, hss, rfl⟩ := h
  simp only [okCpy, Bool.and_eq_true, decide_eq_true_eq] at hok
  obtain ⟨c1, c2, c3, c4, c5⟩ := hok
  intro H locs lsA hP hD hS hL
  have e0 : (wG q cA σ)[a0]? = some (q a0, .inl (cA 0, alen a0, .inl (σ.1 a0))) := by rw [wG_at (kd_lt (by omega)), cellG_I h0]
  have e1 : (wG q cA σ)[a1]? = some (q a1, .inl (cA 0, alen a1, .inl (σ.1 a1))) := by rw [wG_at (kd_lt (by omega)), cellG_I h1]
  refine va_copyi hx hb (by rw [hml, hL.2.1]) hown (hts _ hlk) (hts _ jw_cpy.2.1) (hts _ jw_cpy.1) (hts _ jw_cpy.2.2) hK.1 hP hD hS a0 a1 0 0 e0 e1 rfl rfl rfl (Int32.not_lt.mpr c1) (Int32.not_lt.mpr c2) (Int32.not_lt.mpr c3) c4 c5 (fun i _ => rfl) hfr (by rw [rest_cat]; have := cpy_words; omega) hd (fun H1 locs1 hP1 hD1 hS1 => ?_)
  have hu : (cpyI σ a0 a1 sp.toNatClampNeg dp.toNatClampNeg n.toNatClampNeg).1 a1 = va_cpy (σ.1 a0) (σ.1 a1) sp.toNatClampNeg dp.toNatClampNeg n.toNatClampNeg := by funext b; simp [cpyI]
  rw [wG_set (σ := σ) (τ := cpyI σ a0 a1 sp.toNatClampNeg dp.toNatClampNeg n.toNatClampNeg) (kd_lt (by omega)) (by rw [cellG_I h1, hu]) (fun i hi => ⟨by funext b; simp [cpyI, hi], rfl⟩)] at hP1 hD1
  exact k H1 locs1 lsA hP1 hD1 hS1 hL
end NAT
end
section
/-! The words of the methods that are called, by their places. Printed by wip/whole/gen_words.py. -/
theorem cwX0_become : CW 0 yX0_become cX0_become 2 none 1 := ⟨by decide, rfl, aw_of (i := 613) (by decide +kernel) (by decide +kernel), aw_of (i := 43) (by decide +kernel) (by decide +kernel), aw_of (i := 83) (by decide +kernel) (by decide +kernel), aw_of (i := 614) (by decide +kernel) (by decide +kernel), ⟨by decide +kernel, by decide +kernel⟩, by decide +kernel⟩
theorem cwX1_nameOfReturner : CW 1 yX1_nameOfReturner cX1_nameOfReturner 1 (some .int) 0 := ⟨by decide, rfl, aw_of (i := 411) (by decide +kernel) (by decide +kernel), aw_of (i := 19) (by decide +kernel) (by decide +kernel), aw_of (i := 86) (by decide +kernel) (by decide +kernel), aw_of (i := 412) (by decide +kernel) (by decide +kernel), ⟨by decide +kernel, by decide +kernel⟩, by decide +kernel⟩
theorem cwX1_draw : CW 1 yX1_draw cX1_draw 1 (some .int) 0 := ⟨by decide, rfl, aw_of (i := 475) (by decide +kernel) (by decide +kernel), aw_of (i := 31) (by decide +kernel) (by decide +kernel), aw_of (i := 86) (by decide +kernel) (by decide +kernel), aw_of (i := 476) (by decide +kernel) (by decide +kernel), ⟨by decide +kernel, by decide +kernel⟩, by decide +kernel⟩
theorem cwX1_sendNow : CW 1 yX1_sendNow cX1_sendNow 1 (some .int) 0 := ⟨by decide, rfl, aw_of (i := 459) (by decide +kernel) (by decide +kernel), aw_of (i := 28) (by decide +kernel) (by decide +kernel), aw_of (i := 86) (by decide +kernel) (by decide +kernel), aw_of (i := 460) (by decide +kernel) (by decide +kernel), ⟨by decide +kernel, by decide +kernel⟩, by decide +kernel⟩
theorem cwX1_allIfHeld : CW 1 yX1_allIfHeld cX1_allIfHeld 2 (some .int) 1 := ⟨by decide, rfl, aw_of (i := 463) (by decide +kernel) (by decide +kernel), aw_of (i := 29) (by decide +kernel) (by decide +kernel), aw_of (i := 86) (by decide +kernel) (by decide +kernel), aw_of (i := 464) (by decide +kernel) (by decide +kernel), ⟨by decide +kernel, by decide +kernel⟩, by decide +kernel⟩
theorem cwX1_allByLot : CW 1 yX1_allByLot cX1_allByLot 1 (some .int) 0 := ⟨by decide, rfl, aw_of (i := 471) (by decide +kernel) (by decide +kernel), aw_of (i := 30) (by decide +kernel) (by decide +kernel), aw_of (i := 86) (by decide +kernel) (by decide +kernel), aw_of (i := 472) (by decide +kernel) (by decide +kernel), ⟨by decide +kernel, by decide +kernel⟩, by decide +kernel⟩
theorem cwX1_wouldSend : CW 1 yX1_wouldSend cX1_wouldSend 3 (some .int) 0 := ⟨by decide, rfl, aw_of (i := 520) (by decide +kernel) (by decide +kernel), aw_of (i := 35) (by decide +kernel) (by decide +kernel), aw_of (i := 86) (by decide +kernel) (by decide +kernel), aw_of (i := 521) (by decide +kernel) (by decide +kernel), ⟨by decide +kernel, by decide +kernel⟩, by decide +kernel⟩
theorem cwX1_sendBackOf : CW 1 yX1_sendBackOf cX1_sendBackOf 5 (some .int) 2 := ⟨by decide, rfl, aw_of (i := 482) (by decide +kernel) (by decide +kernel), aw_of (i := 32) (by decide +kernel) (by decide +kernel), aw_of (i := 86) (by decide +kernel) (by decide +kernel), aw_of (i := 483) (by decide +kernel) (by decide +kernel), ⟨by decide +kernel, by decide +kernel⟩, by decide +kernel⟩
theorem cwX1_play : CW 1 yX1_play cX1_play 2 none 1 := ⟨by decide, rfl, aw_of (i := 455) (by decide +kernel) (by decide +kernel), aw_of (i := 27) (by decide +kernel) (by decide +kernel), aw_of (i := 86) (by decide +kernel) (by decide +kernel), aw_of (i := 456) (by decide +kernel) (by decide +kernel), ⟨by decide +kernel, by decide +kernel⟩, by decide +kernel⟩
theorem cwX1_keptOver : CW 1 yX1_keptOver cX1_keptOver 4 (some .int) 1 := ⟨by decide, rfl, aw_of (i := 559) (by decide +kernel) (by decide +kernel), aw_of (i := 38) (by decide +kernel) (by decide +kernel), aw_of (i := 86) (by decide +kernel) (by decide +kernel), aw_of (i := 560) (by decide +kernel) (by decide +kernel), ⟨by decide +kernel, by decide +kernel⟩, by decide +kernel⟩
theorem cwX1_senderHasBy : CW 1 yX1_senderHasBy cX1_senderHasBy 3 (some .int) 1 := ⟨by decide, rfl, aw_of (i := 551) (by decide +kernel) (by decide +kernel), aw_of (i := 37) (by decide +kernel) (by decide +kernel), aw_of (i := 86) (by decide +kernel) (by decide +kernel), aw_of (i := 552) (by decide +kernel) (by decide +kernel), ⟨by decide +kernel, by decide +kernel⟩, by decide +kernel⟩
theorem cwX1_faceOneWhoKeepsAll : CW 1 yX1_faceOneWhoKeepsAll cX1_faceOneWhoKeepsAll 1 none 0 := ⟨by decide, rfl, aw_of (i := 543) (by decide +kernel) (by decide +kernel), aw_of (i := 36) (by decide +kernel) (by decide +kernel), aw_of (i := 86) (by decide +kernel) (by decide +kernel), aw_of (i := 544) (by decide +kernel) (by decide +kernel), ⟨by decide +kernel, by decide +kernel⟩, by decide +kernel⟩
theorem cwX2_takesIn : CW 2 yX2_takesIn cX2_takesIn 4 (some .boolean) 1 := ⟨by decide, rfl, aw_of (i := 322) (by decide +kernel) (by decide +kernel), aw_of (i := 2) (by decide +kernel) (by decide +kernel), aw_of (i := 87) (by decide +kernel) (by decide +kernel), aw_of (i := 323) (by decide +kernel) (by decide +kernel), ⟨by decide +kernel, by decide +kernel⟩, by decide +kernel⟩
theorem cwX2_takesStatement : CW 2 yX2_takesStatement cX2_takesStatement 6 (some .boolean) 1 := ⟨by decide, rfl, aw_of (i := 326) (by decide +kernel) (by decide +kernel), aw_of (i := 3) (by decide +kernel) (by decide +kernel), aw_of (i := 87) (by decide +kernel) (by decide +kernel), aw_of (i := 327) (by decide +kernel) (by decide +kernel), ⟨by decide +kernel, by decide +kernel⟩, by decide +kernel⟩
theorem cwX2_takes : CW 2 yX2_takes cX2_takes 3 (some .boolean) 2 := ⟨by decide, rfl, aw_of (i := 358) (by decide +kernel) (by decide +kernel), aw_of (i := 10) (by decide +kernel) (by decide +kernel), aw_of (i := 87) (by decide +kernel) (by decide +kernel), aw_of (i := 359) (by decide +kernel) (by decide +kernel), ⟨by decide +kernel, by decide +kernel⟩, by decide +kernel⟩
theorem cwX2_takesDigit : CW 2 yX2_takesDigit cX2_takesDigit 4 (some .boolean) 2 := ⟨by decide, rfl, aw_of (i := 351) (by decide +kernel) (by decide +kernel), aw_of (i := 9) (by decide +kernel) (by decide +kernel), aw_of (i := 87) (by decide +kernel) (by decide +kernel), aw_of (i := 352) (by decide +kernel) (by decide +kernel), ⟨by decide +kernel, by decide +kernel⟩, by decide +kernel⟩
theorem cwX2_takesPart : CW 2 yX2_takesPart cX2_takesPart 5 (some .boolean) 4 := ⟨by decide, rfl, aw_of (i := 366) (by decide +kernel) (by decide +kernel), aw_of (i := 12) (by decide +kernel) (by decide +kernel), aw_of (i := 87) (by decide +kernel) (by decide +kernel), aw_of (i := 367) (by decide +kernel) (by decide +kernel), ⟨by decide +kernel, by decide +kernel⟩, by decide +kernel⟩
theorem cwX2_takesNumber : CW 2 yX2_takesNumber cX2_takesNumber 6 (some .boolean) 3 := ⟨by decide, rfl, aw_of (i := 362) (by decide +kernel) (by decide +kernel), aw_of (i := 11) (by decide +kernel) (by decide +kernel), aw_of (i := 87) (by decide +kernel) (by decide +kernel), aw_of (i := 363) (by decide +kernel) (by decide +kernel), ⟨by decide +kernel, by decide +kernel⟩, by decide +kernel⟩
theorem cwX2_digitOf : CS yX2_digitOf cX2_digitOf 1 (some .int) 1 := ⟨aw_of (i := 354) (by decide +kernel) (by decide +kernel), aw_of (i := 87) (by decide +kernel) (by decide +kernel), aw_of (i := 355) (by decide +kernel) (by decide +kernel), ⟨by decide +kernel, by decide +kernel⟩, by decide +kernel⟩
theorem cwX3_refusalAsRow : CW 3 yX3_refusalAsRow cX3_refusalAsRow 1 (some .int) 0 := ⟨by decide, rfl, aw_of (i := 318) (by decide +kernel) (by decide +kernel), aw_of (i := 1) (by decide +kernel) (by decide +kernel), aw_of (i := 88) (by decide +kernel) (by decide +kernel), aw_of (i := 319) (by decide +kernel) (by decide +kernel), ⟨by decide +kernel, by decide +kernel⟩, by decide +kernel⟩
theorem cwX3_refusalAsSender : CW 3 yX3_refusalAsSender cX3_refusalAsSender 1 (some .int) 0 := ⟨by decide, rfl, aw_of (i := 671) (by decide +kernel) (by decide +kernel), aw_of (i := 49) (by decide +kernel) (by decide +kernel), aw_of (i := 88) (by decide +kernel) (by decide +kernel), aw_of (i := 672) (by decide +kernel) (by decide +kernel), ⟨by decide +kernel, by decide +kernel⟩, by decide +kernel⟩
theorem cwX3_becomeRow : CW 3 yX3_becomeRow cX3_becomeRow 4 none 2 := ⟨by decide, rfl, aw_of (i := 645) (by decide +kernel) (by decide +kernel), aw_of (i := 46) (by decide +kernel) (by decide +kernel), aw_of (i := 88) (by decide +kernel) (by decide +kernel), aw_of (i := 646) (by decide +kernel) (by decide +kernel), ⟨by decide +kernel, by decide +kernel⟩, by decide +kernel⟩
theorem cwX3_has : CW 3 yX3_has cX3_has 2 (some .boolean) 1 := ⟨by decide, rfl, aw_of (i := 334) (by decide +kernel) (by decide +kernel), aw_of (i := 5) (by decide +kernel) (by decide +kernel), aw_of (i := 88) (by decide +kernel) (by decide +kernel), aw_of (i := 335) (by decide +kernel) (by decide +kernel), ⟨by decide +kernel, by decide +kernel⟩, by decide +kernel⟩
theorem cwX3_hasRun : CW 3 yX3_hasRun cX3_hasRun 3 (some .boolean) 2 := ⟨by decide, rfl, aw_of (i := 662) (by decide +kernel) (by decide +kernel), aw_of (i := 48) (by decide +kernel) (by decide +kernel), aw_of (i := 88) (by decide +kernel) (by decide +kernel), aw_of (i := 663) (by decide +kernel) (by decide +kernel), ⟨by decide +kernel, by decide +kernel⟩, by decide +kernel⟩
theorem cwX3_read : CW 3 yX3_read cX3_read 2 (some .int) 1 := ⟨by decide, rfl, aw_of (i := 330) (by decide +kernel) (by decide +kernel), aw_of (i := 4) (by decide +kernel) (by decide +kernel), aw_of (i := 88) (by decide +kernel) (by decide +kernel), aw_of (i := 331) (by decide +kernel) (by decide +kernel), ⟨by decide +kernel, by decide +kernel⟩, by decide +kernel⟩
theorem cwX3_write : CW 3 yX3_write cX3_write 3 none 2 := ⟨by decide, rfl, aw_of (i := 654) (by decide +kernel) (by decide +kernel), aw_of (i := 47) (by decide +kernel) (by decide +kernel), aw_of (i := 88) (by decide +kernel) (by decide +kernel), aw_of (i := 655) (by decide +kernel) (by decide +kernel), ⟨by decide +kernel, by decide +kernel⟩, by decide +kernel⟩
theorem cwX3_leastNumber : CW 3 yX3_leastNumber cX3_leastNumber 1 (some .int) 0 := ⟨by decide, rfl, aw_of (i := 510) (by decide +kernel) (by decide +kernel), aw_of (i := 34) (by decide +kernel) (by decide +kernel), aw_of (i := 88) (by decide +kernel) (by decide +kernel), aw_of (i := 511) (by decide +kernel) (by decide +kernel), ⟨by decide +kernel, by decide +kernel⟩, by decide +kernel⟩
theorem cwX3_isOfSendings : CW 3 yX3_isOfSendings cX3_isOfSendings 4 (some .boolean) 1 := ⟨by decide, rfl, aw_of (i := 580) (by decide +kernel) (by decide +kernel), aw_of (i := 39) (by decide +kernel) (by decide +kernel), aw_of (i := 88) (by decide +kernel) (by decide +kernel), aw_of (i := 581) (by decide +kernel) (by decide +kernel), ⟨by decide +kernel, by decide +kernel⟩, by decide +kernel⟩
theorem cwX3_sum : CW 3 yX3_sum cX3_sum 3 (some .int) 0 := ⟨by decide, rfl, aw_of (i := 586) (by decide +kernel) (by decide +kernel), aw_of (i := 40) (by decide +kernel) (by decide +kernel), aw_of (i := 88) (by decide +kernel) (by decide +kernel), aw_of (i := 587) (by decide +kernel) (by decide +kernel), ⟨by decide +kernel, by decide +kernel⟩, by decide +kernel⟩
theorem cwX3_signOf : CW 3 yX3_signOf cX3_signOf 5 (some .int) 2 := ⟨by decide, rfl, aw_of (i := 594) (by decide +kernel) (by decide +kernel), aw_of (i := 41) (by decide +kernel) (by decide +kernel), aw_of (i := 88) (by decide +kernel) (by decide +kernel), aw_of (i := 595) (by decide +kernel) (by decide +kernel), ⟨by decide +kernel, by decide +kernel⟩, by decide +kernel⟩
theorem cwX3_faithOfSender : CW 3 yX3_faithOfSender cX3_faithOfSender 4 (some .int) 0 := ⟨by decide, rfl, aw_of (i := 675) (by decide +kernel) (by decide +kernel), aw_of (i := 50) (by decide +kernel) (by decide +kernel), aw_of (i := 88) (by decide +kernel) (by decide +kernel), aw_of (i := 676) (by decide +kernel) (by decide +kernel), ⟨by decide +kernel, by decide +kernel⟩, by decide +kernel⟩
theorem cwX3_throwFailure : CW 3 yX3_throwFailure cX3_throwFailure 1 none 0 := ⟨by decide, rfl, aw_of (i := 686) (by decide +kernel) (by decide +kernel), aw_of (i := 51) (by decide +kernel) (by decide +kernel), aw_of (i := 88) (by decide +kernel) (by decide +kernel), aw_of (i := 687) (by decide +kernel) (by decide +kernel), ⟨by decide +kernel, by decide +kernel⟩, by decide +kernel⟩
theorem cwX4_has : CW 4 yX4_has cX4_has 2 (some .boolean) 1 := ⟨by decide, rfl, aw_of (i := 394) (by decide +kernel) (by decide +kernel), aw_of (i := 16) (by decide +kernel) (by decide +kernel), aw_of (i := 84) (by decide +kernel) (by decide +kernel), aw_of (i := 395) (by decide +kernel) (by decide +kernel), ⟨by decide +kernel, by decide +kernel⟩, by decide +kernel⟩
theorem cwX4_placeOf : CW 4 yX4_placeOf cX4_placeOf 4 (some .int) 2 := ⟨by decide, rfl, aw_of (i := 346) (by decide +kernel) (by decide +kernel), aw_of (i := 8) (by decide +kernel) (by decide +kernel), aw_of (i := 84) (by decide +kernel) (by decide +kernel), aw_of (i := 347) (by decide +kernel) (by decide +kernel), ⟨by decide +kernel, by decide +kernel⟩, by decide +kernel⟩
theorem cwX4_read : CW 4 yX4_read cX4_read 4 (some .int) 2 := ⟨by decide, rfl, aw_of (i := 374) (by decide +kernel) (by decide +kernel), aw_of (i := 14) (by decide +kernel) (by decide +kernel), aw_of (i := 84) (by decide +kernel) (by decide +kernel), aw_of (i := 375) (by decide +kernel) (by decide +kernel), ⟨by decide +kernel, by decide +kernel⟩, by decide +kernel⟩
theorem cwX4_write : CW 4 yX4_write cX4_write 5 none 3 := ⟨by decide, rfl, aw_of (i := 342) (by decide +kernel) (by decide +kernel), aw_of (i := 7) (by decide +kernel) (by decide +kernel), aw_of (i := 84) (by decide +kernel) (by decide +kernel), aw_of (i := 343) (by decide +kernel) (by decide +kernel), ⟨by decide +kernel, by decide +kernel⟩, by decide +kernel⟩
theorem cwX4_open : CW 4 yX4_open cX4_open 2 (some .int) 0 := ⟨by decide, rfl, aw_of (i := 338) (by decide +kernel) (by decide +kernel), aw_of (i := 6) (by decide +kernel) (by decide +kernel), aw_of (i := 84) (by decide +kernel) (by decide +kernel), aw_of (i := 339) (by decide +kernel) (by decide +kernel), ⟨by decide +kernel, by decide +kernel⟩, by decide +kernel⟩
theorem cwX4_sum : CW 4 yX4_sum cX4_sum 4 (some .int) 1 := ⟨by decide, rfl, aw_of (i := 633) (by decide +kernel) (by decide +kernel), aw_of (i := 45) (by decide +kernel) (by decide +kernel), aw_of (i := 84) (by decide +kernel) (by decide +kernel), aw_of (i := 634) (by decide +kernel) (by decide +kernel), ⟨by decide +kernel, by decide +kernel⟩, by decide +kernel⟩
theorem cwX4_sumWhere : CW 4 yX4_sumWhere cX4_sumWhere 6 (some .int) 3 := ⟨by decide, rfl, aw_of (i := 406) (by decide +kernel) (by decide +kernel), aw_of (i := 18) (by decide +kernel) (by decide +kernel), aw_of (i := 84) (by decide +kernel) (by decide +kernel), aw_of (i := 407) (by decide +kernel) (by decide +kernel), ⟨by decide +kernel, by decide +kernel⟩, by decide +kernel⟩
theorem cwX4_rowsWhere : CW 4 yX4_rowsWhere cX4_rowsWhere 5 (some .int) 2 := ⟨by decide, rfl, aw_of (i := 498) (by decide +kernel) (by decide +kernel), aw_of (i := 33) (by decide +kernel) (by decide +kernel), aw_of (i := 84) (by decide +kernel) (by decide +kernel), aw_of (i := 499) (by decide +kernel) (by decide +kernel), ⟨by decide +kernel, by decide +kernel⟩, by decide +kernel⟩
theorem cwX4_become : CW 4 yX4_become cX4_become 2 none 1 := ⟨by decide, rfl, aw_of (i := 617) (by decide +kernel) (by decide +kernel), aw_of (i := 44) (by decide +kernel) (by decide +kernel), aw_of (i := 84) (by decide +kernel) (by decide +kernel), aw_of (i := 618) (by decide +kernel) (by decide +kernel), ⟨by decide +kernel, by decide +kernel⟩, by decide +kernel⟩
theorem cwX5_room : CW 5 yX5_room cX5_room 6 (some .int) 1 := ⟨by decide, rfl, aw_of (i := 309) (by decide +kernel) (by decide +kernel), aw_of (i := 310) (by decide +kernel) (by decide +kernel), aw_of (i := 82) (by decide +kernel) (by decide +kernel), aw_of (i := 311) (by decide +kernel) (by decide +kernel), ⟨by decide +kernel, by decide +kernel⟩, by decide +kernel⟩
theorem cwX5_sender : CW 5 yX5_sender cX5_sender 3 (some .int) 2 := ⟨by decide, rfl, aw_of (i := 389) (by decide +kernel) (by decide +kernel), aw_of (i := 390) (by decide +kernel) (by decide +kernel), aw_of (i := 82) (by decide +kernel) (by decide +kernel), aw_of (i := 391) (by decide +kernel) (by decide +kernel), ⟨by decide +kernel, by decide +kernel⟩, by decide +kernel⟩
theorem cwX5_returner : CW 5 yX5_returner cX5_returner 4 (some .int) 2 := ⟨by decide, rfl, aw_of (i := 397) (by decide +kernel) (by decide +kernel), aw_of (i := 398) (by decide +kernel) (by decide +kernel), aw_of (i := 82) (by decide +kernel) (by decide +kernel), aw_of (i := 399) (by decide +kernel) (by decide +kernel), ⟨by decide +kernel, by decide +kernel⟩, by decide +kernel⟩
theorem cwX5_set : CW 5 yX5_set cX5_set 5 (some .int) 2 := ⟨by decide, rfl, aw_of (i := 414) (by decide +kernel) (by decide +kernel), aw_of (i := 415) (by decide +kernel) (by decide +kernel), aw_of (i := 82) (by decide +kernel) (by decide +kernel), aw_of (i := 416) (by decide +kernel) (by decide +kernel), ⟨by decide +kernel, by decide +kernel⟩, by decide +kernel⟩
theorem cwX5_holds : CW 5 yX5_holds cX5_holds 4 (some .int) 2 := ⟨by decide, rfl, aw_of (i := 418) (by decide +kernel) (by decide +kernel), aw_of (i := 419) (by decide +kernel) (by decide +kernel), aw_of (i := 82) (by decide +kernel) (by decide +kernel), aw_of (i := 420) (by decide +kernel) (by decide +kernel), ⟨by decide +kernel, by decide +kernel⟩, by decide +kernel⟩
theorem cwX5_pair : CW 5 yX5_pair cX5_pair 4 (some .int) 3 := ⟨by decide, rfl, aw_of (i := 422) (by decide +kernel) (by decide +kernel), aw_of (i := 423) (by decide +kernel) (by decide +kernel), aw_of (i := 82) (by decide +kernel) (by decide +kernel), aw_of (i := 424) (by decide +kernel) (by decide +kernel), ⟨by decide +kernel, by decide +kernel⟩, by decide +kernel⟩
theorem cwX5_all : CW 5 yX5_all cX5_all 4 (some .int) 0 := ⟨by decide, rfl, aw_of (i := 485) (by decide +kernel) (by decide +kernel), aw_of (i := 486) (by decide +kernel) (by decide +kernel), aw_of (i := 82) (by decide +kernel) (by decide +kernel), aw_of (i := 487) (by decide +kernel) (by decide +kernel), ⟨by decide +kernel, by decide +kernel⟩, by decide +kernel⟩
theorem cwX5_of : CW 5 yX5_of cX5_of 3 (some .int) 2 := ⟨by decide, rfl, aw_of (i := 489) (by decide +kernel) (by decide +kernel), aw_of (i := 490) (by decide +kernel) (by decide +kernel), aw_of (i := 82) (by decide +kernel) (by decide +kernel), aw_of (i := 491) (by decide +kernel) (by decide +kernel), ⟨by decide +kernel, by decide +kernel⟩, by decide +kernel⟩
theorem cwX5_sumSent : CW 5 yX5_sumSent cX5_sumSent 5 (some .int) 2 := ⟨by decide, rfl, aw_of (i := 493) (by decide +kernel) (by decide +kernel), aw_of (i := 494) (by decide +kernel) (by decide +kernel), aw_of (i := 82) (by decide +kernel) (by decide +kernel), aw_of (i := 495) (by decide +kernel) (by decide +kernel), ⟨by decide +kernel, by decide +kernel⟩, by decide +kernel⟩
theorem cwX5_sumCame : CW 5 yX5_sumCame cX5_sumCame 5 (some .int) 2 := ⟨by decide, rfl, aw_of (i := 501) (by decide +kernel) (by decide +kernel), aw_of (i := 502) (by decide +kernel) (by decide +kernel), aw_of (i := 82) (by decide +kernel) (by decide +kernel), aw_of (i := 503) (by decide +kernel) (by decide +kernel), ⟨by decide +kernel, by decide +kernel⟩, by decide +kernel⟩
theorem cwX5_judge : CW 5 yX5_judge cX5_judge 9 (some .int) 1 := ⟨by decide, rfl, aw_of (i := 505) (by decide +kernel) (by decide +kernel), aw_of (i := 506) (by decide +kernel) (by decide +kernel), aw_of (i := 82) (by decide +kernel) (by decide +kernel), aw_of (i := 507) (by decide +kernel) (by decide +kernel), ⟨by decide +kernel, by decide +kernel⟩, by decide +kernel⟩
theorem cwX5_sends : CW 5 yX5_sends cX5_sends 3 (some .int) 2 := ⟨by decide, rfl, aw_of (i := 515) (by decide +kernel) (by decide +kernel), aw_of (i := 516) (by decide +kernel) (by decide +kernel), aw_of (i := 82) (by decide +kernel) (by decide +kernel), aw_of (i := 517) (by decide +kernel) (by decide +kernel), ⟨by decide +kernel, by decide +kernel⟩, by decide +kernel⟩
theorem cwX5_back : CW 5 yX5_back cX5_back 4 (some .int) 3 := ⟨by decide, rfl, aw_of (i := 523) (by decide +kernel) (by decide +kernel), aw_of (i := 524) (by decide +kernel) (by decide +kernel), aw_of (i := 82) (by decide +kernel) (by decide +kernel), aw_of (i := 525) (by decide +kernel) (by decide +kernel), ⟨by decide +kernel, by decide +kernel⟩, by decide +kernel⟩
theorem cwX5_held : CW 5 yX5_held cX5_held 4 (some .int) 2 := ⟨by decide, rfl, aw_of (i := 528) (by decide +kernel) (by decide +kernel), aw_of (i := 529) (by decide +kernel) (by decide +kernel), aw_of (i := 82) (by decide +kernel) (by decide +kernel), aw_of (i := 530) (by decide +kernel) (by decide +kernel), ⟨by decide +kernel, by decide +kernel⟩, by decide +kernel⟩
theorem cwX5_trust : CW 5 yX5_trust cX5_trust 4 (some .int) 2 := ⟨by decide, rfl, aw_of (i := 534) (by decide +kernel) (by decide +kernel), aw_of (i := 535) (by decide +kernel) (by decide +kernel), aw_of (i := 82) (by decide +kernel) (by decide +kernel), aw_of (i := 536) (by decide +kernel) (by decide +kernel), ⟨by decide +kernel, by decide +kernel⟩, by decide +kernel⟩
theorem cwX5_giving : CW 5 yX5_giving cX5_giving 2 (some .int) 1 := ⟨by decide, rfl, aw_of (i := 538) (by decide +kernel) (by decide +kernel), aw_of (i := 539) (by decide +kernel) (by decide +kernel), aw_of (i := 82) (by decide +kernel) (by decide +kernel), aw_of (i := 540) (by decide +kernel) (by decide +kernel), ⟨by decide +kernel, by decide +kernel⟩, by decide +kernel⟩
theorem cwX5_best : CW 5 yX5_best cX5_best 7 (some .int) 2 := ⟨by decide, rfl, aw_of (i := 546) (by decide +kernel) (by decide +kernel), aw_of (i := 547) (by decide +kernel) (by decide +kernel), aw_of (i := 82) (by decide +kernel) (by decide +kernel), aw_of (i := 548) (by decide +kernel) (by decide +kernel), ⟨by decide +kernel, by decide +kernel⟩, by decide +kernel⟩
theorem cwX5_worth : CW 5 yX5_worth cX5_worth 5 (some .int) 3 := ⟨by decide, rfl, aw_of (i := 554) (by decide +kernel) (by decide +kernel), aw_of (i := 555) (by decide +kernel) (by decide +kernel), aw_of (i := 82) (by decide +kernel) (by decide +kernel), aw_of (i := 556) (by decide +kernel) (by decide +kernel), ⟨by decide +kernel, by decide +kernel⟩, by decide +kernel⟩
theorem cwX5_promise : CW 5 yX5_promise cX5_promise 5 (some .int) 3 := ⟨by decide, rfl, aw_of (i := 563) (by decide +kernel) (by decide +kernel), aw_of (i := 564) (by decide +kernel) (by decide +kernel), aw_of (i := 82) (by decide +kernel) (by decide +kernel), aw_of (i := 565) (by decide +kernel) (by decide +kernel), ⟨by decide +kernel, by decide +kernel⟩, by decide +kernel⟩
theorem cwX5_lastTurn : CW 5 yX5_lastTurn cX5_lastTurn 9 (some .int) 3 := ⟨by decide, rfl, aw_of (i := 567) (by decide +kernel) (by decide +kernel), aw_of (i := 568) (by decide +kernel) (by decide +kernel), aw_of (i := 82) (by decide +kernel) (by decide +kernel), aw_of (i := 569) (by decide +kernel) (by decide +kernel), ⟨by decide +kernel, by decide +kernel⟩, by decide +kernel⟩
theorem cwX5_lands : CW 5 yX5_lands cX5_lands 6 (some .int) 2 := ⟨by decide, rfl, aw_of (i := 571) (by decide +kernel) (by decide +kernel), aw_of (i := 572) (by decide +kernel) (by decide +kernel), aw_of (i := 82) (by decide +kernel) (by decide +kernel), aw_of (i := 573) (by decide +kernel) (by decide +kernel), ⟨by decide +kernel, by decide +kernel⟩, by decide +kernel⟩
theorem cwX5_words : CW 5 yX5_words cX5_words 9 (some .int) 2 := ⟨by decide, rfl, aw_of (i := 589) (by decide +kernel) (by decide +kernel), aw_of (i := 590) (by decide +kernel) (by decide +kernel), aw_of (i := 82) (by decide +kernel) (by decide +kernel), aw_of (i := 591) (by decide +kernel) (by decide +kernel), ⟨by decide +kernel, by decide +kernel⟩, by decide +kernel⟩
theorem cwX5_parts : CW 5 yX5_parts cX5_parts 9 (some .int) 4 := ⟨by decide, rfl, aw_of (i := 597) (by decide +kernel) (by decide +kernel), aw_of (i := 598) (by decide +kernel) (by decide +kernel), aw_of (i := 82) (by decide +kernel) (by decide +kernel), aw_of (i := 599) (by decide +kernel) (by decide +kernel), ⟨by decide +kernel, by decide +kernel⟩, by decide +kernel⟩
theorem cwX5_image : CW 5 yX5_image cX5_image 1 (some .int) 0 := ⟨by decide, rfl, aw_of (i := 608) (by decide +kernel) (by decide +kernel), aw_of (i := 609) (by decide +kernel) (by decide +kernel), aw_of (i := 82) (by decide +kernel) (by decide +kernel), aw_of (i := 610) (by decide +kernel) (by decide +kernel), ⟨by decide +kernel, by decide +kernel⟩, by decide +kernel⟩
theorem cwX5_restore : CW 5 yX5_restore cX5_restore 1 (some .int) 0 := ⟨by decide, rfl, aw_of (i := 624) (by decide +kernel) (by decide +kernel), aw_of (i := 625) (by decide +kernel) (by decide +kernel), aw_of (i := 82) (by decide +kernel) (by decide +kernel), aw_of (i := 626) (by decide +kernel) (by decide +kernel), ⟨by decide +kernel, by decide +kernel⟩, by decide +kernel⟩
theorem cwX5_count : CW 5 yX5_count cX5_count 2 (some .int) 1 := ⟨by decide, rfl, aw_of (i := 628) (by decide +kernel) (by decide +kernel), aw_of (i := 629) (by decide +kernel) (by decide +kernel), aw_of (i := 82) (by decide +kernel) (by decide +kernel), aw_of (i := 630) (by decide +kernel) (by decide +kernel), ⟨by decide +kernel, by decide +kernel⟩, by decide +kernel⟩
theorem cwX5_keep : CW 5 yX5_keep cX5_keep 5 (some .int) 3 := ⟨by decide, rfl, aw_of (i := 636) (by decide +kernel) (by decide +kernel), aw_of (i := 637) (by decide +kernel) (by decide +kernel), aw_of (i := 82) (by decide +kernel) (by decide +kernel), aw_of (i := 638) (by decide +kernel) (by decide +kernel), ⟨by decide +kernel, by decide +kernel⟩, by decide +kernel⟩
theorem cwX5_row : CW 5 yX5_row cX5_row 5 (some .int) 3 := ⟨by decide, rfl, aw_of (i := 640) (by decide +kernel) (by decide +kernel), aw_of (i := 641) (by decide +kernel) (by decide +kernel), aw_of (i := 82) (by decide +kernel) (by decide +kernel), aw_of (i := 642) (by decide +kernel) (by decide +kernel), ⟨by decide +kernel, by decide +kernel⟩, by decide +kernel⟩
theorem cwX5_put : CW 5 yX5_put cX5_put 6 (some .int) 3 := ⟨by decide, rfl, aw_of (i := 648) (by decide +kernel) (by decide +kernel), aw_of (i := 649) (by decide +kernel) (by decide +kernel), aw_of (i := 82) (by decide +kernel) (by decide +kernel), aw_of (i := 650) (by decide +kernel) (by decide +kernel), ⟨by decide +kernel, by decide +kernel⟩, by decide +kernel⟩
theorem cwX5_element : CW 5 yX5_element cX5_element 4 (some .long) 2 := ⟨by decide, rfl, aw_of (i := 794) (by decide +kernel) (by decide +kernel), aw_of (i := 795) (by decide +kernel) (by decide +kernel), aw_of (i := 82) (by decide +kernel) (by decide +kernel), aw_of (i := 796) (by decide +kernel) (by decide +kernel), ⟨by decide +kernel, by decide +kernel⟩, by decide +kernel⟩
theorem cwX5_copy : CW 5 yX5_copy cX5_copy 9 (some .int) 5 := ⟨by decide, rfl, aw_of (i := 657) (by decide +kernel) (by decide +kernel), aw_of (i := 658) (by decide +kernel) (by decide +kernel), aw_of (i := 82) (by decide +kernel) (by decide +kernel), aw_of (i := 659) (by decide +kernel) (by decide +kernel), ⟨by decide +kernel, by decide +kernel⟩, by decide +kernel⟩
theorem cwX5_faith : CW 5 yX5_faith cX5_faith 4 (some .int) 1 := ⟨by decide, rfl, aw_of (i := 666) (by decide +kernel) (by decide +kernel), aw_of (i := 667) (by decide +kernel) (by decide +kernel), aw_of (i := 82) (by decide +kernel) (by decide +kernel), aw_of (i := 668) (by decide +kernel) (by decide +kernel), ⟨by decide +kernel, by decide +kernel⟩, by decide +kernel⟩
theorem cwX5_shelfAt : CW 5 yX5_shelfAt cX5_shelfAt 2 (some (.object "ThreeTimes$Shelf")) 1 := ⟨by decide, rfl, aw_of (i := 314) (by decide +kernel) (by decide +kernel), aw_of (i := 0) (by decide +kernel) (by decide +kernel), aw_of (i := 82) (by decide +kernel) (by decide +kernel), aw_of (i := 315) (by decide +kernel) (by decide +kernel), ⟨by decide +kernel, by decide +kernel⟩, by decide +kernel⟩
theorem cwX5_refusalAsRows : CS yX5_refusalAsRows cX5_refusalAsRows 2 (some .int) 2 := ⟨aw_of (i := 575) (by decide +kernel) (by decide +kernel), aw_of (i := 82) (by decide +kernel) (by decide +kernel), aw_of (i := 576) (by decide +kernel) (by decide +kernel), ⟨by decide +kernel, by decide +kernel⟩, by decide +kernel⟩
theorem cwX5_areThere : CW 5 yX5_areThere cX5_areThere 3 (some .boolean) 2 := ⟨by decide, rfl, aw_of (i := 427) (by decide +kernel) (by decide +kernel), aw_of (i := 20) (by decide +kernel) (by decide +kernel), aw_of (i := 82) (by decide +kernel) (by decide +kernel), aw_of (i := 428) (by decide +kernel) (by decide +kernel), ⟨by decide +kernel, by decide +kernel⟩, by decide +kernel⟩
theorem cwX5_bring : CW 5 yX5_bring cX5_bring 3 none 2 := ⟨by decide, rfl, aw_of (i := 435) (by decide +kernel) (by decide +kernel), aw_of (i := 22) (by decide +kernel) (by decide +kernel), aw_of (i := 82) (by decide +kernel) (by decide +kernel), aw_of (i := 436) (by decide +kernel) (by decide +kernel), ⟨by decide +kernel, by decide +kernel⟩, by decide +kernel⟩
theorem cwX5_bringSender : CW 5 yX5_bringSender cX5_bringSender 2 none 1 := ⟨by decide, rfl, aw_of (i := 439) (by decide +kernel) (by decide +kernel), aw_of (i := 23) (by decide +kernel) (by decide +kernel), aw_of (i := 82) (by decide +kernel) (by decide +kernel), aw_of (i := 440) (by decide +kernel) (by decide +kernel), ⟨by decide +kernel, by decide +kernel⟩, by decide +kernel⟩
theorem cwX5_bringReturner : CW 5 yX5_bringReturner cX5_bringReturner 2 none 1 := ⟨by decide, rfl, aw_of (i := 447) (by decide +kernel) (by decide +kernel), aw_of (i := 25) (by decide +kernel) (by decide +kernel), aw_of (i := 82) (by decide +kernel) (by decide +kernel), aw_of (i := 448) (by decide +kernel) (by decide +kernel), ⟨by decide +kernel, by decide +kernel⟩, by decide +kernel⟩
theorem cwX5_bringSettings : CW 5 yX5_bringSettings cX5_bringSettings 1 none 0 := ⟨by decide, rfl, aw_of (i := 443) (by decide +kernel) (by decide +kernel), aw_of (i := 24) (by decide +kernel) (by decide +kernel), aw_of (i := 82) (by decide +kernel) (by decide +kernel), aw_of (i := 444) (by decide +kernel) (by decide +kernel), ⟨by decide +kernel, by decide +kernel⟩, by decide +kernel⟩
theorem cwX5_bringPastOf : CW 5 yX5_bringPastOf cX5_bringPastOf 2 none 1 := ⟨by decide, rfl, aw_of (i := 402) (by decide +kernel) (by decide +kernel), aw_of (i := 17) (by decide +kernel) (by decide +kernel), aw_of (i := 82) (by decide +kernel) (by decide +kernel), aw_of (i := 403) (by decide +kernel) (by decide +kernel), ⟨by decide +kernel, by decide +kernel⟩, by decide +kernel⟩
theorem cwX5_bringLastOf : CW 5 yX5_bringLastOf cX5_bringLastOf 4 none 2 := ⟨by decide, rfl, aw_of (i := 451) (by decide +kernel) (by decide +kernel), aw_of (i := 26) (by decide +kernel) (by decide +kernel), aw_of (i := 82) (by decide +kernel) (by decide +kernel), aw_of (i := 452) (by decide +kernel) (by decide +kernel), ⟨by decide +kernel, by decide +kernel⟩, by decide +kernel⟩
theorem cwX5_playAndWriteDown : CW 5 yX5_playAndWriteDown cX5_playAndWriteDown 5 (some .int) 3 := ⟨by decide, rfl, aw_of (i := 431) (by decide +kernel) (by decide +kernel), aw_of (i := 21) (by decide +kernel) (by decide +kernel), aw_of (i := 82) (by decide +kernel) (by decide +kernel), aw_of (i := 432) (by decide +kernel) (by decide +kernel), ⟨by decide +kernel, by decide +kernel⟩, by decide +kernel⟩
theorem cwX5_howUnlike : CW 5 yX5_howUnlike cX5_howUnlike 6 (some .int) 4 := ⟨by decide, rfl, aw_of (i := 602) (by decide +kernel) (by decide +kernel), aw_of (i := 42) (by decide +kernel) (by decide +kernel), aw_of (i := 82) (by decide +kernel) (by decide +kernel), aw_of (i := 603) (by decide +kernel) (by decide +kernel), ⟨by decide +kernel, by decide +kernel⟩, by decide +kernel⟩
theorem cwX5_placeOfUntold : CW 5 yX5_placeOfUntold cX5_placeOfUntold 9 (some .int) 1 := ⟨by decide, rfl, aw_of (i := 370) (by decide +kernel) (by decide +kernel), aw_of (i := 13) (by decide +kernel) (by decide +kernel), aw_of (i := 82) (by decide +kernel) (by decide +kernel), aw_of (i := 371) (by decide +kernel) (by decide +kernel), ⟨by decide +kernel, by decide +kernel⟩, by decide +kernel⟩
theorem cwX5_isSenderAsTold : CS yX5_isSenderAsTold cX5_isSenderAsTold 2 (some .boolean) 2 := ⟨aw_of (i := 377) (by decide +kernel) (by decide +kernel), aw_of (i := 82) (by decide +kernel) (by decide +kernel), aw_of (i := 378) (by decide +kernel) (by decide +kernel), ⟨by decide +kernel, by decide +kernel⟩, by decide +kernel⟩
theorem cwX5_isReturnerAsTold : CS yX5_isReturnerAsTold cX5_isReturnerAsTold 2 (some .boolean) 2 := ⟨aw_of (i := 380) (by decide +kernel) (by decide +kernel), aw_of (i := 82) (by decide +kernel) (by decide +kernel), aw_of (i := 381) (by decide +kernel) (by decide +kernel), ⟨by decide +kernel, by decide +kernel⟩, by decide +kernel⟩
theorem cwX5_carryOut : CW 5 yX5_carryOut cX5_carryOut 5 none 2 := ⟨by decide, rfl, aw_of (i := 384) (by decide +kernel) (by decide +kernel), aw_of (i := 15) (by decide +kernel) (by decide +kernel), aw_of (i := 82) (by decide +kernel) (by decide +kernel), aw_of (i := 385) (by decide +kernel) (by decide +kernel), ⟨by decide +kernel, by decide +kernel⟩, by decide +kernel⟩
theorem cwX6_thrown : CW 6 yX6_thrown cX6_thrown 1 (some .int) 0 := ⟨by decide, rfl, aw_of (i := 952) (by decide +kernel) (by decide +kernel), aw_of (i := 953) (by decide +kernel) (by decide +kernel), aw_of (i := 89) (by decide +kernel) (by decide +kernel), aw_of (i := 954) (by decide +kernel) (by decide +kernel), ⟨by decide +kernel, by decide +kernel⟩, by decide +kernel⟩
theorem cwX6_in : CS yX6_in cX6_in 6 (some .boolean) 3 := ⟨aw_of (i := 965) (by decide +kernel) (by decide +kernel), aw_of (i := 89) (by decide +kernel) (by decide +kernel), aw_of (i := 966) (by decide +kernel) (by decide +kernel), ⟨by decide +kernel, by decide +kernel⟩, by decide +kernel⟩
theorem cwX6_far : CS yX6_far cX6_far 1 (some .int) 1 := ⟨aw_of (i := 1104) (by decide +kernel) (by decide +kernel), aw_of (i := 89) (by decide +kernel) (by decide +kernel), aw_of (i := 1105) (by decide +kernel) (by decide +kernel), ⟨by decide +kernel, by decide +kernel⟩, by decide +kernel⟩
theorem cwX6_isSender : CW 6 yX6_isSender cX6_isSender 2 (some .boolean) 1 := ⟨by decide, rfl, aw_of (i := 1005) (by decide +kernel) (by decide +kernel), aw_of (i := 61) (by decide +kernel) (by decide +kernel), aw_of (i := 89) (by decide +kernel) (by decide +kernel), aw_of (i := 1006) (by decide +kernel) (by decide +kernel), ⟨by decide +kernel, by decide +kernel⟩, by decide +kernel⟩
theorem cwX6_isReturner : CW 6 yX6_isReturner cX6_isReturner 2 (some .boolean) 1 := ⟨by decide, rfl, aw_of (i := 1014) (by decide +kernel) (by decide +kernel), aw_of (i := 62) (by decide +kernel) (by decide +kernel), aw_of (i := 89) (by decide +kernel) (by decide +kernel), aw_of (i := 1015) (by decide +kernel) (by decide +kernel), ⟨by decide +kernel, by decide +kernel⟩, by decide +kernel⟩
theorem cwX6_here : CW 6 yX6_here cX6_here 1 (some .int) 0 := ⟨by decide, rfl, aw_of (i := 973) (by decide +kernel) (by decide +kernel), aw_of (i := 55) (by decide +kernel) (by decide +kernel), aw_of (i := 89) (by decide +kernel) (by decide +kernel), aw_of (i := 974) (by decide +kernel) (by decide +kernel), ⟨by decide +kernel, by decide +kernel⟩, by decide +kernel⟩
theorem cwX6_take : CW 6 yX6_take cX6_take 2 none 1 := ⟨by decide, rfl, aw_of (i := 987) (by decide +kernel) (by decide +kernel), aw_of (i := 58) (by decide +kernel) (by decide +kernel), aw_of (i := 89) (by decide +kernel) (by decide +kernel), aw_of (i := 988) (by decide +kernel) (by decide +kernel), ⟨by decide +kernel, by decide +kernel⟩, by decide +kernel⟩
theorem cwX6_readDigit : CW 6 yX6_readDigit cX6_readDigit 1 (some .int) 0 := ⟨by decide, rfl, aw_of (i := 977) (by decide +kernel) (by decide +kernel), aw_of (i := 56) (by decide +kernel) (by decide +kernel), aw_of (i := 89) (by decide +kernel) (by decide +kernel), aw_of (i := 978) (by decide +kernel) (by decide +kernel), ⟨by decide +kernel, by decide +kernel⟩, by decide +kernel⟩
theorem cwX6_readNumber : CW 6 yX6_readNumber cX6_readNumber 3 (some .int) 0 := ⟨by decide, rfl, aw_of (i := 983) (by decide +kernel) (by decide +kernel), aw_of (i := 57) (by decide +kernel) (by decide +kernel), aw_of (i := 89) (by decide +kernel) (by decide +kernel), aw_of (i := 984) (by decide +kernel) (by decide +kernel), ⟨by decide +kernel, by decide +kernel⟩, by decide +kernel⟩
theorem cwX6_readAfter : CW 6 yX6_readAfter cX6_readAfter 2 (some .int) 1 := ⟨by decide, rfl, aw_of (i := 991) (by decide +kernel) (by decide +kernel), aw_of (i := 59) (by decide +kernel) (by decide +kernel), aw_of (i := 89) (by decide +kernel) (by decide +kernel), aw_of (i := 992) (by decide +kernel) (by decide +kernel), ⟨by decide +kernel, by decide +kernel⟩, by decide +kernel⟩
theorem cwX6_readStatement : CW 6 yX6_readStatement cX6_readStatement 3 none 0 := ⟨by decide, rfl, aw_of (i := 969) (by decide +kernel) (by decide +kernel), aw_of (i := 54) (by decide +kernel) (by decide +kernel), aw_of (i := 89) (by decide +kernel) (by decide +kernel), aw_of (i := 970) (by decide +kernel) (by decide +kernel), ⟨by decide +kernel, by decide +kernel⟩, by decide +kernel⟩
theorem cwX6_comes : CW 6 yX6_comes cX6_comes 7 (some .boolean) 1 := ⟨by decide, rfl, aw_of (i := 995) (by decide +kernel) (by decide +kernel), aw_of (i := 60) (by decide +kernel) (by decide +kernel), aw_of (i := 89) (by decide +kernel) (by decide +kernel), aw_of (i := 996) (by decide +kernel) (by decide +kernel), ⟨by decide +kernel, by decide +kernel⟩, by decide +kernel⟩
theorem cwX6_room : CW 6 yX6_room cX6_room 8 (some .int) 1 := ⟨by decide, rfl, aw_of (i := 956) (by decide +kernel) (by decide +kernel), aw_of (i := 957) (by decide +kernel) (by decide +kernel), aw_of (i := 89) (by decide +kernel) (by decide +kernel), aw_of (i := 958) (by decide +kernel) (by decide +kernel), ⟨by decide +kernel, by decide +kernel⟩, by decide +kernel⟩
theorem cwX6_nameOf : CW 6 yX6_nameOf cX6_nameOf 2 (some .int) 1 := ⟨by decide, rfl, aw_of (i := 1018) (by decide +kernel) (by decide +kernel), aw_of (i := 63) (by decide +kernel) (by decide +kernel), aw_of (i := 89) (by decide +kernel) (by decide +kernel), aw_of (i := 1019) (by decide +kernel) (by decide +kernel), ⟨by decide +kernel, by decide +kernel⟩, by decide +kernel⟩
theorem cwX6_sender : CW 6 yX6_sender cX6_sender 3 (some .int) 2 := ⟨by decide, rfl, aw_of (i := 1000) (by decide +kernel) (by decide +kernel), aw_of (i := 1001) (by decide +kernel) (by decide +kernel), aw_of (i := 89) (by decide +kernel) (by decide +kernel), aw_of (i := 1002) (by decide +kernel) (by decide +kernel), ⟨by decide +kernel, by decide +kernel⟩, by decide +kernel⟩
theorem cwX6_returner : CW 6 yX6_returner cX6_returner 3 (some .int) 2 := ⟨by decide, rfl, aw_of (i := 1009) (by decide +kernel) (by decide +kernel), aw_of (i := 1010) (by decide +kernel) (by decide +kernel), aw_of (i := 89) (by decide +kernel) (by decide +kernel), aw_of (i := 1011) (by decide +kernel) (by decide +kernel), ⟨by decide +kernel, by decide +kernel⟩, by decide +kernel⟩
theorem cwX6_set : CW 6 yX6_set cX6_set 4 (some .int) 2 := ⟨by decide, rfl, aw_of (i := 1022) (by decide +kernel) (by decide +kernel), aw_of (i := 1023) (by decide +kernel) (by decide +kernel), aw_of (i := 89) (by decide +kernel) (by decide +kernel), aw_of (i := 1024) (by decide +kernel) (by decide +kernel), ⟨by decide +kernel, by decide +kernel⟩, by decide +kernel⟩
theorem cwX6_holds : CW 6 yX6_holds cX6_holds 4 (some .int) 2 := ⟨by decide, rfl, aw_of (i := 1026) (by decide +kernel) (by decide +kernel), aw_of (i := 1027) (by decide +kernel) (by decide +kernel), aw_of (i := 89) (by decide +kernel) (by decide +kernel), aw_of (i := 1028) (by decide +kernel) (by decide +kernel), ⟨by decide +kernel, by decide +kernel⟩, by decide +kernel⟩
theorem cwX6_draw : CW 6 yX6_draw cX6_draw 1 (some .int) 0 := ⟨by decide, rfl, aw_of (i := 1059) (by decide +kernel) (by decide +kernel), aw_of (i := 70) (by decide +kernel) (by decide +kernel), aw_of (i := 89) (by decide +kernel) (by decide +kernel), aw_of (i := 1060) (by decide +kernel) (by decide +kernel), ⟨by decide +kernel, by decide +kernel⟩, by decide +kernel⟩
theorem cwX6_reckoned : CW 6 yX6_reckoned cX6_reckoned 2 (some .int) 1 := ⟨by decide, rfl, aw_of (i := 1051) (by decide +kernel) (by decide +kernel), aw_of (i := 68) (by decide +kernel) (by decide +kernel), aw_of (i := 89) (by decide +kernel) (by decide +kernel), aw_of (i := 1052) (by decide +kernel) (by decide +kernel), ⟨by decide +kernel, by decide +kernel⟩, by decide +kernel⟩
theorem cwX6_atMost : CW 6 yX6_atMost cX6_atMost 2 (some .int) 1 := ⟨by decide, rfl, aw_of (i := 1055) (by decide +kernel) (by decide +kernel), aw_of (i := 69) (by decide +kernel) (by decide +kernel), aw_of (i := 89) (by decide +kernel) (by decide +kernel), aw_of (i := 1056) (by decide +kernel) (by decide +kernel), ⟨by decide +kernel, by decide +kernel⟩, by decide +kernel⟩
theorem cwX6_sending : CW 6 yX6_sending cX6_sending 8 (some .int) 5 := ⟨by decide, rfl, aw_of (i := 1047) (by decide +kernel) (by decide +kernel), aw_of (i := 67) (by decide +kernel) (by decide +kernel), aw_of (i := 89) (by decide +kernel) (by decide +kernel), aw_of (i := 1048) (by decide +kernel) (by decide +kernel), ⟨by decide +kernel, by decide +kernel⟩, by decide +kernel⟩
theorem cwX6_sendingTo : CW 6 yX6_sendingTo cX6_sendingTo 3 (some .int) 2 := ⟨by decide, rfl, aw_of (i := 1043) (by decide +kernel) (by decide +kernel), aw_of (i := 66) (by decide +kernel) (by decide +kernel), aw_of (i := 89) (by decide +kernel) (by decide +kernel), aw_of (i := 1044) (by decide +kernel) (by decide +kernel), ⟨by decide +kernel, by decide +kernel⟩, by decide +kernel⟩
theorem cwX6_backOf : CW 6 yX6_backOf cX6_backOf 6 (some .int) 4 := ⟨by decide, rfl, aw_of (i := 1066) (by decide +kernel) (by decide +kernel), aw_of (i := 71) (by decide +kernel) (by decide +kernel), aw_of (i := 89) (by decide +kernel) (by decide +kernel), aw_of (i := 1067) (by decide +kernel) (by decide +kernel), ⟨by decide +kernel, by decide +kernel⟩, by decide +kernel⟩
theorem cwX6_pass : CW 6 yX6_pass cX6_pass 6 none 4 := ⟨by decide, rfl, aw_of (i := 1039) (by decide +kernel) (by decide +kernel), aw_of (i := 65) (by decide +kernel) (by decide +kernel), aw_of (i := 89) (by decide +kernel) (by decide +kernel), aw_of (i := 1040) (by decide +kernel) (by decide +kernel), ⟨by decide +kernel, by decide +kernel⟩, by decide +kernel⟩
theorem cwX6_write : CW 6 yX6_write cX6_write 4 none 3 := ⟨by decide, rfl, aw_of (i := 1035) (by decide +kernel) (by decide +kernel), aw_of (i := 64) (by decide +kernel) (by decide +kernel), aw_of (i := 89) (by decide +kernel) (by decide +kernel), aw_of (i := 1036) (by decide +kernel) (by decide +kernel), ⟨by decide +kernel, by decide +kernel⟩, by decide +kernel⟩
theorem cwX6_pair : CW 6 yX6_pair cX6_pair 4 (some .int) 3 := ⟨by decide, rfl, aw_of (i := 1030) (by decide +kernel) (by decide +kernel), aw_of (i := 1031) (by decide +kernel) (by decide +kernel), aw_of (i := 89) (by decide +kernel) (by decide +kernel), aw_of (i := 1032) (by decide +kernel) (by decide +kernel), ⟨by decide +kernel, by decide +kernel⟩, by decide +kernel⟩
theorem cwX6_all : CW 6 yX6_all cX6_all 3 (some .int) 0 := ⟨by decide, rfl, aw_of (i := 1069) (by decide +kernel) (by decide +kernel), aw_of (i := 1070) (by decide +kernel) (by decide +kernel), aw_of (i := 89) (by decide +kernel) (by decide +kernel), aw_of (i := 1071) (by decide +kernel) (by decide +kernel), ⟨by decide +kernel, by decide +kernel⟩, by decide +kernel⟩
theorem cwX6_of : CW 6 yX6_of cX6_of 3 (some .int) 2 := ⟨by decide, rfl, aw_of (i := 1073) (by decide +kernel) (by decide +kernel), aw_of (i := 1074) (by decide +kernel) (by decide +kernel), aw_of (i := 89) (by decide +kernel) (by decide +kernel), aw_of (i := 1075) (by decide +kernel) (by decide +kernel), ⟨by decide +kernel, by decide +kernel⟩, by decide +kernel⟩
theorem cwX6_sumSent : CW 6 yX6_sumSent cX6_sumSent 6 (some .int) 2 := ⟨by decide, rfl, aw_of (i := 1077) (by decide +kernel) (by decide +kernel), aw_of (i := 1078) (by decide +kernel) (by decide +kernel), aw_of (i := 89) (by decide +kernel) (by decide +kernel), aw_of (i := 1079) (by decide +kernel) (by decide +kernel), ⟨by decide +kernel, by decide +kernel⟩, by decide +kernel⟩
theorem cwX6_sumCame : CW 6 yX6_sumCame cX6_sumCame 6 (some .int) 2 := ⟨by decide, rfl, aw_of (i := 1081) (by decide +kernel) (by decide +kernel), aw_of (i := 1082) (by decide +kernel) (by decide +kernel), aw_of (i := 89) (by decide +kernel) (by decide +kernel), aw_of (i := 1083) (by decide +kernel) (by decide +kernel), ⟨by decide +kernel, by decide +kernel⟩, by decide +kernel⟩
theorem cwX6_judge : CW 6 yX6_judge cX6_judge 9 (some .int) 1 := ⟨by decide, rfl, aw_of (i := 1085) (by decide +kernel) (by decide +kernel), aw_of (i := 1086) (by decide +kernel) (by decide +kernel), aw_of (i := 89) (by decide +kernel) (by decide +kernel), aw_of (i := 1087) (by decide +kernel) (by decide +kernel), ⟨by decide +kernel, by decide +kernel⟩, by decide +kernel⟩
theorem cwX6_sends : CW 6 yX6_sends cX6_sends 5 (some .int) 2 := ⟨by decide, rfl, aw_of (i := 1092) (by decide +kernel) (by decide +kernel), aw_of (i := 1093) (by decide +kernel) (by decide +kernel), aw_of (i := 89) (by decide +kernel) (by decide +kernel), aw_of (i := 1094) (by decide +kernel) (by decide +kernel), ⟨by decide +kernel, by decide +kernel⟩, by decide +kernel⟩
theorem cwX6_back : CW 6 yX6_back cX6_back 6 (some .int) 3 := ⟨by decide, rfl, aw_of (i := 1096) (by decide +kernel) (by decide +kernel), aw_of (i := 1097) (by decide +kernel) (by decide +kernel), aw_of (i := 89) (by decide +kernel) (by decide +kernel), aw_of (i := 1098) (by decide +kernel) (by decide +kernel), ⟨by decide +kernel, by decide +kernel⟩, by decide +kernel⟩
theorem cwX6_held : CW 6 yX6_held cX6_held 3 (some .int) 2 := ⟨by decide, rfl, aw_of (i := 1100) (by decide +kernel) (by decide +kernel), aw_of (i := 1101) (by decide +kernel) (by decide +kernel), aw_of (i := 89) (by decide +kernel) (by decide +kernel), aw_of (i := 1102) (by decide +kernel) (by decide +kernel), ⟨by decide +kernel, by decide +kernel⟩, by decide +kernel⟩
theorem cwX6_trust : CW 6 yX6_trust cX6_trust 6 (some .int) 2 := ⟨by decide, rfl, aw_of (i := 1108) (by decide +kernel) (by decide +kernel), aw_of (i := 1109) (by decide +kernel) (by decide +kernel), aw_of (i := 89) (by decide +kernel) (by decide +kernel), aw_of (i := 1110) (by decide +kernel) (by decide +kernel), ⟨by decide +kernel, by decide +kernel⟩, by decide +kernel⟩
theorem cwX6_giving : CW 6 yX6_giving cX6_giving 4 (some .int) 1 := ⟨by decide, rfl, aw_of (i := 1112) (by decide +kernel) (by decide +kernel), aw_of (i := 1113) (by decide +kernel) (by decide +kernel), aw_of (i := 89) (by decide +kernel) (by decide +kernel), aw_of (i := 1114) (by decide +kernel) (by decide +kernel), ⟨by decide +kernel, by decide +kernel⟩, by decide +kernel⟩
theorem cwX6_best : CW 6 yX6_best cX6_best 9 (some .int) 2 := ⟨by decide, rfl, aw_of (i := 1116) (by decide +kernel) (by decide +kernel), aw_of (i := 1117) (by decide +kernel) (by decide +kernel), aw_of (i := 89) (by decide +kernel) (by decide +kernel), aw_of (i := 1118) (by decide +kernel) (by decide +kernel), ⟨by decide +kernel, by decide +kernel⟩, by decide +kernel⟩
theorem cwX6_hasWith : CW 6 yX6_hasWith cX6_hasWith 11 (some .int) 4 := ⟨by decide, rfl, aw_of (i := 1125) (by decide +kernel) (by decide +kernel), aw_of (i := 72) (by decide +kernel) (by decide +kernel), aw_of (i := 89) (by decide +kernel) (by decide +kernel), aw_of (i := 1126) (by decide +kernel) (by decide +kernel), ⟨by decide +kernel, by decide +kernel⟩, by decide +kernel⟩
theorem cwX6_worth : CW 6 yX6_worth cX6_worth 4 (some .int) 3 := ⟨by decide, rfl, aw_of (i := 1120) (by decide +kernel) (by decide +kernel), aw_of (i := 1121) (by decide +kernel) (by decide +kernel), aw_of (i := 89) (by decide +kernel) (by decide +kernel), aw_of (i := 1122) (by decide +kernel) (by decide +kernel), ⟨by decide +kernel, by decide +kernel⟩, by decide +kernel⟩
theorem cwX6_promise : CW 6 yX6_promise cX6_promise 7 (some .int) 3 := ⟨by decide, rfl, aw_of (i := 1128) (by decide +kernel) (by decide +kernel), aw_of (i := 1129) (by decide +kernel) (by decide +kernel), aw_of (i := 89) (by decide +kernel) (by decide +kernel), aw_of (i := 1130) (by decide +kernel) (by decide +kernel), ⟨by decide +kernel, by decide +kernel⟩, by decide +kernel⟩
theorem cwX6_lastTurn : CW 6 yX6_lastTurn cX6_lastTurn 8 (some .int) 3 := ⟨by decide, rfl, aw_of (i := 1132) (by decide +kernel) (by decide +kernel), aw_of (i := 1133) (by decide +kernel) (by decide +kernel), aw_of (i := 89) (by decide +kernel) (by decide +kernel), aw_of (i := 1134) (by decide +kernel) (by decide +kernel), ⟨by decide +kernel, by decide +kernel⟩, by decide +kernel⟩
theorem cwX6_wrongTwo : CW 6 yX6_wrongTwo cX6_wrongTwo 3 (some .int) 2 := ⟨by decide, rfl, aw_of (i := 1142) (by decide +kernel) (by decide +kernel), aw_of (i := 73) (by decide +kernel) (by decide +kernel), aw_of (i := 89) (by decide +kernel) (by decide +kernel), aw_of (i := 1143) (by decide +kernel) (by decide +kernel), ⟨by decide +kernel, by decide +kernel⟩, by decide +kernel⟩
theorem cwX6_areSendings : CW 6 yX6_areSendings cX6_areSendings 4 (some .boolean) 1 := ⟨by decide, rfl, aw_of (i := 1146) (by decide +kernel) (by decide +kernel), aw_of (i := 74) (by decide +kernel) (by decide +kernel), aw_of (i := 89) (by decide +kernel) (by decide +kernel), aw_of (i := 1147) (by decide +kernel) (by decide +kernel), ⟨by decide +kernel, by decide +kernel⟩, by decide +kernel⟩
theorem cwX6_sumOf : CW 6 yX6_sumOf cX6_sumOf 4 (some .int) 1 := ⟨by decide, rfl, aw_of (i := 1150) (by decide +kernel) (by decide +kernel), aw_of (i := 75) (by decide +kernel) (by decide +kernel), aw_of (i := 89) (by decide +kernel) (by decide +kernel), aw_of (i := 1151) (by decide +kernel) (by decide +kernel), ⟨by decide +kernel, by decide +kernel⟩, by decide +kernel⟩
theorem cwX6_lands : CW 6 yX6_lands cX6_lands 3 (some .int) 2 := ⟨by decide, rfl, aw_of (i := 1137) (by decide +kernel) (by decide +kernel), aw_of (i := 1138) (by decide +kernel) (by decide +kernel), aw_of (i := 89) (by decide +kernel) (by decide +kernel), aw_of (i := 1139) (by decide +kernel) (by decide +kernel), ⟨by decide +kernel, by decide +kernel⟩, by decide +kernel⟩
theorem cwX6_signOf : CW 6 yX6_signOf cX6_signOf 8 (some .int) 3 := ⟨by decide, rfl, aw_of (i := 1158) (by decide +kernel) (by decide +kernel), aw_of (i := 76) (by decide +kernel) (by decide +kernel), aw_of (i := 89) (by decide +kernel) (by decide +kernel), aw_of (i := 1159) (by decide +kernel) (by decide +kernel), ⟨by decide +kernel, by decide +kernel⟩, by decide +kernel⟩
theorem cwX6_words : CW 6 yX6_words cX6_words 6 (some .int) 2 := ⟨by decide, rfl, aw_of (i := 1153) (by decide +kernel) (by decide +kernel), aw_of (i := 1154) (by decide +kernel) (by decide +kernel), aw_of (i := 89) (by decide +kernel) (by decide +kernel), aw_of (i := 1155) (by decide +kernel) (by decide +kernel), ⟨by decide +kernel, by decide +kernel⟩, by decide +kernel⟩
theorem cwX6_parts : CW 6 yX6_parts cX6_parts 12 (some .int) 4 := ⟨by decide, rfl, aw_of (i := 1161) (by decide +kernel) (by decide +kernel), aw_of (i := 1162) (by decide +kernel) (by decide +kernel), aw_of (i := 89) (by decide +kernel) (by decide +kernel), aw_of (i := 1163) (by decide +kernel) (by decide +kernel), ⟨by decide +kernel, by decide +kernel⟩, by decide +kernel⟩
theorem cwX6_carry : CW 6 yX6_carry cX6_carry 2 (some .int) 1 := ⟨by decide, rfl, aw_of (i := 1174) (by decide +kernel) (by decide +kernel), aw_of (i := 78) (by decide +kernel) (by decide +kernel), aw_of (i := 89) (by decide +kernel) (by decide +kernel), aw_of (i := 1175) (by decide +kernel) (by decide +kernel), ⟨by decide +kernel, by decide +kernel⟩, by decide +kernel⟩
theorem cwX6_carryAll : CW 6 yX6_carryAll cX6_carryAll 2 none 0 := ⟨by decide, rfl, aw_of (i := 1170) (by decide +kernel) (by decide +kernel), aw_of (i := 77) (by decide +kernel) (by decide +kernel), aw_of (i := 89) (by decide +kernel) (by decide +kernel), aw_of (i := 1171) (by decide +kernel) (by decide +kernel), ⟨by decide +kernel, by decide +kernel⟩, by decide +kernel⟩
theorem cwX6_image : CW 6 yX6_image cX6_image 1 (some .int) 0 := ⟨by decide, rfl, aw_of (i := 1165) (by decide +kernel) (by decide +kernel), aw_of (i := 1166) (by decide +kernel) (by decide +kernel), aw_of (i := 89) (by decide +kernel) (by decide +kernel), aw_of (i := 1167) (by decide +kernel) (by decide +kernel), ⟨by decide +kernel, by decide +kernel⟩, by decide +kernel⟩
theorem cwX6_restore : CW 6 yX6_restore cX6_restore 1 (some .int) 0 := ⟨by decide, rfl, aw_of (i := 1177) (by decide +kernel) (by decide +kernel), aw_of (i := 1178) (by decide +kernel) (by decide +kernel), aw_of (i := 89) (by decide +kernel) (by decide +kernel), aw_of (i := 1179) (by decide +kernel) (by decide +kernel), ⟨by decide +kernel, by decide +kernel⟩, by decide +kernel⟩
theorem cwX6_count : CW 6 yX6_count cX6_count 5 (some .int) 1 := ⟨by decide, rfl, aw_of (i := 1181) (by decide +kernel) (by decide +kernel), aw_of (i := 1182) (by decide +kernel) (by decide +kernel), aw_of (i := 89) (by decide +kernel) (by decide +kernel), aw_of (i := 1183) (by decide +kernel) (by decide +kernel), ⟨by decide +kernel, by decide +kernel⟩, by decide +kernel⟩
theorem cwX6_keep : CW 6 yX6_keep cX6_keep 4 (some .int) 3 := ⟨by decide, rfl, aw_of (i := 1185) (by decide +kernel) (by decide +kernel), aw_of (i := 1186) (by decide +kernel) (by decide +kernel), aw_of (i := 89) (by decide +kernel) (by decide +kernel), aw_of (i := 1187) (by decide +kernel) (by decide +kernel), ⟨by decide +kernel, by decide +kernel⟩, by decide +kernel⟩
theorem cwX6_wrongRow : CW 6 yX6_wrongRow cX6_wrongRow 2 (some .int) 1 := ⟨by decide, rfl, aw_of (i := 961) (by decide +kernel) (by decide +kernel), aw_of (i := 53) (by decide +kernel) (by decide +kernel), aw_of (i := 89) (by decide +kernel) (by decide +kernel), aw_of (i := 962) (by decide +kernel) (by decide +kernel), ⟨by decide +kernel, by decide +kernel⟩, by decide +kernel⟩
theorem cwX6_narrowed : CS yX6_narrowed cX6_narrowed 2 (some .long) 2 := ⟨aw_of (i := 1197) (by decide +kernel) (by decide +kernel), aw_of (i := 89) (by decide +kernel) (by decide +kernel), aw_of (i := 1198) (by decide +kernel) (by decide +kernel), ⟨by decide +kernel, by decide +kernel⟩, by decide +kernel⟩
theorem cwX6_row : CW 6 yX6_row cX6_row 5 (some .int) 3 := ⟨by decide, rfl, aw_of (i := 1189) (by decide +kernel) (by decide +kernel), aw_of (i := 1190) (by decide +kernel) (by decide +kernel), aw_of (i := 89) (by decide +kernel) (by decide +kernel), aw_of (i := 1191) (by decide +kernel) (by decide +kernel), ⟨by decide +kernel, by decide +kernel⟩, by decide +kernel⟩
theorem cwX6_put : CW 6 yX6_put cX6_put 5 (some .int) 3 := ⟨by decide, rfl, aw_of (i := 1193) (by decide +kernel) (by decide +kernel), aw_of (i := 1194) (by decide +kernel) (by decide +kernel), aw_of (i := 89) (by decide +kernel) (by decide +kernel), aw_of (i := 1195) (by decide +kernel) (by decide +kernel), ⟨by decide +kernel, by decide +kernel⟩, by decide +kernel⟩
theorem cwX6_element : CW 6 yX6_element cX6_element 4 (some .long) 2 := ⟨by decide, rfl, aw_of (i := 1200) (by decide +kernel) (by decide +kernel), aw_of (i := 1201) (by decide +kernel) (by decide +kernel), aw_of (i := 89) (by decide +kernel) (by decide +kernel), aw_of (i := 1202) (by decide +kernel) (by decide +kernel), ⟨by decide +kernel, by decide +kernel⟩, by decide +kernel⟩
theorem cwX6_copy : CW 6 yX6_copy cX6_copy 7 (some .int) 5 := ⟨by decide, rfl, aw_of (i := 1204) (by decide +kernel) (by decide +kernel), aw_of (i := 1205) (by decide +kernel) (by decide +kernel), aw_of (i := 89) (by decide +kernel) (by decide +kernel), aw_of (i := 1206) (by decide +kernel) (by decide +kernel), ⟨by decide +kernel, by decide +kernel⟩, by decide +kernel⟩
theorem cwX6_wrongShelf : CW 6 yX6_wrongShelf cX6_wrongShelf 2 (some .int) 1 := ⟨by decide, rfl, aw_of (i := 1213) (by decide +kernel) (by decide +kernel), aw_of (i := 79) (by decide +kernel) (by decide +kernel), aw_of (i := 89) (by decide +kernel) (by decide +kernel), aw_of (i := 1214) (by decide +kernel) (by decide +kernel), ⟨by decide +kernel, by decide +kernel⟩, by decide +kernel⟩
theorem cwX6_faithOf : CW 6 yX6_faithOf cX6_faithOf 4 (some .int) 1 := ⟨by decide, rfl, aw_of (i := 1217) (by decide +kernel) (by decide +kernel), aw_of (i := 80) (by decide +kernel) (by decide +kernel), aw_of (i := 89) (by decide +kernel) (by decide +kernel), aw_of (i := 1218) (by decide +kernel) (by decide +kernel), ⟨by decide +kernel, by decide +kernel⟩, by decide +kernel⟩
theorem cwX6_faith : CW 6 yX6_faith cX6_faith 2 (some .int) 1 := ⟨by decide, rfl, aw_of (i := 1208) (by decide +kernel) (by decide +kernel), aw_of (i := 1209) (by decide +kernel) (by decide +kernel), aw_of (i := 89) (by decide +kernel) (by decide +kernel), aw_of (i := 1210) (by decide +kernel) (by decide +kernel), ⟨by decide +kernel, by decide +kernel⟩, by decide +kernel⟩
theorem cwX6_toss : CW 6 yX6_toss cX6_toss 2 (some .int) 1 := ⟨by decide, rfl, aw_of (i := 1220) (by decide +kernel) (by decide +kernel), aw_of (i := 1221) (by decide +kernel) (by decide +kernel), aw_of (i := 89) (by decide +kernel) (by decide +kernel), aw_of (i := 1222) (by decide +kernel) (by decide +kernel), ⟨by decide +kernel, by decide +kernel⟩, by decide +kernel⟩
theorem lk7_21 : LK 7 21 yX5_room := Or.inl (aw_of (i := 308) (by decide +kernel) (by decide +kernel))
theorem lk5_44 : LK 5 44 yX5_shelfAt := Or.inl (aw_of (i := 312) (by decide +kernel) (by decide +kernel))
theorem lk5_48 : LK 5 48 yX3_refusalAsRow := Or.inr (nw_of (i := 316) (by decide +kernel) (by decide +kernel))
theorem lk5_56 : LK 5 56 yX2_takesIn := Or.inr (nw_of (i := 320) (by decide +kernel) (by decide +kernel))
theorem lk2_30 : LK 2 30 yX2_takesStatement := Or.inl (aw_of (i := 324) (by decide +kernel) (by decide +kernel))
theorem lk2_34 : LK 2 34 yX3_read := Or.inr (nw_of (i := 328) (by decide +kernel) (by decide +kernel))
theorem lk3_25 : LK 3 25 yX3_has := Or.inl (aw_of (i := 332) (by decide +kernel) (by decide +kernel))
theorem lk2_38 : LK 2 38 yX4_open := Or.inr (nw_of (i := 336) (by decide +kernel) (by decide +kernel))
theorem lk4_32 : LK 4 32 yX4_write := Or.inl (aw_of (i := 340) (by decide +kernel) (by decide +kernel))
theorem lk4_29 : LK 4 29 yX4_placeOf := Or.inl (aw_of (i := 344) (by decide +kernel) (by decide +kernel))
theorem lk2_42 : LK 2 42 yX4_write := Or.inr (nw_of (i := 348) (by decide +kernel) (by decide +kernel))
theorem lk2_46 : LK 2 46 yX2_takesDigit := Or.inl (aw_of (i := 349) (by decide +kernel) (by decide +kernel))
theorem lk2_61 : Jvm.Cond.methodLink (RN 2) 61 yX2_digitOf ∈ AW := aw_of (i := 353) (by decide +kernel) (by decide +kernel)
theorem lk2_50 : LK 2 50 yX2_takes := Or.inl (aw_of (i := 356) (by decide +kernel) (by decide +kernel))
theorem lk2_53 : LK 2 53 yX2_takesNumber := Or.inl (aw_of (i := 360) (by decide +kernel) (by decide +kernel))
theorem lk2_57 : LK 2 57 yX2_takesPart := Or.inl (aw_of (i := 364) (by decide +kernel) (by decide +kernel))
theorem lk5_67 : LK 5 67 yX5_placeOfUntold := Or.inl (aw_of (i := 368) (by decide +kernel) (by decide +kernel))
theorem lk5_87 : LK 5 87 yX4_read := Or.inr (nw_of (i := 372) (by decide +kernel) (by decide +kernel))
theorem lk5_303 : Jvm.Cond.methodLink (RN 5) 303 yX5_isSenderAsTold ∈ AW := aw_of (i := 376) (by decide +kernel) (by decide +kernel)
theorem lk5_307 : Jvm.Cond.methodLink (RN 5) 307 yX5_isReturnerAsTold ∈ AW := aw_of (i := 379) (by decide +kernel) (by decide +kernel)
theorem lk5_76 : LK 5 76 yX5_carryOut := Or.inl (aw_of (i := 382) (by decide +kernel) (by decide +kernel))
theorem lk5_289 : LK 5 289 yX4_open := Or.inr (nw_of (i := 386) (by decide +kernel) (by decide +kernel))
theorem lk5_113 : LK 5 113 yX4_write := Or.inr (nw_of (i := 387) (by decide +kernel) (by decide +kernel))
theorem lk7_26 : LK 7 26 yX5_sender := Or.inl (aw_of (i := 388) (by decide +kernel) (by decide +kernel))
theorem lk5_83 : LK 5 83 yX4_has := Or.inr (nw_of (i := 392) (by decide +kernel) (by decide +kernel))
theorem lk7_31 : LK 7 31 yX5_returner := Or.inl (aw_of (i := 396) (by decide +kernel) (by decide +kernel))
theorem lk5_94 : LK 5 94 yX5_bringPastOf := Or.inl (aw_of (i := 400) (by decide +kernel) (by decide +kernel))
theorem lk5_125 : LK 5 125 yX4_sumWhere := Or.inr (nw_of (i := 404) (by decide +kernel) (by decide +kernel))
theorem lk4_36 : LK 4 36 yX4_read := Or.inl (aw_of (i := 408) (by decide +kernel) (by decide +kernel))
theorem lk5_98 : LK 5 98 yX1_nameOfReturner := Or.inr (nw_of (i := 409) (by decide +kernel) (by decide +kernel))
theorem lk7_35 : LK 7 35 yX5_set := Or.inl (aw_of (i := 413) (by decide +kernel) (by decide +kernel))
theorem lk7_39 : LK 7 39 yX5_holds := Or.inl (aw_of (i := 417) (by decide +kernel) (by decide +kernel))
theorem lk7_43 : LK 7 43 yX5_pair := Or.inl (aw_of (i := 421) (by decide +kernel) (by decide +kernel))
theorem lk5_117 : LK 5 117 yX5_areThere := Or.inl (aw_of (i := 425) (by decide +kernel) (by decide +kernel))
theorem lk5_121 : LK 5 121 yX5_playAndWriteDown := Or.inl (aw_of (i := 429) (by decide +kernel) (by decide +kernel))
theorem lk5_139 : LK 5 139 yX5_bring := Or.inl (aw_of (i := 433) (by decide +kernel) (by decide +kernel))
theorem lk5_161 : LK 5 161 yX5_bringSender := Or.inl (aw_of (i := 437) (by decide +kernel) (by decide +kernel))
theorem lk5_262 : LK 5 262 yX5_bringSettings := Or.inl (aw_of (i := 441) (by decide +kernel) (by decide +kernel))
theorem lk5_146 : LK 5 146 yX5_bringReturner := Or.inl (aw_of (i := 445) (by decide +kernel) (by decide +kernel))
theorem lk5_259 : LK 5 259 yX5_bringLastOf := Or.inl (aw_of (i := 449) (by decide +kernel) (by decide +kernel))
theorem lk5_285 : LK 5 285 yX1_play := Or.inr (nw_of (i := 453) (by decide +kernel) (by decide +kernel))
theorem lk1_70 : LK 1 70 yX1_sendNow := Or.inl (aw_of (i := 457) (by decide +kernel) (by decide +kernel))
theorem lk1_32 : LK 1 32 yX1_allIfHeld := Or.inl (aw_of (i := 461) (by decide +kernel) (by decide +kernel))
theorem lk1_51 : LK 1 51 yX1_nameOfReturner := Or.inl (aw_of (i := 468) (by decide +kernel) (by decide +kernel))
theorem lk1_55 : LK 1 55 yX1_allByLot := Or.inl (aw_of (i := 469) (by decide +kernel) (by decide +kernel))
theorem lk1_67 : LK 1 67 yX1_draw := Or.inl (aw_of (i := 473) (by decide +kernel) (by decide +kernel))
theorem lk1_88 : LK 1 88 yX1_sendBackOf := Or.inl (aw_of (i := 480) (by decide +kernel) (by decide +kernel))
theorem lk7_48 : LK 7 48 yX5_all := Or.inl (aw_of (i := 484) (by decide +kernel) (by decide +kernel))
theorem lk7_53 : LK 7 53 yX5_of := Or.inl (aw_of (i := 488) (by decide +kernel) (by decide +kernel))
theorem lk7_57 : LK 7 57 yX5_sumSent := Or.inl (aw_of (i := 492) (by decide +kernel) (by decide +kernel))
theorem lk5_129 : LK 5 129 yX4_rowsWhere := Or.inr (nw_of (i := 496) (by decide +kernel) (by decide +kernel))
theorem lk7_61 : LK 7 61 yX5_sumCame := Or.inl (aw_of (i := 500) (by decide +kernel) (by decide +kernel))
theorem lk7_65 : LK 7 65 yX5_judge := Or.inl (aw_of (i := 504) (by decide +kernel) (by decide +kernel))
theorem lk5_132 : LK 5 132 yX3_leastNumber := Or.inr (nw_of (i := 508) (by decide +kernel) (by decide +kernel))
theorem lk5_136 : LK 5 136 yX3_read := Or.inr (nw_of (i := 513) (by decide +kernel) (by decide +kernel))
theorem lk7_69 : LK 7 69 yX5_sends := Or.inl (aw_of (i := 514) (by decide +kernel) (by decide +kernel))
theorem lk5_143 : LK 5 143 yX1_wouldSend := Or.inr (nw_of (i := 518) (by decide +kernel) (by decide +kernel))
theorem lk7_73 : LK 7 73 yX5_back := Or.inl (aw_of (i := 522) (by decide +kernel) (by decide +kernel))
theorem lk5_149 : LK 5 149 yX1_sendBackOf := Or.inr (nw_of (i := 526) (by decide +kernel) (by decide +kernel))
theorem lk7_77 : LK 7 77 yX5_held := Or.inl (aw_of (i := 527) (by decide +kernel) (by decide +kernel))
theorem lk7_81 : LK 7 81 yX5_trust := Or.inl (aw_of (i := 533) (by decide +kernel) (by decide +kernel))
theorem lk7_85 : LK 7 85 yX5_giving := Or.inl (aw_of (i := 537) (by decide +kernel) (by decide +kernel))
theorem lk5_164 : LK 5 164 yX1_faceOneWhoKeepsAll := Or.inr (nw_of (i := 541) (by decide +kernel) (by decide +kernel))
theorem lk7_89 : LK 7 89 yX5_best := Or.inl (aw_of (i := 545) (by decide +kernel) (by decide +kernel))
theorem lk5_167 : LK 5 167 yX1_senderHasBy := Or.inr (nw_of (i := 549) (by decide +kernel) (by decide +kernel))
theorem lk7_93 : LK 7 93 yX5_worth := Or.inl (aw_of (i := 553) (by decide +kernel) (by decide +kernel))
theorem lk5_170 : LK 5 170 yX1_keptOver := Or.inr (nw_of (i := 557) (by decide +kernel) (by decide +kernel))
theorem lk1_92 : LK 1 92 yX1_play := Or.inl (aw_of (i := 561) (by decide +kernel) (by decide +kernel))
theorem lk7_98 : LK 7 98 yX5_promise := Or.inl (aw_of (i := 562) (by decide +kernel) (by decide +kernel))
theorem lk7_102 : LK 7 102 yX5_lastTurn := Or.inl (aw_of (i := 566) (by decide +kernel) (by decide +kernel))
theorem lk7_106 : LK 7 106 yX5_lands := Or.inl (aw_of (i := 570) (by decide +kernel) (by decide +kernel))
theorem lk5_179 : Jvm.Cond.methodLink (RN 5) 179 yX5_refusalAsRows ∈ AW := aw_of (i := 574) (by decide +kernel) (by decide +kernel)
theorem lk5_184 : LK 5 184 yX3_isOfSendings := Or.inr (nw_of (i := 578) (by decide +kernel) (by decide +kernel))
theorem lk3_32 : LK 3 32 yX3_read := Or.inl (aw_of (i := 582) (by decide +kernel) (by decide +kernel))
theorem lk5_188 : LK 5 188 yX3_sum := Or.inr (nw_of (i := 584) (by decide +kernel) (by decide +kernel))
theorem lk7_110 : LK 7 110 yX5_words := Or.inl (aw_of (i := 588) (by decide +kernel) (by decide +kernel))
theorem lk5_191 : LK 5 191 yX3_signOf := Or.inr (nw_of (i := 592) (by decide +kernel) (by decide +kernel))
theorem lk7_114 : LK 7 114 yX5_parts := Or.inl (aw_of (i := 596) (by decide +kernel) (by decide +kernel))
theorem lk5_194 : LK 5 194 yX5_howUnlike := Or.inl (aw_of (i := 600) (by decide +kernel) (by decide +kernel))
theorem lk7_119 : LK 7 119 yX5_image := Or.inl (aw_of (i := 607) (by decide +kernel) (by decide +kernel))
theorem lk5_198 : LK 5 198 yX0_become := Or.inr (nw_of (i := 611) (by decide +kernel) (by decide +kernel))
theorem lk0_36 : LK 0 36 yX4_become := Or.inr (nw_of (i := 615) (by decide +kernel) (by decide +kernel))
theorem lk7_123 : LK 7 123 yX5_restore := Or.inl (aw_of (i := 623) (by decide +kernel) (by decide +kernel))
theorem lk7_127 : LK 7 127 yX5_count := Or.inl (aw_of (i := 627) (by decide +kernel) (by decide +kernel))
theorem lk5_202 : LK 5 202 yX4_sum := Or.inr (nw_of (i := 631) (by decide +kernel) (by decide +kernel))
theorem lk7_131 : LK 7 131 yX5_keep := Or.inl (aw_of (i := 635) (by decide +kernel) (by decide +kernel))
theorem lk7_135 : LK 7 135 yX5_row := Or.inl (aw_of (i := 639) (by decide +kernel) (by decide +kernel))
theorem lk5_217 : LK 5 217 yX3_becomeRow := Or.inr (nw_of (i := 643) (by decide +kernel) (by decide +kernel))
theorem lk7_139 : LK 7 139 yX5_put := Or.inl (aw_of (i := 647) (by decide +kernel) (by decide +kernel))
theorem lk5_220 : LK 5 220 yX3_has := Or.inr (nw_of (i := 651) (by decide +kernel) (by decide +kernel))
theorem lk5_221 : LK 5 221 yX3_write := Or.inr (nw_of (i := 652) (by decide +kernel) (by decide +kernel))
theorem lk7_152 : LK 7 152 yX5_copy := Or.inl (aw_of (i := 656) (by decide +kernel) (by decide +kernel))
theorem lk5_235 : LK 5 235 yX3_hasRun := Or.inr (nw_of (i := 660) (by decide +kernel) (by decide +kernel))
theorem lk7_157 : LK 7 157 yX5_faith := Or.inl (aw_of (i := 665) (by decide +kernel) (by decide +kernel))
theorem lk5_248 : LK 5 248 yX3_refusalAsSender := Or.inr (nw_of (i := 669) (by decide +kernel) (by decide +kernel))
theorem lk5_251 : LK 5 251 yX3_faithOfSender := Or.inr (nw_of (i := 673) (by decide +kernel) (by decide +kernel))
theorem lk7_161 : LK 7 161 yX5_toss := Or.inl (aw_of (i := 677) (by decide +kernel) (by decide +kernel))
theorem lk5_254 : LK 5 254 yX3_throwFailure := Or.inr (nw_of (i := 684) (by decide +kernel) (by decide +kernel))
theorem lk7_143 : Jvm.Cond.methodLink (RN 7) 143 yL_element ∈ AW := aw_of (i := 788) (by decide +kernel) (by decide +kernel)
theorem lk7_7 : LK 7 7 yX5_element := Or.inl (aw_of (i := 793) (by decide +kernel) (by decide +kernel))
theorem lk7_149 : LK 7 149 yX6_thrown := Or.inl (aw_of (i := 951) (by decide +kernel) (by decide +kernel))
theorem lk7_25 : LK 7 25 yX6_room := Or.inl (aw_of (i := 955) (by decide +kernel) (by decide +kernel))
theorem lk6_171 : LK 6 171 yX6_wrongRow := Or.inl (aw_of (i := 959) (by decide +kernel) (by decide +kernel))
theorem lk6_119 : Jvm.Cond.methodLink (RN 6) 119 yX6_in ∈ AW := aw_of (i := 964) (by decide +kernel) (by decide +kernel)
theorem lk6_174 : LK 6 174 yX6_readStatement := Or.inl (aw_of (i := 967) (by decide +kernel) (by decide +kernel))
theorem lk6_139 : LK 6 139 yX6_here := Or.inl (aw_of (i := 971) (by decide +kernel) (by decide +kernel))
theorem lk6_147 : LK 6 147 yX6_readDigit := Or.inl (aw_of (i := 975) (by decide +kernel) (by decide +kernel))
theorem lk6_150 : LK 6 150 yX6_readNumber := Or.inl (aw_of (i := 981) (by decide +kernel) (by decide +kernel))
theorem lk6_156 : LK 6 156 yX6_take := Or.inl (aw_of (i := 985) (by decide +kernel) (by decide +kernel))
theorem lk6_160 : LK 6 160 yX6_readAfter := Or.inl (aw_of (i := 989) (by decide +kernel) (by decide +kernel))
theorem lk6_177 : LK 6 177 yX6_comes := Or.inl (aw_of (i := 993) (by decide +kernel) (by decide +kernel))
theorem lk7_30 : LK 7 30 yX6_sender := Or.inl (aw_of (i := 999) (by decide +kernel) (by decide +kernel))
theorem lk6_183 : LK 6 183 yX6_isSender := Or.inl (aw_of (i := 1003) (by decide +kernel) (by decide +kernel))
theorem lk7_34 : LK 7 34 yX6_returner := Or.inl (aw_of (i := 1008) (by decide +kernel) (by decide +kernel))
theorem lk6_188 : LK 6 188 yX6_isReturner := Or.inl (aw_of (i := 1012) (by decide +kernel) (by decide +kernel))
theorem lk6_191 : LK 6 191 yX6_nameOf := Or.inl (aw_of (i := 1016) (by decide +kernel) (by decide +kernel))
theorem lk7_38 : LK 7 38 yX6_set := Or.inl (aw_of (i := 1021) (by decide +kernel) (by decide +kernel))
theorem lk7_42 : LK 7 42 yX6_holds := Or.inl (aw_of (i := 1025) (by decide +kernel) (by decide +kernel))
theorem lk7_47 : LK 7 47 yX6_pair := Or.inl (aw_of (i := 1029) (by decide +kernel) (by decide +kernel))
theorem lk6_228 : LK 6 228 yX6_write := Or.inl (aw_of (i := 1033) (by decide +kernel) (by decide +kernel))
theorem lk6_224 : LK 6 224 yX6_pass := Or.inl (aw_of (i := 1037) (by decide +kernel) (by decide +kernel))
theorem lk6_210 : LK 6 210 yX6_sendingTo := Or.inl (aw_of (i := 1041) (by decide +kernel) (by decide +kernel))
theorem lk6_206 : LK 6 206 yX6_sending := Or.inl (aw_of (i := 1045) (by decide +kernel) (by decide +kernel))
theorem lk6_197 : LK 6 197 yX6_reckoned := Or.inl (aw_of (i := 1049) (by decide +kernel) (by decide +kernel))
theorem lk6_200 : LK 6 200 yX6_atMost := Or.inl (aw_of (i := 1053) (by decide +kernel) (by decide +kernel))
theorem lk6_203 : LK 6 203 yX6_draw := Or.inl (aw_of (i := 1057) (by decide +kernel) (by decide +kernel))
theorem lk6_217 : LK 6 217 yX6_backOf := Or.inl (aw_of (i := 1064) (by decide +kernel) (by decide +kernel))
theorem lk7_52 : LK 7 52 yX6_all := Or.inl (aw_of (i := 1068) (by decide +kernel) (by decide +kernel))
theorem lk7_56 : LK 7 56 yX6_of := Or.inl (aw_of (i := 1072) (by decide +kernel) (by decide +kernel))
theorem lk7_60 : LK 7 60 yX6_sumSent := Or.inl (aw_of (i := 1076) (by decide +kernel) (by decide +kernel))
theorem lk7_64 : LK 7 64 yX6_sumCame := Or.inl (aw_of (i := 1080) (by decide +kernel) (by decide +kernel))
theorem lk7_68 : LK 7 68 yX6_judge := Or.inl (aw_of (i := 1084) (by decide +kernel) (by decide +kernel))
theorem lk7_72 : LK 7 72 yX6_sends := Or.inl (aw_of (i := 1091) (by decide +kernel) (by decide +kernel))
theorem lk7_76 : LK 7 76 yX6_back := Or.inl (aw_of (i := 1095) (by decide +kernel) (by decide +kernel))
theorem lk7_80 : LK 7 80 yX6_held := Or.inl (aw_of (i := 1099) (by decide +kernel) (by decide +kernel))
theorem lk6_238 : Jvm.Cond.methodLink (RN 6) 238 yX6_far ∈ AW := aw_of (i := 1103) (by decide +kernel) (by decide +kernel)
theorem lk7_84 : LK 7 84 yX6_trust := Or.inl (aw_of (i := 1107) (by decide +kernel) (by decide +kernel))
theorem lk7_88 : LK 7 88 yX6_giving := Or.inl (aw_of (i := 1111) (by decide +kernel) (by decide +kernel))
theorem lk7_92 : LK 7 92 yX6_best := Or.inl (aw_of (i := 1115) (by decide +kernel) (by decide +kernel))
theorem lk7_97 : LK 7 97 yX6_worth := Or.inl (aw_of (i := 1119) (by decide +kernel) (by decide +kernel))
theorem lk6_241 : LK 6 241 yX6_hasWith := Or.inl (aw_of (i := 1123) (by decide +kernel) (by decide +kernel))
theorem lk7_101 : LK 7 101 yX6_promise := Or.inl (aw_of (i := 1127) (by decide +kernel) (by decide +kernel))
theorem lk7_105 : LK 7 105 yX6_lastTurn := Or.inl (aw_of (i := 1131) (by decide +kernel) (by decide +kernel))
theorem lk7_109 : LK 7 109 yX6_lands := Or.inl (aw_of (i := 1136) (by decide +kernel) (by decide +kernel))
theorem lk6_249 : LK 6 249 yX6_wrongTwo := Or.inl (aw_of (i := 1140) (by decide +kernel) (by decide +kernel))
theorem lk6_252 : LK 6 252 yX6_areSendings := Or.inl (aw_of (i := 1144) (by decide +kernel) (by decide +kernel))
theorem lk6_255 : LK 6 255 yX6_sumOf := Or.inl (aw_of (i := 1148) (by decide +kernel) (by decide +kernel))
theorem lk7_113 : LK 7 113 yX6_words := Or.inl (aw_of (i := 1152) (by decide +kernel) (by decide +kernel))
theorem lk6_258 : LK 6 258 yX6_signOf := Or.inl (aw_of (i := 1156) (by decide +kernel) (by decide +kernel))
theorem lk7_118 : LK 7 118 yX6_parts := Or.inl (aw_of (i := 1160) (by decide +kernel) (by decide +kernel))
theorem lk7_122 : LK 7 122 yX6_image := Or.inl (aw_of (i := 1164) (by decide +kernel) (by decide +kernel))
theorem lk6_274 : LK 6 274 yX6_carryAll := Or.inl (aw_of (i := 1168) (by decide +kernel) (by decide +kernel))
theorem lk6_268 : LK 6 268 yX6_carry := Or.inl (aw_of (i := 1172) (by decide +kernel) (by decide +kernel))
theorem lk7_126 : LK 7 126 yX6_restore := Or.inl (aw_of (i := 1176) (by decide +kernel) (by decide +kernel))
theorem lk7_130 : LK 7 130 yX6_count := Or.inl (aw_of (i := 1180) (by decide +kernel) (by decide +kernel))
theorem lk7_134 : LK 7 134 yX6_keep := Or.inl (aw_of (i := 1184) (by decide +kernel) (by decide +kernel))
theorem lk7_138 : LK 7 138 yX6_row := Or.inl (aw_of (i := 1188) (by decide +kernel) (by decide +kernel))
theorem lk7_142 : LK 7 142 yX6_put := Or.inl (aw_of (i := 1192) (by decide +kernel) (by decide +kernel))
theorem lk6_277 : Jvm.Cond.methodLink (RN 6) 277 yX6_narrowed ∈ AW := aw_of (i := 1196) (by decide +kernel) (by decide +kernel)
theorem lk7_148 : LK 7 148 yX6_element := Or.inl (aw_of (i := 1199) (by decide +kernel) (by decide +kernel))
theorem lk7_156 : LK 7 156 yX6_copy := Or.inl (aw_of (i := 1203) (by decide +kernel) (by decide +kernel))
theorem lk7_160 : LK 7 160 yX6_faith := Or.inl (aw_of (i := 1207) (by decide +kernel) (by decide +kernel))
theorem lk6_281 : LK 6 281 yX6_wrongShelf := Or.inl (aw_of (i := 1211) (by decide +kernel) (by decide +kernel))
theorem lk6_284 : LK 6 284 yX6_faithOf := Or.inl (aw_of (i := 1215) (by decide +kernel) (by decide +kernel))
theorem lk7_164 : LK 7 164 yX6_toss := Or.inl (aw_of (i := 1219) (by decide +kernel) (by decide +kernel))
end
section
/-! What the printed functions are made of; a local may be forgotten. -/
def gd {β : Type} (b : Bool) (x : Option β) : Option β := match b with
  | true => x
  | false => none
def bI {β : Type} (o : Option (Int32 × ST)) (f : Int32 → ST → Option β) : Option β := match o with
  | some (a, τ) => f a τ
  | none => none
def bJ {β : Type} (o : Option (Int64 × ST)) (f : Int64 → ST → Option β) : Option β := match o with
  | some (a, τ) => f a τ
  | none => none
def bR {α β : Type} (o : Option α) (f : α → Option β) : Option β := match o with
  | some a => f a
  | none => none
def bO {β : Type} (o : Option Nat) (a : Option β) (f : Nat → Option β) : Option β := match o with
  | none => a
  | some k => f k
theorem gd_some {β : Type} {b : Bool} {x : Option β} {r : β} (h : gd b x = some r) : b = true ∧ x = some r := by
  unfold gd at h
  split at h
  · exact ⟨rfl, h⟩
  · cases h
theorem bI_some {β : Type} {o : Option (Int32 × ST)} {f : Int32 → ST → Option β} {r : β} (h : bI o f = some r) : ∃ a τ, o = some (a, τ) ∧ f a τ = some r := by
  unfold bI at h
  split at h
  · exact ⟨_, _, rfl, h⟩
  · cases h
theorem bJ_some {β : Type} {o : Option (Int64 × ST)} {f : Int64 → ST → Option β} {r : β} (h : bJ o f = some r) : ∃ a τ, o = some (a, τ) ∧ f a τ = some r := by
  unfold bJ at h
  split at h
  · exact ⟨_, _, rfl, h⟩
  · cases h
theorem bR_some {α β : Type} {o : Option α} {f : α → Option β} {r : β} (h : bR o f = some r) : ∃ a, o = some a ∧ f a = some r := by
  unfold bR at h
  split at h
  · exact ⟨_, rfl, h⟩
  · cases h
theorem gd_t {β : Type} (x : Option β) : gd true x = x := rfl
theorem bI_t {β : Type} (a : Int32) (τ : ST) (f : Int32 → ST → Option β) : bI (some (a, τ)) f = f a τ := rfl
theorem bJ_t {β : Type} (a : Int64) (τ : ST) (f : Int64 → ST → Option β) : bJ (some (a, τ)) f = f a τ := rfl
theorem bR_t {α β : Type} (a : α) (f : α → Option β) : bR (some a) f = f a := rfl
theorem bO_n {β : Type} (a : Option β) (f : Nat → Option β) : bO none a f = a := rfl
theorem bO_s {β : Type} (k : Nat) (a : Option β) (f : Nat → Option β) : bO (some k) a f = f k := rfl
def imin (x y : Int32) : Int32 := if y < x then y else x
def iabs (x : Int32) : Int32 := if 0 ≤ x then x else 0 - x
/-- how often a loop may go round in a printed function -/
def FU : Nat := 4000
def subL (a b : List (Option Value)) : Prop := match a, b with
  | [], [] => True
  | none :: a, _ :: b => subL a b
  | some v :: a, x :: b => x = some v ∧ subL a b
  | _, _ => False
theorem subL_len : ∀ (a b : List (Option Value)), subL a b → a.length = b.length ∧ ∀ (i : Nat) (v : Value), a[i]? = some (some v) → b[i]? = some (some v)
  | [], [], _ => ⟨rfl, fun i v h => h⟩
  | none :: a, x :: b, h => by
    obtain ⟨h1, h2⟩ := subL_len a b (by simpa [subL] using h)
    refine ⟨by simp [h1], fun i v hi => ?_⟩
    match i, hi with
    | 0, hi => simp at hi
    | i + 1, hi => simpa using h2 i v (by simpa using hi)
  | some w :: a, x :: b, h => by
    have h' : x = some w ∧ subL a b := by simpa [subL] using h
    obtain ⟨h1, h2⟩ := subL_len a b h'.2
    refine ⟨by simp [h1], fun i v hi => ?_⟩
    match i, hi with
    | 0, hi => simp at hi; subst hi; simp [h'.1]
    | i + 1, hi => simpa using h2 i v (by simpa using hi)
  | [], _ :: _, h => by simp [subL] at h
  | none :: _, [], h => by simp [subL] at h
  | some _ :: _, [], h => by simp [subL] at h
section DROP
variable {l : Launch} {ow nL fr lo pc : Nat} {cc : ByteArray} {V : Nat → List (Option Value) → List Value → ST → Prop} {ls ls' : List (Option Value)} {st rest : List Value} {σ : ST}
theorem BD.drop (h : BD l ow cc nL fr lo V) (hs : subL ls' ls) (k : V pc ls' st σ) : V pc ls st σ := by
  obtain ⟨p, e, R, s, m, args, below, meth, c, cells, slots, Q, D, q, cA, A, hC, -, -, -, -, rfl⟩ := h
  intro H locs lsA hP hD hS hL
  obtain ⟨h1, h2⟩ := subL_len _ _ hs
  exact k H locs lsA hP hD hS ⟨h1.trans hL.1, hL.2.1, hL.2.2.1, fun i v hi => hL.2.2.2 i v (h2 i v hi)⟩
theorem BD.nmin (h : BD l ow cc nL fr lo V) {idx : Nat} {x y : Int32} (hlk : Jvm.Cond.methodLink (RN ow) idx Lib.Math.min.name ∈ AW) (hd : decode cc pc = .ok (.invokestatic idx, 3)) (hfr : 1 ≤ fr) (hlo : (rest.map fun v => v.category).sum + 13 ≤ lo) (k : V (pc + 3) ls (.int (imin x y) :: rest) σ) : V pc ls (.int y :: .int x :: rest) σ := h.mmin hlk hd hfr hlo k
theorem BD.nabs (h : BD l ow cc nL fr lo V) {idx : Nat} {x : Int32} (hlk : Jvm.Cond.methodLink (RN ow) idx Lib.Math.abs.name ∈ AW) (hd : decode cc pc = .ok (.invokestatic idx, 3)) (hfr : 1 ≤ fr) (hlo : (rest.map fun v => v.category).sum + 13 ≤ lo) (k : V (pc + 3) ls (.int (iabs x) :: rest) σ) : V pc ls (.int x :: rest) σ := h.mabs hlk hd hfr hlo k
end DROP
/-- a switch: x is none of the numbers from lw to hi -/
theorem sw_out {x : Int32} {lw hi : Int} (h : ∀ i : Int, lw ≤ i → i ≤ hi → x.toInt ≠ i) : x.toInt < lw ∨ hi < x.toInt := by
  by_cases h1 : x.toInt < lw
  · exact Or.inl h1
  · by_cases h2 : hi < x.toInt
    · exact Or.inr h2
    · exact absurd rfl (h x.toInt (by omega) (by omega))
theorem sw_ne {x v : Int32} {i : Int} (h : ¬ x = v) (hv : v.toInt = i) : x.toInt ≠ i := fun e => h (Int32.toInt_inj.mp (e.trans hv.symm))
theorem kd_0 : kd 0 = 5 := rfl
theorem kd_1 : kd 1 = 0 := rfl
theorem kd_2 : kd 2 = 0 := rfl
theorem kd_3 : kd 3 = 1 := rfl
theorem kd_4 : kd 4 = 2 := rfl
theorem kd_5 : kd 5 = 13 := rfl
theorem kd_6 : kd 6 = 4 := rfl
theorem kd_7 : kd 7 = 10 := rfl
theorem kd_8 : kd 8 = 4 := rfl
theorem kd_9 : kd 9 = 10 := rfl
theorem kd_10 : kd 10 = 4 := rfl
theorem kd_11 : kd 11 = 10 := rfl
theorem kd_12 : kd 12 = 4 := rfl
theorem kd_13 : kd 13 = 10 := rfl
theorem kd_14 : kd 14 = 4 := rfl
theorem kd_15 : kd 15 = 10 := rfl
theorem kd_16 : kd 16 = 4 := rfl
theorem kd_17 : kd 17 = 10 := rfl
theorem kd_18 : kd 18 = 4 := rfl
theorem kd_19 : kd 19 = 10 := rfl
theorem kd_20 : kd 20 = 3 := rfl
theorem kd_21 : kd 21 = 10 := rfl
theorem kd_22 : kd 22 = 3 := rfl
theorem kd_23 : kd 23 = 10 := rfl
theorem kd_24 : kd 24 = 3 := rfl
theorem kd_25 : kd 25 = 10 := rfl
theorem kd_26 : kd 26 = 3 := rfl
theorem kd_27 : kd 27 = 10 := rfl
theorem kd_28 : kd 28 = 3 := rfl
theorem kd_29 : kd 29 = 10 := rfl
theorem kd_30 : kd 30 = 3 := rfl
theorem kd_31 : kd 31 = 10 := rfl
theorem kd_32 : kd 32 = 3 := rfl
theorem kd_33 : kd 33 = 10 := rfl
theorem kd_34 : kd 34 = 3 := rfl
theorem kd_35 : kd 35 = 10 := rfl
theorem kd_36 : kd 36 = 6 := rfl
theorem kd_37 : kd 37 = 10 := rfl
theorem kd_38 : kd 38 = 10 := rfl
theorem kd_39 : kd 39 = 10 := rfl
theorem kd_40 : kd 40 = 10 := rfl
theorem kd_41 : kd 41 = 10 := rfl
theorem kd_42 : kd 42 = 10 := rfl
theorem kd_43 : kd 43 = 10 := rfl
theorem kd_44 : kd 44 = 10 := rfl
theorem kd_45 : kd 45 = 10 := rfl
theorem kd_46 : kd 46 = 10 := rfl
theorem kd_47 : kd 47 = 10 := rfl
theorem kd_48 : kd 48 = 10 := rfl
theorem kd_49 : kd 49 = 10 := rfl
theorem kd_50 : kd 50 = 10 := rfl
theorem kd_51 : kd 51 = 10 := rfl
theorem kd_52 : kd 52 = 10 := rfl
theorem kd_53 : kd 53 = 11 := rfl
theorem kd_54 : kd 54 = 10 := rfl
theorem kd_55 : kd 55 = 10 := rfl
theorem kd_56 : kd 56 = 10 := rfl
theorem kd_57 : kd 57 = 10 := rfl
theorem kd_58 : kd 58 = 10 := rfl
theorem kd_59 : kd 59 = 10 := rfl
theorem kd_60 : kd 60 = 10 := rfl
theorem kd_61 : kd 61 = 10 := rfl
theorem kd_62 : kd 62 = 10 := rfl
theorem kd_63 : kd 63 = 10 := rfl
theorem kd_64 : kd 64 = 10 := rfl
theorem kd_65 : kd 65 = 12 := rfl
theorem kd_66 : kd 66 = 12 := rfl
theorem kd_67 : kd 67 = 12 := rfl
theorem al_5 : alen 5 = 8 := rfl
theorem al_7 : alen 7 = 24 := rfl
theorem al_9 : alen 9 = 40 := rfl
theorem al_11 : alen 11 = 600 := rfl
theorem al_13 : alen 13 = 24 := rfl
theorem al_15 : alen 15 = 40 := rfl
theorem al_17 : alen 17 = 600 := rfl
theorem al_19 : alen 19 = 204 := rfl
theorem al_21 : alen 21 = 100 := rfl
theorem al_23 : alen 23 = 100 := rfl
theorem al_25 : alen 25 = 100 := rfl
theorem al_27 : alen 27 = 100 := rfl
theorem al_29 : alen 29 = 100 := rfl
theorem al_31 : alen 31 = 100 := rfl
theorem al_33 : alen 33 = 100 := rfl
theorem al_35 : alen 35 = 100 := rfl
theorem al_37 : alen 37 = 8 := rfl
theorem al_38 : alen 38 = 8 := rfl
theorem al_39 : alen 39 = 8 := rfl
theorem al_40 : alen 40 = 8 := rfl
theorem al_41 : alen 41 = 8 := rfl
theorem al_42 : alen 42 = 8 := rfl
theorem al_43 : alen 43 = 8 := rfl
theorem al_44 : alen 44 = 8 := rfl
theorem al_45 : alen 45 = 8 := rfl
theorem al_46 : alen 46 = 8 := rfl
theorem al_47 : alen 47 = 64 := rfl
theorem al_48 : alen 48 = 100 := rfl
theorem al_49 : alen 49 = 100 := rfl
theorem al_50 : alen 50 = 100 := rfl
theorem al_51 : alen 51 = 100 := rfl
theorem al_52 : alen 52 = 100 := rfl
theorem al_53 : alen 53 = 100 := rfl
theorem al_54 : alen 54 = 50 := rfl
theorem al_55 : alen 55 = 50 := rfl
theorem al_56 : alen 56 = 200 := rfl
theorem al_57 : alen 57 = 780 := rfl
theorem al_58 : alen 58 = 8 := rfl
theorem al_59 : alen 59 = 8 := rfl
theorem al_60 : alen 60 = 8 := rfl
theorem al_61 : alen 61 = 8 := rfl
theorem al_62 : alen 62 = 8 := rfl
theorem al_63 : alen 63 = 8 := rfl
theorem al_64 : alen 64 = 8 := rfl
theorem al_65 : alen 65 = 800 := rfl
theorem al_66 : alen 66 = 100 := rfl
theorem al_67 : alen 67 = 1 := rfl
end
section
/-! Printed by wip/whole/prt.py: functions and walks. -/
def fX4_become (k0 : Nat) (k1 : Nat) (σ : ST) : Option ST :=
  gd (okCpy 0 0 (imin (Int32.ofNat (alen (k0 + 1))) (Int32.ofNat (alen (k1 + 1)))) (alen (k1 + 1)) (alen (k0 + 1))) <|
  some (cpyI (setI σ k0 3 (σ.1 k1 3)) (k1 + 1) (k0 + 1) (0 : Int32).toNatClampNeg (0 : Int32).toNatClampNeg (imin (Int32.ofNat (alen (k0 + 1))) (Int32.ofNat (alen (k1 + 1))) : Int32).toNatClampNeg)
set_option maxHeartbeats 4000000 in
theorem kmX4_become (l : Launch) {k0 : Nat} {k1 : Nat} {σ : ST} {τ : ST} (hk0 : kd k0 = 4) (hk1 : kd k1 = 4) (hf : fX4_become k0 k1 σ = some τ) : KM l yX4_become cX4_become 2 none 1 40 [.ref k0, .ref k1] σ none τ := by
  refine KM.intro (ow := 4) (by decide +kernel) rfl (Nat.le_of_ble_eq_true rfl) (fun V hm => ?_)
  show V 0 [some (.ref k0), some (.ref k1)] [] σ
  have h := hm.bd
  unfold fX4_become at hf
  refine h.run (o := [kd k1 = 4, kd k0 = 4, kd k1 = 4, kd k0 = 4, kd k0 = 4, kd (k0 + 1) = 10, kd k1 = 4, kd (k1 + 1) = 10]) (ls' := [some (.ref k0), some (.ref k1)]) (st' := [.int (Int32.ofNat (alen (k1 + 1))), .int (Int32.ofNat (alen (k0 + 1))), .int 0, .ref (k0 + 1), .int 0, .ref (k1 + 1)]) (σ' := setI σ k0 3 (σ.1 k1 3)) [(.aload_n 0, 1, 0, 0, 0, 0), (.aload_n 1, 1, 0, 0, 0, 0), (.getfield 7, 3, 0, 0, 4, 3), (.putfield 7, 3, 0, 0, 4, 3), (.aload_n 1, 1, 0, 0, 0, 0), (.getfield 25, 3, 0, 0, 4, 2), (.iconst 0, 1, 0, 0, 0, 0), (.aload_n 0, 1, 0, 0, 0, 0), (.getfield 25, 3, 0, 0, 4, 2), (.iconst 0, 1, 0, 0, 0, 0), (.aload_n 0, 1, 0, 0, 0, 0), (.getfield 25, 3, 0, 0, 4, 2), (.arraylength, 1, 0, 0, 10, 0), (.aload_n 1, 1, 0, 0, 0, 0), (.getfield 25, 3, 0, 0, 4, 2), (.arraylength, 1, 0, 0, 10, 0)] (pc2 := 28) (by decide +kernel) rfl (And.intro hk1 (And.intro hk0 (And.intro hk1 (And.intro hk0 (And.intro hk0 (And.intro (kd_T hk0) (And.intro hk1 (And.intro (kd_T hk1) trivial)))))))) ?_
  refine h.nmin jw_l39 (by decide +kernel) (Nat.le_of_ble_eq_true rfl) (Nat.le_of_ble_eq_true rfl) ?_
  show V 31 [some (.ref k0), some (.ref k1)] [.int (imin (Int32.ofNat (alen (k0 + 1))) (Int32.ofNat (alen (k1 + 1)))), .int 0, .ref (k0 + 1), .int 0, .ref (k1 + 1)] (setI σ k0 3 (σ.1 k1 3))
  obtain ⟨g1, hf⟩ := gd_some hf
  refine h.cpy jw_lc4 (by decide +kernel) (kd_T hk1) (kd_T hk0) g1 (Nat.le_of_ble_eq_true rfl) (Nat.le_of_ble_eq_true rfl) ?_
  show V 34 [some (.ref k0), some (.ref k1)] [] (cpyI (setI σ k0 3 (σ.1 k1 3)) (k1 + 1) (k0 + 1) (0 : Int32).toNatClampNeg (0 : Int32).toNatClampNeg (imin (Int32.ofNat (alen (k0 + 1))) (Int32.ofNat (alen (k1 + 1))) : Int32).toNatClampNeg)
  cases hf
  exact hm.vret (by decide +kernel)
def fX4_placeOf_46 (t0 : Int32) (σ : ST) : Option Int32 :=
  some t0
set_option maxHeartbeats 4000000 in
theorem wX4_placeOf_46 {l : Launch} {V : Nat → List (Option Value) → List Value → ST → Prop} {r : Int32} {σ : ST} {t0 : Int32} (hm : BM l 4 cX4_placeOf 4 (some .int) 0 0 (some (.int r)) σ V) (hf : fX4_placeOf_46 t0 σ = some r) : V 46 [none, none, none, none] [.int t0] σ := by
  have h := hm.bd
  unfold fX4_placeOf_46 at hf
  cases hf
  exact hm.iret (by decide +kernel)
def fX4_placeOf_29 (k0 : Nat) (x1 : Int32) (x2 : Int32) (t0 : Int32) (σ : ST) : Option Int32 :=
  if t0 = 0 then
    fX4_placeOf_46 (-1) σ
  else
    fX4_placeOf_46 ((x1 * (σ.1 k0 1)) + x2) σ
set_option maxHeartbeats 4000000 in
theorem wX4_placeOf_29 {l : Launch} {V : Nat → List (Option Value) → List Value → ST → Prop} {r : Int32} {σ : ST} {k0 : Nat} {x1 : Int32} {x2 : Int32} {t0 : Int32} (hm : BM l 4 cX4_placeOf 4 (some .int) 0 0 (some (.int r)) σ V) (hk0 : kd k0 = 4) (hf : fX4_placeOf_29 k0 x1 x2 t0 σ = some r) : V 29 [some (.ref k0), some (.int x1), some (.int x2), none] [.int t0] σ := by
  have h := hm.bd
  unfold fX4_placeOf_29 at hf
  refine h.run (o := []) (ls' := [some (.ref k0), some (.int x1), some (.int x2), some (.int t0)]) (st' := [.int t0]) (σ' := σ) [(.istore_n 3, 1, 0, 0, 0, 0), (.iload_n 3, 1, 0, 0, 0, 0)] (pc2 := 31) (by decide +kernel) rfl trivial ?_
  refine h.if_eq (tgt := 45) (show decode cX4_placeOf 31 = .ok (.ifCond .eq 14, 3) by decide +kernel) (by decide) (fun c1 => ?_) (fun c1 => ?_)
  · rw [if_pos c1] at hf
    refine h.run (o := []) (ls' := [some (.ref k0), some (.int x1), some (.int x2), some (.int t0)]) (st' := [.int (-1)]) (σ' := σ) [(.iconst (-1), 1, (-1), 0, 0, 0)] (pc2 := 46) (by decide +kernel) rfl trivial ?_
    refine h.drop (ls' := [none, none, none, none]) trivial ?_
    exact wX4_placeOf_46 hm hf
  · rw [if_neg c1] at hf
    show V 34 [some (.ref k0), some (.int x1), some (.int x2), some (.int t0)] [] σ
    refine h.run (o := [kd k0 = 4]) (ls' := [some (.ref k0), some (.int x1), some (.int x2), some (.int t0)]) (st' := [.int ((x1 * (σ.1 k0 1)) + x2)]) (σ' := σ) [(.iload_n 1, 1, 0, 0, 0, 0), (.aload_n 0, 1, 0, 0, 0, 0), (.getfield 16, 3, 0, 0, 4, 1), (.imul, 1, 0, 0, 0, 0), (.iload_n 2, 1, 0, 0, 0, 0), (.iadd, 1, 0, 0, 0, 0), (.goto 4, 3, 0, 0, 0, 46)] (pc2 := 46) (by decide +kernel) rfl (And.intro hk0 trivial) ?_
    refine h.drop (ls' := [none, none, none, none]) trivial ?_
    exact wX4_placeOf_46 hm hf
def fX4_placeOf_28 (k0 : Nat) (x1 : Int32) (x2 : Int32) (σ : ST) : Option Int32 :=
  fX4_placeOf_29 k0 x1 x2 0 σ
set_option maxHeartbeats 4000000 in
theorem wX4_placeOf_28 {l : Launch} {V : Nat → List (Option Value) → List Value → ST → Prop} {r : Int32} {σ : ST} {k0 : Nat} {x1 : Int32} {x2 : Int32} (hm : BM l 4 cX4_placeOf 4 (some .int) 0 0 (some (.int r)) σ V) (hk0 : kd k0 = 4) (hf : fX4_placeOf_28 k0 x1 x2 σ = some r) : V 28 [some (.ref k0), some (.int x1), some (.int x2), none] [] σ := by
  have h := hm.bd
  unfold fX4_placeOf_28 at hf
  refine h.run (o := []) (ls' := [some (.ref k0), some (.int x1), some (.int x2), none]) (st' := [.int 0]) (σ' := σ) [(.iconst 0, 1, 0, 0, 0, 0)] (pc2 := 29) (by decide +kernel) rfl trivial ?_
  exact wX4_placeOf_29 hm hk0 hf
def fX4_placeOf (k0 : Nat) (x1 : Int32) (x2 : Int32) (σ : ST) : Option Int32 :=
  if x1 < 0 then
    fX4_placeOf_28 k0 x1 x2 σ
  else
    if (σ.1 k0 3) ≤ x1 then
      fX4_placeOf_28 k0 x1 x2 σ
    else
      if x2 < 0 then
        fX4_placeOf_28 k0 x1 x2 σ
      else
        if (σ.1 k0 1) ≤ x2 then
          fX4_placeOf_28 k0 x1 x2 σ
        else
          fX4_placeOf_29 k0 x1 x2 1 σ
set_option maxHeartbeats 4000000 in
theorem kmX4_placeOf (l : Launch) {k0 : Nat} {x1 : Int32} {x2 : Int32} {σ : ST} {r : Int32} (hk0 : kd k0 = 4) (hf : fX4_placeOf k0 x1 x2 σ = some r) : KM l yX4_placeOf cX4_placeOf 4 (some .int) 0 0 [.ref k0, .int x1, .int x2] σ (some (.int r)) σ := by
  refine KM.intro (ow := 4) (by decide +kernel) rfl (Nat.le_of_ble_eq_true rfl) (fun V hm => ?_)
  show V 0 [some (.ref k0), some (.int x1), some (.int x2), none] [] σ
  have h := hm.bd
  unfold fX4_placeOf at hf
  refine h.run (o := []) (ls' := [some (.ref k0), some (.int x1), some (.int x2), none]) (st' := [.int x1]) (σ' := σ) [(.iload_n 1, 1, 0, 0, 0, 0)] (pc2 := 1) (by decide +kernel) rfl trivial ?_
  refine h.if_lt (tgt := 28) (show decode cX4_placeOf 1 = .ok (.ifCond .lt 27, 3) by decide +kernel) (by decide) (fun c4 => ?_) (fun c4 => ?_)
  · rw [if_pos c4] at hf
    exact wX4_placeOf_28 hm hk0 hf
  · rw [if_neg c4] at hf
    show V 4 [some (.ref k0), some (.int x1), some (.int x2), none] [] σ
    refine h.run (o := [kd k0 = 4]) (ls' := [some (.ref k0), some (.int x1), some (.int x2), none]) (st' := [.int (σ.1 k0 3), .int x1]) (σ' := σ) [(.iload_n 1, 1, 0, 0, 0, 0), (.aload_n 0, 1, 0, 0, 0, 0), (.getfield 7, 3, 0, 0, 4, 3)] (pc2 := 9) (by decide +kernel) rfl (And.intro hk0 trivial) ?_
    refine h.icmp_ge (tgt := 28) (show decode cX4_placeOf 9 = .ok (.if_icmp .ge 19, 3) by decide +kernel) (by decide) (fun c3 => ?_) (fun c3 => ?_)
    · rw [if_pos c3] at hf
      exact wX4_placeOf_28 hm hk0 hf
    · rw [if_neg c3] at hf
      show V 12 [some (.ref k0), some (.int x1), some (.int x2), none] [] σ
      refine h.run (o := []) (ls' := [some (.ref k0), some (.int x1), some (.int x2), none]) (st' := [.int x2]) (σ' := σ) [(.iload_n 2, 1, 0, 0, 0, 0)] (pc2 := 13) (by decide +kernel) rfl trivial ?_
      refine h.if_lt (tgt := 28) (show decode cX4_placeOf 13 = .ok (.ifCond .lt 15, 3) by decide +kernel) (by decide) (fun c2 => ?_) (fun c2 => ?_)
      · rw [if_pos c2] at hf
        exact wX4_placeOf_28 hm hk0 hf
      · rw [if_neg c2] at hf
        show V 16 [some (.ref k0), some (.int x1), some (.int x2), none] [] σ
        refine h.run (o := [kd k0 = 4]) (ls' := [some (.ref k0), some (.int x1), some (.int x2), none]) (st' := [.int (σ.1 k0 1), .int x2]) (σ' := σ) [(.iload_n 2, 1, 0, 0, 0, 0), (.aload_n 0, 1, 0, 0, 0, 0), (.getfield 16, 3, 0, 0, 4, 1)] (pc2 := 21) (by decide +kernel) rfl (And.intro hk0 trivial) ?_
        refine h.icmp_ge (tgt := 28) (show decode cX4_placeOf 21 = .ok (.if_icmp .ge 7, 3) by decide +kernel) (by decide) (fun c1 => ?_) (fun c1 => ?_)
        · rw [if_pos c1] at hf
          exact wX4_placeOf_28 hm hk0 hf
        · rw [if_neg c1] at hf
          show V 24 [some (.ref k0), some (.int x1), some (.int x2), none] [] σ
          refine h.run (o := []) (ls' := [some (.ref k0), some (.int x1), some (.int x2), none]) (st' := [.int 1]) (σ' := σ) [(.iconst 1, 1, 1, 0, 0, 0), (.goto 4, 3, 0, 0, 0, 29)] (pc2 := 29) (by decide +kernel) rfl trivial ?_
          exact wX4_placeOf_29 hm hk0 hf
def fX4_write_31 (σ : ST) : Option ST :=
  some σ
set_option maxHeartbeats 4000000 in
theorem wX4_write_31 {l : Launch} {V : Nat → List (Option Value) → List Value → ST → Prop} {τ : ST} {σ : ST} (hm : BM l 4 cX4_write 5 none 1 23 none τ V) (hf : fX4_write_31 σ = some τ) : V 31 [none, none, none, none, none] [] σ := by
  have h := hm.bd
  unfold fX4_write_31 at hf
  cases hf
  exact hm.vret (by decide +kernel)
def fX4_write (k0 : Nat) (x1 : Int32) (x2 : Int32) (x3 : Int32) (σ : ST) : Option ST :=
  bR (fX4_placeOf k0 x1 x2 σ) fun a1 =>
  if a1 < 0 then
    fX4_write_31 σ
  else
    if (Int32.ofNat (alen (k0 + 1))) ≤ a1 then
      fX4_write_31 σ
    else
      gd (inb a1 (alen (k0 + 1))) <|
      fX4_write_31 (setI σ (k0 + 1) (a1.toNatClampNeg) x3)
set_option maxHeartbeats 4000000 in
theorem kmX4_write (l : Launch) {k0 : Nat} {x1 : Int32} {x2 : Int32} {x3 : Int32} {σ : ST} {τ : ST} (hk0 : kd k0 = 4) (hf : fX4_write k0 x1 x2 x3 σ = some τ) : KM l yX4_write cX4_write 5 none 1 23 [.ref k0, .int x1, .int x2, .int x3] σ none τ := by
  refine KM.intro (ow := 4) (by decide +kernel) rfl (Nat.le_of_ble_eq_true rfl) (fun V hm => ?_)
  show V 0 [some (.ref k0), some (.int x1), some (.int x2), some (.int x3), none] [] σ
  have h := hm.bd
  unfold fX4_write at hf
  refine h.run (o := []) (ls' := [some (.ref k0), some (.int x1), some (.int x2), some (.int x3), none]) (st' := [.int x2, .int x1, .ref k0]) (σ' := σ) [(.aload_n 0, 1, 0, 0, 0, 0), (.iload_n 1, 1, 0, 0, 0, 0), (.iload_n 2, 1, 0, 0, 0, 0)] (pc2 := 3) (by decide +kernel) rfl trivial ?_
  obtain ⟨a1, e1, hf⟩ := bR_some hf
  refine h.callV (as := [.int x1, .int x2]) (rest := []) (by decide +kernel) lk4_29 cwX4_placeOf hk0 (kmX4_placeOf l hk0 e1) rfl (Nat.le_of_ble_eq_true rfl) (Nat.le_of_ble_eq_true rfl) (Nat.le_of_ble_eq_true rfl) ?_
  show V 6 [some (.ref k0), some (.int x1), some (.int x2), some (.int x3), none] [.int a1] σ
  refine h.run (o := []) (ls' := [some (.ref k0), some (.int x1), some (.int x2), some (.int x3), some (.int a1)]) (st' := [.int a1]) (σ' := σ) [(.istore 4, 2, 0, 0, 0, 0), (.iload 4, 2, 0, 0, 0, 0)] (pc2 := 10) (by decide +kernel) rfl trivial ?_
  refine h.if_lt (tgt := 31) (show decode cX4_write 10 = .ok (.ifCond .lt 21, 3) by decide +kernel) (by decide) (fun c4 => ?_) (fun c4 => ?_)
  · rw [if_pos c4] at hf
    refine h.drop (ls' := [none, none, none, none, none]) trivial ?_
    exact wX4_write_31 hm hf
  · rw [if_neg c4] at hf
    show V 13 [some (.ref k0), some (.int x1), some (.int x2), some (.int x3), some (.int a1)] [] σ
    refine h.run (o := [kd k0 = 4, kd (k0 + 1) = 10]) (ls' := [some (.ref k0), some (.int x1), some (.int x2), some (.int x3), some (.int a1)]) (st' := [.int (Int32.ofNat (alen (k0 + 1))), .int a1]) (σ' := σ) [(.iload 4, 2, 0, 0, 0, 0), (.aload_n 0, 1, 0, 0, 0, 0), (.getfield 25, 3, 0, 0, 4, 2), (.arraylength, 1, 0, 0, 10, 0)] (pc2 := 20) (by decide +kernel) rfl (And.intro hk0 (And.intro (kd_T hk0) trivial)) ?_
    refine h.icmp_ge (tgt := 31) (show decode cX4_write 20 = .ok (.if_icmp .ge 11, 3) by decide +kernel) (by decide) (fun c3 => ?_) (fun c3 => ?_)
    · rw [if_pos c3] at hf
      refine h.drop (ls' := [none, none, none, none, none]) trivial ?_
      exact wX4_write_31 hm hf
    · rw [if_neg c3] at hf
      show V 23 [some (.ref k0), some (.int x1), some (.int x2), some (.int x3), some (.int a1)] [] σ
      obtain ⟨g2, hf⟩ := gd_some hf
      refine h.run (o := [kd k0 = 4, kd (k0 + 1) = 10, inb a1 (alen (k0 + 1)) = true]) (ls' := [some (.ref k0), some (.int x1), some (.int x2), some (.int x3), some (.int a1)]) (st' := []) (σ' := setI σ (k0 + 1) (a1.toNatClampNeg) x3) [(.aload_n 0, 1, 0, 0, 0, 0), (.getfield 25, 3, 0, 0, 4, 2), (.iload 4, 2, 0, 0, 0, 0), (.iload_n 3, 1, 0, 0, 0, 0), (.iastore, 1, 0, 0, 0, 0)] (pc2 := 31) (by decide +kernel) rfl (And.intro hk0 (And.intro (kd_T hk0) (And.intro g2 trivial))) ?_
      refine h.drop (ls' := [none, none, none, none, none]) trivial ?_
      exact wX4_write_31 hm hf
def fX4_open_25 (n : Nat) (k0 : Nat) (x1 : Int32) (σ : ST) : Option (Int32 × ST) := match n with
  | 0 => none
  | n + 1 =>
    if (σ.1 k0 1) ≤ x1 then
      some ((σ.1 k0 3) - 1, σ)
    else
      bR (fX4_write k0 ((σ.1 k0 3) - 1) x1 0 σ) fun σ1 =>
      fX4_open_25 n k0 (x1 + 1) σ1
set_option maxHeartbeats 4000000 in
theorem wX4_open_25 {l : Launch} {V : Nat → List (Option Value) → List Value → ST → Prop} {r : Int32} {τ : ST} (hm : BM l 4 cX4_open 2 (some .int) 2 47 (some (.int r)) τ V) : ∀ (n : Nat) (k0 : Nat) (x1 : Int32) (σ : ST) (hk0 : kd k0 = 4), fX4_open_25 n k0 x1 σ = some (r, τ) → V 25 [some (.ref k0), some (.int x1)] [] σ := by
  have h := hm.bd
  intro n
  induction n with
  | zero => intro k0 x1 σ hk0 hf; cases hf
  | succ n ih =>
    intro k0 x1 σ hk0 hf
    rw [fX4_open_25] at hf
    refine h.run (o := [kd k0 = 4]) (ls' := [some (.ref k0), some (.int x1)]) (st' := [.int (σ.1 k0 1), .int x1]) (σ' := σ) [(.iload_n 1, 1, 0, 0, 0, 0), (.aload_n 0, 1, 0, 0, 0, 0), (.getfield 16, 3, 0, 0, 4, 1)] (pc2 := 30) (by decide +kernel) rfl (And.intro hk0 trivial) ?_
    refine h.icmp_ge (tgt := 51) (show decode cX4_open 30 = .ok (.if_icmp .ge 21, 3) by decide +kernel) (by decide) (fun c2 => ?_) (fun c2 => ?_)
    · rw [if_pos c2] at hf
      refine h.run (o := [kd k0 = 4]) (ls' := [some (.ref k0), some (.int x1)]) (st' := [.int ((σ.1 k0 3) - 1)]) (σ' := σ) [(.aload_n 0, 1, 0, 0, 0, 0), (.getfield 7, 3, 0, 0, 4, 3), (.iconst 1, 1, 1, 0, 0, 0), (.isub, 1, 0, 0, 0, 0)] (pc2 := 57) (by decide +kernel) rfl (And.intro hk0 trivial) ?_
      cases hf
      exact hm.iret (by decide +kernel)
    · rw [if_neg c2] at hf
      show V 33 [some (.ref k0), some (.int x1)] [] σ
      refine h.run (o := [kd k0 = 4]) (ls' := [some (.ref k0), some (.int x1)]) (st' := [.int 0, .int x1, .int ((σ.1 k0 3) - 1), .ref k0]) (σ' := σ) [(.aload_n 0, 1, 0, 0, 0, 0), (.aload_n 0, 1, 0, 0, 0, 0), (.getfield 7, 3, 0, 0, 4, 3), (.iconst 1, 1, 1, 0, 0, 0), (.isub, 1, 0, 0, 0, 0), (.iload_n 1, 1, 0, 0, 0, 0), (.iconst 0, 1, 0, 0, 0, 0)] (pc2 := 42) (by decide +kernel) rfl (And.intro hk0 trivial) ?_
      obtain ⟨σ1, e1, hf⟩ := bR_some hf
      refine h.callV (as := [.int ((σ.1 k0 3) - 1), .int x1, .int 0]) (rest := []) (by decide +kernel) lk4_32 cwX4_write hk0 (kmX4_write l hk0 e1) rfl (Nat.le_of_ble_eq_true rfl) (Nat.le_of_ble_eq_true rfl) (Nat.le_of_ble_eq_true rfl) ?_
      show V 45 [some (.ref k0), some (.int x1)] [] σ1
      refine h.run (o := []) (ls' := [some (.ref k0), some (.int (x1 + 1))]) (st' := []) (σ' := σ1) [(.iinc 1 1, 3, 1, 0, 0, 0), (.goto (-23), 3, 0, 0, 0, 25)] (pc2 := 25) (by decide +kernel) rfl trivial ?_
      exact ih k0 (x1 + 1) _ hk0 hf
def fX4_open (k0 : Nat) (σ : ST) : Option (Int32 × ST) :=
  if (σ.1 k0 3) < (σ.1 k0 0) then
    fX4_open_25 FU k0 0 (setI σ k0 3 ((σ.1 k0 3) + 1))
  else
    some ((-1), σ)
set_option maxHeartbeats 4000000 in
theorem kmX4_open (l : Launch) {k0 : Nat} {σ : ST} {r : Int32} {τ : ST} (hk0 : kd k0 = 4) (hf : fX4_open k0 σ = some (r, τ)) : KM l yX4_open cX4_open 2 (some .int) 2 47 [.ref k0] σ (some (.int r)) τ := by
  refine KM.intro (ow := 4) (by decide +kernel) rfl (Nat.le_of_ble_eq_true rfl) (fun V hm => ?_)
  show V 0 [some (.ref k0), none] [] σ
  have h := hm.bd
  unfold fX4_open at hf
  refine h.run (o := [kd k0 = 4, kd k0 = 4]) (ls' := [some (.ref k0), none]) (st' := [.int (σ.1 k0 0), .int (σ.1 k0 3)]) (σ' := σ) [(.aload_n 0, 1, 0, 0, 0, 0), (.getfield 7, 3, 0, 0, 4, 3), (.aload_n 0, 1, 0, 0, 0, 0), (.getfield 13, 3, 0, 0, 4, 0)] (pc2 := 8) (by decide +kernel) rfl (And.intro hk0 (And.intro hk0 trivial)) ?_
  refine h.icmp_lt (tgt := 13) (show decode cX4_open 8 = .ok (.if_icmp .lt 5, 3) by decide +kernel) (by decide) (fun c1 => ?_) (fun c1 => ?_)
  · rw [if_pos c1] at hf
    refine h.run (o := [kd k0 = 4, kd k0 = 4]) (ls' := [some (.ref k0), some (.int 0)]) (st' := []) (σ' := setI σ k0 3 ((σ.1 k0 3) + 1)) [(.aload_n 0, 1, 0, 0, 0, 0), (.dup, 1, 0, 0, 0, 0), (.getfield 7, 3, 0, 0, 4, 3), (.iconst 1, 1, 1, 0, 0, 0), (.iadd, 1, 0, 0, 0, 0), (.putfield 7, 3, 0, 0, 4, 3), (.iconst 0, 1, 0, 0, 0, 0), (.istore_n 1, 1, 0, 0, 0, 0)] (pc2 := 25) (by decide +kernel) rfl (And.intro hk0 (And.intro hk0 trivial)) ?_
    exact wX4_open_25 hm FU k0 0 _ hk0 hf
  · rw [if_neg c1] at hf
    show V 11 [some (.ref k0), none] [] σ
    refine h.run (o := []) (ls' := [some (.ref k0), none]) (st' := [.int (-1)]) (σ' := σ) [(.iconst (-1), 1, (-1), 0, 0, 0)] (pc2 := 12) (by decide +kernel) rfl trivial ?_
    cases hf
    exact hm.iret (by decide +kernel)
def fX4_has_17 (t0 : Int32) (σ : ST) : Option Int32 :=
  gd (isb t0) <|
  some t0
set_option maxHeartbeats 4000000 in
theorem wX4_has_17 {l : Launch} {V : Nat → List (Option Value) → List Value → ST → Prop} {r : Int32} {σ : ST} {t0 : Int32} (hm : BM l 4 cX4_has 2 (some .boolean) 0 0 (some (.int r)) σ V) (hf : fX4_has_17 t0 σ = some r) : V 17 [none, none] [.int t0] σ := by
  have h := hm.bd
  unfold fX4_has_17 at hf
  obtain ⟨g1, hf⟩ := gd_some hf
  cases hf
  exact hm.zret (by decide +kernel) g1
def fX4_has_16 (σ : ST) : Option Int32 :=
  fX4_has_17 0 σ
set_option maxHeartbeats 4000000 in
theorem wX4_has_16 {l : Launch} {V : Nat → List (Option Value) → List Value → ST → Prop} {r : Int32} {σ : ST} (hm : BM l 4 cX4_has 2 (some .boolean) 0 0 (some (.int r)) σ V) (hf : fX4_has_16 σ = some r) : V 16 [none, none] [] σ := by
  have h := hm.bd
  unfold fX4_has_16 at hf
  refine h.run (o := []) (ls' := [none, none]) (st' := [.int 0]) (σ' := σ) [(.iconst 0, 1, 0, 0, 0, 0)] (pc2 := 17) (by decide +kernel) rfl trivial ?_
  exact wX4_has_17 hm hf
def fX4_has (k0 : Nat) (x1 : Int32) (σ : ST) : Option Int32 :=
  if x1 < 0 then
    fX4_has_16 σ
  else
    if (σ.1 k0 3) ≤ x1 then
      fX4_has_16 σ
    else
      fX4_has_17 1 σ
set_option maxHeartbeats 4000000 in
theorem kmX4_has (l : Launch) {k0 : Nat} {x1 : Int32} {σ : ST} {r : Int32} (hk0 : kd k0 = 4) (hf : fX4_has k0 x1 σ = some r) : KM l yX4_has cX4_has 2 (some .boolean) 0 0 [.ref k0, .int x1] σ (some (.int r)) σ := by
  refine KM.intro (ow := 4) (by decide +kernel) rfl (Nat.le_of_ble_eq_true rfl) (fun V hm => ?_)
  show V 0 [some (.ref k0), some (.int x1)] [] σ
  have h := hm.bd
  unfold fX4_has at hf
  refine h.run (o := []) (ls' := [some (.ref k0), some (.int x1)]) (st' := [.int x1]) (σ' := σ) [(.iload_n 1, 1, 0, 0, 0, 0)] (pc2 := 1) (by decide +kernel) rfl trivial ?_
  refine h.if_lt (tgt := 16) (show decode cX4_has 1 = .ok (.ifCond .lt 15, 3) by decide +kernel) (by decide) (fun c2 => ?_) (fun c2 => ?_)
  · rw [if_pos c2] at hf
    refine h.drop (ls' := [none, none]) trivial ?_
    exact wX4_has_16 hm hf
  · rw [if_neg c2] at hf
    show V 4 [some (.ref k0), some (.int x1)] [] σ
    refine h.run (o := [kd k0 = 4]) (ls' := [some (.ref k0), some (.int x1)]) (st' := [.int (σ.1 k0 3), .int x1]) (σ' := σ) [(.iload_n 1, 1, 0, 0, 0, 0), (.aload_n 0, 1, 0, 0, 0, 0), (.getfield 7, 3, 0, 0, 4, 3)] (pc2 := 9) (by decide +kernel) rfl (And.intro hk0 trivial) ?_
    refine h.icmp_ge (tgt := 16) (show decode cX4_has 9 = .ok (.if_icmp .ge 7, 3) by decide +kernel) (by decide) (fun c1 => ?_) (fun c1 => ?_)
    · rw [if_pos c1] at hf
      refine h.drop (ls' := [none, none]) trivial ?_
      exact wX4_has_16 hm hf
    · rw [if_neg c1] at hf
      show V 12 [some (.ref k0), some (.int x1)] [] σ
      refine h.run (o := []) (ls' := [some (.ref k0), some (.int x1)]) (st' := [.int 1]) (σ' := σ) [(.iconst 1, 1, 1, 0, 0, 0), (.goto 4, 3, 0, 0, 0, 17)] (pc2 := 17) (by decide +kernel) rfl trivial ?_
      refine h.drop (ls' := [none, none]) trivial ?_
      exact wX4_has_17 hm hf
def fX4_read_30 (t0 : Int32) (σ : ST) : Option Int32 :=
  some t0
set_option maxHeartbeats 4000000 in
theorem wX4_read_30 {l : Launch} {V : Nat → List (Option Value) → List Value → ST → Prop} {r : Int32} {σ : ST} {t0 : Int32} (hm : BM l 4 cX4_read 4 (some .int) 1 23 (some (.int r)) σ V) (hf : fX4_read_30 t0 σ = some r) : V 30 [none, none, none, none] [.int t0] σ := by
  have h := hm.bd
  unfold fX4_read_30 at hf
  cases hf
  exact hm.iret (by decide +kernel)
def fX4_read_29 (σ : ST) : Option Int32 :=
  fX4_read_30 0 σ
set_option maxHeartbeats 4000000 in
theorem wX4_read_29 {l : Launch} {V : Nat → List (Option Value) → List Value → ST → Prop} {r : Int32} {σ : ST} (hm : BM l 4 cX4_read 4 (some .int) 1 23 (some (.int r)) σ V) (hf : fX4_read_29 σ = some r) : V 29 [none, none, none, none] [] σ := by
  have h := hm.bd
  unfold fX4_read_29 at hf
  refine h.run (o := []) (ls' := [none, none, none, none]) (st' := [.int 0]) (σ' := σ) [(.iconst 0, 1, 0, 0, 0, 0)] (pc2 := 30) (by decide +kernel) rfl trivial ?_
  exact wX4_read_30 hm hf
def fX4_read (k0 : Nat) (x1 : Int32) (x2 : Int32) (σ : ST) : Option Int32 :=
  bR (fX4_placeOf k0 x1 x2 σ) fun a1 =>
  if a1 < 0 then
    fX4_read_29 σ
  else
    if (Int32.ofNat (alen (k0 + 1))) ≤ a1 then
      fX4_read_29 σ
    else
      gd (inb a1 (alen (k0 + 1))) <|
      fX4_read_30 (σ.1 (k0 + 1) a1.toNatClampNeg) σ
set_option maxHeartbeats 4000000 in
theorem kmX4_read (l : Launch) {k0 : Nat} {x1 : Int32} {x2 : Int32} {σ : ST} {r : Int32} (hk0 : kd k0 = 4) (hf : fX4_read k0 x1 x2 σ = some r) : KM l yX4_read cX4_read 4 (some .int) 1 23 [.ref k0, .int x1, .int x2] σ (some (.int r)) σ := by
  refine KM.intro (ow := 4) (by decide +kernel) rfl (Nat.le_of_ble_eq_true rfl) (fun V hm => ?_)
  show V 0 [some (.ref k0), some (.int x1), some (.int x2), none] [] σ
  have h := hm.bd
  unfold fX4_read at hf
  refine h.run (o := []) (ls' := [some (.ref k0), some (.int x1), some (.int x2), none]) (st' := [.int x2, .int x1, .ref k0]) (σ' := σ) [(.aload_n 0, 1, 0, 0, 0, 0), (.iload_n 1, 1, 0, 0, 0, 0), (.iload_n 2, 1, 0, 0, 0, 0)] (pc2 := 3) (by decide +kernel) rfl trivial ?_
  obtain ⟨a1, e1, hf⟩ := bR_some hf
  refine h.callV (as := [.int x1, .int x2]) (rest := []) (by decide +kernel) lk4_29 cwX4_placeOf hk0 (kmX4_placeOf l hk0 e1) rfl (Nat.le_of_ble_eq_true rfl) (Nat.le_of_ble_eq_true rfl) (Nat.le_of_ble_eq_true rfl) ?_
  show V 6 [some (.ref k0), some (.int x1), some (.int x2), none] [.int a1] σ
  refine h.run (o := []) (ls' := [some (.ref k0), some (.int x1), some (.int x2), some (.int a1)]) (st' := [.int a1]) (σ' := σ) [(.istore_n 3, 1, 0, 0, 0, 0), (.iload_n 3, 1, 0, 0, 0, 0)] (pc2 := 8) (by decide +kernel) rfl trivial ?_
  refine h.if_lt (tgt := 29) (show decode cX4_read 8 = .ok (.ifCond .lt 21, 3) by decide +kernel) (by decide) (fun c4 => ?_) (fun c4 => ?_)
  · rw [if_pos c4] at hf
    refine h.drop (ls' := [none, none, none, none]) trivial ?_
    exact wX4_read_29 hm hf
  · rw [if_neg c4] at hf
    show V 11 [some (.ref k0), some (.int x1), some (.int x2), some (.int a1)] [] σ
    refine h.run (o := [kd k0 = 4, kd (k0 + 1) = 10]) (ls' := [some (.ref k0), some (.int x1), some (.int x2), some (.int a1)]) (st' := [.int (Int32.ofNat (alen (k0 + 1))), .int a1]) (σ' := σ) [(.iload_n 3, 1, 0, 0, 0, 0), (.aload_n 0, 1, 0, 0, 0, 0), (.getfield 25, 3, 0, 0, 4, 2), (.arraylength, 1, 0, 0, 10, 0)] (pc2 := 17) (by decide +kernel) rfl (And.intro hk0 (And.intro (kd_T hk0) trivial)) ?_
    refine h.icmp_ge (tgt := 29) (show decode cX4_read 17 = .ok (.if_icmp .ge 12, 3) by decide +kernel) (by decide) (fun c3 => ?_) (fun c3 => ?_)
    · rw [if_pos c3] at hf
      refine h.drop (ls' := [none, none, none, none]) trivial ?_
      exact wX4_read_29 hm hf
    · rw [if_neg c3] at hf
      show V 20 [some (.ref k0), some (.int x1), some (.int x2), some (.int a1)] [] σ
      obtain ⟨g2, hf⟩ := gd_some hf
      refine h.run (o := [kd k0 = 4, kd (k0 + 1) = 10, inb a1 (alen (k0 + 1)) = true]) (ls' := [some (.ref k0), some (.int x1), some (.int x2), some (.int a1)]) (st' := [.int (σ.1 (k0 + 1) a1.toNatClampNeg)]) (σ' := σ) [(.aload_n 0, 1, 0, 0, 0, 0), (.getfield 25, 3, 0, 0, 4, 2), (.iload_n 3, 1, 0, 0, 0, 0), (.iaload, 1, 0, 0, 0, 0), (.goto 4, 3, 0, 0, 0, 30)] (pc2 := 30) (by decide +kernel) rfl (And.intro hk0 (And.intro (kd_T hk0) (And.intro g2 trivial))) ?_
      refine h.drop (ls' := [none, none, none, none]) trivial ?_
      exact wX4_read_30 hm hf
def fX4_sum_4 (σ : ST) (n : Nat) (k0 : Nat) (x1 : Int32) (x2 : Int32) (x3 : Int32) : Option Int32 := match n with
  | 0 => none
  | n + 1 =>
    if (σ.1 k0 3) ≤ x3 then
      some x2
    else
      bR (fX4_read k0 x3 x1 σ) fun a1 =>
      fX4_sum_4 σ n k0 x1 (x2 + a1) (x3 + 1)
set_option maxHeartbeats 4000000 in
theorem wX4_sum_4 {l : Launch} {V : Nat → List (Option Value) → List Value → ST → Prop} {r : Int32} {σ : ST} (hm : BM l 4 cX4_sum 4 (some .int) 2 46 (some (.int r)) σ V) : ∀ (n : Nat) (k0 : Nat) (x1 : Int32) (x2 : Int32) (x3 : Int32) (hk0 : kd k0 = 4), fX4_sum_4 σ n k0 x1 x2 x3 = some r → V 4 [some (.ref k0), some (.int x1), some (.int x2), some (.int x3)] [] σ := by
  have h := hm.bd
  intro n
  induction n with
  | zero => intro k0 x1 x2 x3 hk0 hf; cases hf
  | succ n ih =>
    intro k0 x1 x2 x3 hk0 hf
    rw [fX4_sum_4] at hf
    refine h.run (o := [kd k0 = 4]) (ls' := [some (.ref k0), some (.int x1), some (.int x2), some (.int x3)]) (st' := [.int (σ.1 k0 3), .int x3]) (σ' := σ) [(.iload_n 3, 1, 0, 0, 0, 0), (.aload_n 0, 1, 0, 0, 0, 0), (.getfield 7, 3, 0, 0, 4, 3)] (pc2 := 9) (by decide +kernel) rfl (And.intro hk0 trivial) ?_
    refine h.icmp_ge (tgt := 27) (show decode cX4_sum 9 = .ok (.if_icmp .ge 18, 3) by decide +kernel) (by decide) (fun c2 => ?_) (fun c2 => ?_)
    · rw [if_pos c2] at hf
      refine h.run (o := []) (ls' := [some (.ref k0), some (.int x1), some (.int x2), some (.int x3)]) (st' := [.int x2]) (σ' := σ) [(.iload_n 2, 1, 0, 0, 0, 0)] (pc2 := 28) (by decide +kernel) rfl trivial ?_
      cases hf
      exact hm.iret (by decide +kernel)
    · rw [if_neg c2] at hf
      show V 12 [some (.ref k0), some (.int x1), some (.int x2), some (.int x3)] [] σ
      refine h.run (o := []) (ls' := [some (.ref k0), some (.int x1), some (.int x2), some (.int x3)]) (st' := [.int x1, .int x3, .ref k0, .int x2]) (σ' := σ) [(.iload_n 2, 1, 0, 0, 0, 0), (.aload_n 0, 1, 0, 0, 0, 0), (.iload_n 3, 1, 0, 0, 0, 0), (.iload_n 1, 1, 0, 0, 0, 0)] (pc2 := 16) (by decide +kernel) rfl trivial ?_
      obtain ⟨a1, e1, hf⟩ := bR_some hf
      refine h.callV (as := [.int x3, .int x1]) (rest := [.int x2]) (by decide +kernel) lk4_36 cwX4_read hk0 (kmX4_read l hk0 e1) rfl (Nat.le_of_ble_eq_true rfl) (Nat.le_of_ble_eq_true rfl) (Nat.le_of_ble_eq_true rfl) ?_
      show V 19 [some (.ref k0), some (.int x1), some (.int x2), some (.int x3)] [.int a1, .int x2] σ
      refine h.run (o := []) (ls' := [some (.ref k0), some (.int x1), some (.int (x2 + a1)), some (.int (x3 + 1))]) (st' := []) (σ' := σ) [(.iadd, 1, 0, 0, 0, 0), (.istore_n 2, 1, 0, 0, 0, 0), (.iinc 3 1, 3, 1, 0, 0, 0), (.goto (-20), 3, 0, 0, 0, 4)] (pc2 := 4) (by decide +kernel) rfl trivial ?_
      exact ih k0 x1 (x2 + a1) (x3 + 1) hk0 hf
def fX4_sum (k0 : Nat) (x1 : Int32) (σ : ST) : Option Int32 :=
  fX4_sum_4 σ FU k0 x1 0 0
set_option maxHeartbeats 4000000 in
theorem kmX4_sum (l : Launch) {k0 : Nat} {x1 : Int32} {σ : ST} {r : Int32} (hk0 : kd k0 = 4) (hf : fX4_sum k0 x1 σ = some r) : KM l yX4_sum cX4_sum 4 (some .int) 2 46 [.ref k0, .int x1] σ (some (.int r)) σ := by
  refine KM.intro (ow := 4) (by decide +kernel) rfl (Nat.le_of_ble_eq_true rfl) (fun V hm => ?_)
  show V 0 [some (.ref k0), some (.int x1), none, none] [] σ
  have h := hm.bd
  unfold fX4_sum at hf
  refine h.run (o := []) (ls' := [some (.ref k0), some (.int x1), some (.int 0), some (.int 0)]) (st' := []) (σ' := σ) [(.iconst 0, 1, 0, 0, 0, 0), (.istore_n 2, 1, 0, 0, 0, 0), (.iconst 0, 1, 0, 0, 0, 0), (.istore_n 3, 1, 0, 0, 0, 0)] (pc2 := 4) (by decide +kernel) rfl trivial ?_
  exact wX4_sum_4 hm FU k0 x1 0 0 hk0 hf
def fX4_sumWhere_38 (kt_6 : Nat → Int32 → Int32 → Int32 → Int32 → Int32 → Option Int32) (k0 : Nat) (x1 : Int32) (x2 : Int32) (x3 : Int32) (x4 : Int32) (x5 : Int32) (σ : ST) : Option Int32 :=
  kt_6 k0 x1 x2 x3 x4 (x5 + 1)
set_option maxHeartbeats 4000000 in
theorem wX4_sumWhere_38 {l : Launch} {V : Nat → List (Option Value) → List Value → ST → Prop} {r : Int32} {σ : ST} {k0 : Nat} {x1 : Int32} {x2 : Int32} {x3 : Int32} {x4 : Int32} {x5 : Int32} {kt_6 : Nat → Int32 → Int32 → Int32 → Int32 → Int32 → Option Int32} (hm : BM l 4 cX4_sumWhere 6 (some .int) 2 46 (some (.int r)) σ V) (hkt_6 : ∀ (k0 : Nat) (x1 : Int32) (x2 : Int32) (x3 : Int32) (x4 : Int32) (x5 : Int32), kd k0 = 4 → kt_6 k0 x1 x2 x3 x4 x5 = some r → V 6 [some (.ref k0), some (.int x1), some (.int x2), some (.int x3), some (.int x4), some (.int x5)] [] σ) (hk0 : kd k0 = 4) (hf : fX4_sumWhere_38 kt_6 k0 x1 x2 x3 x4 x5 σ = some r) : V 38 [some (.ref k0), some (.int x1), some (.int x2), some (.int x3), some (.int x4), some (.int x5)] [] σ := by
  have h := hm.bd
  unfold fX4_sumWhere_38 at hf
  refine h.run (o := []) (ls' := [some (.ref k0), some (.int x1), some (.int x2), some (.int x3), some (.int x4), some (.int (x5 + 1))]) (st' := []) (σ' := σ) [(.iinc 5 1, 3, 1, 0, 0, 0), (.goto (-35), 3, 0, 0, 0, 6)] (pc2 := 6) (by decide +kernel) rfl trivial ?_
  exact hkt_6 k0 x1 x2 x3 x4 (x5 + 1) hk0 hf
def fX4_sumWhere_6 (σ : ST) (n : Nat) (k0 : Nat) (x1 : Int32) (x2 : Int32) (x3 : Int32) (x4 : Int32) (x5 : Int32) : Option Int32 := match n with
  | 0 => none
  | n + 1 =>
    if (σ.1 k0 3) ≤ x5 then
      some x4
    else
      bR (fX4_read k0 x5 x1 σ) fun a1 =>
      if a1 = x2 then
        bR (fX4_read k0 x5 x3 σ) fun a2 =>
        fX4_sumWhere_38 (fX4_sumWhere_6 σ n) k0 x1 x2 x3 (x4 + a2) x5 σ
      else
        fX4_sumWhere_38 (fX4_sumWhere_6 σ n) k0 x1 x2 x3 x4 x5 σ
set_option maxHeartbeats 4000000 in
theorem wX4_sumWhere_6 {l : Launch} {V : Nat → List (Option Value) → List Value → ST → Prop} {r : Int32} {σ : ST} (hm : BM l 4 cX4_sumWhere 6 (some .int) 2 46 (some (.int r)) σ V) : ∀ (n : Nat) (k0 : Nat) (x1 : Int32) (x2 : Int32) (x3 : Int32) (x4 : Int32) (x5 : Int32) (hk0 : kd k0 = 4), fX4_sumWhere_6 σ n k0 x1 x2 x3 x4 x5 = some r → V 6 [some (.ref k0), some (.int x1), some (.int x2), some (.int x3), some (.int x4), some (.int x5)] [] σ := by
  have h := hm.bd
  intro n
  induction n with
  | zero => intro k0 x1 x2 x3 x4 x5 hk0 hf; cases hf
  | succ n ih =>
    intro k0 x1 x2 x3 x4 x5 hk0 hf
    rw [fX4_sumWhere_6] at hf
    refine h.run (o := [kd k0 = 4]) (ls' := [some (.ref k0), some (.int x1), some (.int x2), some (.int x3), some (.int x4), some (.int x5)]) (st' := [.int (σ.1 k0 3), .int x5]) (σ' := σ) [(.iload 5, 2, 0, 0, 0, 0), (.aload_n 0, 1, 0, 0, 0, 0), (.getfield 7, 3, 0, 0, 4, 3)] (pc2 := 12) (by decide +kernel) rfl (And.intro hk0 trivial) ?_
    refine h.icmp_ge (tgt := 44) (show decode cX4_sumWhere 12 = .ok (.if_icmp .ge 32, 3) by decide +kernel) (by decide) (fun c4 => ?_) (fun c4 => ?_)
    · rw [if_pos c4] at hf
      refine h.run (o := []) (ls' := [some (.ref k0), some (.int x1), some (.int x2), some (.int x3), some (.int x4), some (.int x5)]) (st' := [.int x4]) (σ' := σ) [(.iload 4, 2, 0, 0, 0, 0)] (pc2 := 46) (by decide +kernel) rfl trivial ?_
      cases hf
      exact hm.iret (by decide +kernel)
    · rw [if_neg c4] at hf
      show V 15 [some (.ref k0), some (.int x1), some (.int x2), some (.int x3), some (.int x4), some (.int x5)] [] σ
      refine h.run (o := []) (ls' := [some (.ref k0), some (.int x1), some (.int x2), some (.int x3), some (.int x4), some (.int x5)]) (st' := [.int x1, .int x5, .ref k0]) (σ' := σ) [(.aload_n 0, 1, 0, 0, 0, 0), (.iload 5, 2, 0, 0, 0, 0), (.iload_n 1, 1, 0, 0, 0, 0)] (pc2 := 19) (by decide +kernel) rfl trivial ?_
      obtain ⟨a1, e1, hf⟩ := bR_some hf
      refine h.callV (as := [.int x5, .int x1]) (rest := []) (by decide +kernel) lk4_36 cwX4_read hk0 (kmX4_read l hk0 e1) rfl (Nat.le_of_ble_eq_true rfl) (Nat.le_of_ble_eq_true rfl) (Nat.le_of_ble_eq_true rfl) ?_
      show V 22 [some (.ref k0), some (.int x1), some (.int x2), some (.int x3), some (.int x4), some (.int x5)] [.int a1] σ
      refine h.run (o := []) (ls' := [some (.ref k0), some (.int x1), some (.int x2), some (.int x3), some (.int x4), some (.int x5)]) (st' := [.int x2, .int a1]) (σ' := σ) [(.iload_n 2, 1, 0, 0, 0, 0)] (pc2 := 23) (by decide +kernel) rfl trivial ?_
      refine h.icmp_ne (tgt := 38) (show decode cX4_sumWhere 23 = .ok (.if_icmp .ne 15, 3) by decide +kernel) (by decide) (fun c3 => ?_) (fun c3 => ?_)
      · rw [if_neg c3] at hf
        exact wX4_sumWhere_38 hm ih hk0 hf
      · rw [if_pos c3] at hf
        show V 26 [some (.ref k0), some (.int x1), some (.int x2), some (.int x3), some (.int x4), some (.int x5)] [] σ
        refine h.run (o := []) (ls' := [some (.ref k0), some (.int x1), some (.int x2), some (.int x3), some (.int x4), some (.int x5)]) (st' := [.int x3, .int x5, .ref k0, .int x4]) (σ' := σ) [(.iload 4, 2, 0, 0, 0, 0), (.aload_n 0, 1, 0, 0, 0, 0), (.iload 5, 2, 0, 0, 0, 0), (.iload_n 3, 1, 0, 0, 0, 0)] (pc2 := 32) (by decide +kernel) rfl trivial ?_
        obtain ⟨a2, e2, hf⟩ := bR_some hf
        refine h.callV (as := [.int x5, .int x3]) (rest := [.int x4]) (by decide +kernel) lk4_36 cwX4_read hk0 (kmX4_read l hk0 e2) rfl (Nat.le_of_ble_eq_true rfl) (Nat.le_of_ble_eq_true rfl) (Nat.le_of_ble_eq_true rfl) ?_
        show V 35 [some (.ref k0), some (.int x1), some (.int x2), some (.int x3), some (.int x4), some (.int x5)] [.int a2, .int x4] σ
        refine h.run (o := []) (ls' := [some (.ref k0), some (.int x1), some (.int x2), some (.int x3), some (.int (x4 + a2)), some (.int x5)]) (st' := []) (σ' := σ) [(.iadd, 1, 0, 0, 0, 0), (.istore 4, 2, 0, 0, 0, 0)] (pc2 := 38) (by decide +kernel) rfl trivial ?_
        exact wX4_sumWhere_38 hm ih hk0 hf
def fX4_sumWhere (k0 : Nat) (x1 : Int32) (x2 : Int32) (x3 : Int32) (σ : ST) : Option Int32 :=
  fX4_sumWhere_6 σ FU k0 x1 x2 x3 0 0
set_option maxHeartbeats 4000000 in
theorem kmX4_sumWhere (l : Launch) {k0 : Nat} {x1 : Int32} {x2 : Int32} {x3 : Int32} {σ : ST} {r : Int32} (hk0 : kd k0 = 4) (hf : fX4_sumWhere k0 x1 x2 x3 σ = some r) : KM l yX4_sumWhere cX4_sumWhere 6 (some .int) 2 46 [.ref k0, .int x1, .int x2, .int x3] σ (some (.int r)) σ := by
  refine KM.intro (ow := 4) (by decide +kernel) rfl (Nat.le_of_ble_eq_true rfl) (fun V hm => ?_)
  show V 0 [some (.ref k0), some (.int x1), some (.int x2), some (.int x3), none, none] [] σ
  have h := hm.bd
  unfold fX4_sumWhere at hf
  refine h.run (o := []) (ls' := [some (.ref k0), some (.int x1), some (.int x2), some (.int x3), some (.int 0), some (.int 0)]) (st' := []) (σ' := σ) [(.iconst 0, 1, 0, 0, 0, 0), (.istore 4, 2, 0, 0, 0, 0), (.iconst 0, 1, 0, 0, 0, 0), (.istore 5, 2, 0, 0, 0, 0)] (pc2 := 6) (by decide +kernel) rfl trivial ?_
  exact wX4_sumWhere_6 hm FU k0 x1 x2 x3 0 0 hk0 hf
def fX4_rowsWhere_28 (kt_5 : Nat → Int32 → Int32 → Int32 → Int32 → Option Int32) (k0 : Nat) (x1 : Int32) (x2 : Int32) (x3 : Int32) (x4 : Int32) (σ : ST) : Option Int32 :=
  kt_5 k0 x1 x2 x3 (x4 + 1)
set_option maxHeartbeats 4000000 in
theorem wX4_rowsWhere_28 {l : Launch} {V : Nat → List (Option Value) → List Value → ST → Prop} {r : Int32} {σ : ST} {k0 : Nat} {x1 : Int32} {x2 : Int32} {x3 : Int32} {x4 : Int32} {kt_5 : Nat → Int32 → Int32 → Int32 → Int32 → Option Int32} (hm : BM l 4 cX4_rowsWhere 5 (some .int) 2 46 (some (.int r)) σ V) (hkt_5 : ∀ (k0 : Nat) (x1 : Int32) (x2 : Int32) (x3 : Int32) (x4 : Int32), kd k0 = 4 → kt_5 k0 x1 x2 x3 x4 = some r → V 5 [some (.ref k0), some (.int x1), some (.int x2), some (.int x3), some (.int x4)] [] σ) (hk0 : kd k0 = 4) (hf : fX4_rowsWhere_28 kt_5 k0 x1 x2 x3 x4 σ = some r) : V 28 [some (.ref k0), some (.int x1), some (.int x2), some (.int x3), some (.int x4)] [] σ := by
  have h := hm.bd
  unfold fX4_rowsWhere_28 at hf
  refine h.run (o := []) (ls' := [some (.ref k0), some (.int x1), some (.int x2), some (.int x3), some (.int (x4 + 1))]) (st' := []) (σ' := σ) [(.iinc 4 1, 3, 1, 0, 0, 0), (.goto (-26), 3, 0, 0, 0, 5)] (pc2 := 5) (by decide +kernel) rfl trivial ?_
  exact hkt_5 k0 x1 x2 x3 (x4 + 1) hk0 hf
def fX4_rowsWhere_5 (σ : ST) (n : Nat) (k0 : Nat) (x1 : Int32) (x2 : Int32) (x3 : Int32) (x4 : Int32) : Option Int32 := match n with
  | 0 => none
  | n + 1 =>
    if (σ.1 k0 3) ≤ x4 then
      some x3
    else
      bR (fX4_read k0 x4 x1 σ) fun a1 =>
      if a1 = x2 then
        fX4_rowsWhere_28 (fX4_rowsWhere_5 σ n) k0 x1 x2 (x3 + 1) x4 σ
      else
        fX4_rowsWhere_28 (fX4_rowsWhere_5 σ n) k0 x1 x2 x3 x4 σ
set_option maxHeartbeats 4000000 in
theorem wX4_rowsWhere_5 {l : Launch} {V : Nat → List (Option Value) → List Value → ST → Prop} {r : Int32} {σ : ST} (hm : BM l 4 cX4_rowsWhere 5 (some .int) 2 46 (some (.int r)) σ V) : ∀ (n : Nat) (k0 : Nat) (x1 : Int32) (x2 : Int32) (x3 : Int32) (x4 : Int32) (hk0 : kd k0 = 4), fX4_rowsWhere_5 σ n k0 x1 x2 x3 x4 = some r → V 5 [some (.ref k0), some (.int x1), some (.int x2), some (.int x3), some (.int x4)] [] σ := by
  have h := hm.bd
  intro n
  induction n with
  | zero => intro k0 x1 x2 x3 x4 hk0 hf; cases hf
  | succ n ih =>
    intro k0 x1 x2 x3 x4 hk0 hf
    rw [fX4_rowsWhere_5] at hf
    refine h.run (o := [kd k0 = 4]) (ls' := [some (.ref k0), some (.int x1), some (.int x2), some (.int x3), some (.int x4)]) (st' := [.int (σ.1 k0 3), .int x4]) (σ' := σ) [(.iload 4, 2, 0, 0, 0, 0), (.aload_n 0, 1, 0, 0, 0, 0), (.getfield 7, 3, 0, 0, 4, 3)] (pc2 := 11) (by decide +kernel) rfl (And.intro hk0 trivial) ?_
    refine h.icmp_ge (tgt := 34) (show decode cX4_rowsWhere 11 = .ok (.if_icmp .ge 23, 3) by decide +kernel) (by decide) (fun c3 => ?_) (fun c3 => ?_)
    · rw [if_pos c3] at hf
      refine h.run (o := []) (ls' := [some (.ref k0), some (.int x1), some (.int x2), some (.int x3), some (.int x4)]) (st' := [.int x3]) (σ' := σ) [(.iload_n 3, 1, 0, 0, 0, 0)] (pc2 := 35) (by decide +kernel) rfl trivial ?_
      cases hf
      exact hm.iret (by decide +kernel)
    · rw [if_neg c3] at hf
      show V 14 [some (.ref k0), some (.int x1), some (.int x2), some (.int x3), some (.int x4)] [] σ
      refine h.run (o := []) (ls' := [some (.ref k0), some (.int x1), some (.int x2), some (.int x3), some (.int x4)]) (st' := [.int x1, .int x4, .ref k0]) (σ' := σ) [(.aload_n 0, 1, 0, 0, 0, 0), (.iload 4, 2, 0, 0, 0, 0), (.iload_n 1, 1, 0, 0, 0, 0)] (pc2 := 18) (by decide +kernel) rfl trivial ?_
      obtain ⟨a1, e1, hf⟩ := bR_some hf
      refine h.callV (as := [.int x4, .int x1]) (rest := []) (by decide +kernel) lk4_36 cwX4_read hk0 (kmX4_read l hk0 e1) rfl (Nat.le_of_ble_eq_true rfl) (Nat.le_of_ble_eq_true rfl) (Nat.le_of_ble_eq_true rfl) ?_
      show V 21 [some (.ref k0), some (.int x1), some (.int x2), some (.int x3), some (.int x4)] [.int a1] σ
      refine h.run (o := []) (ls' := [some (.ref k0), some (.int x1), some (.int x2), some (.int x3), some (.int x4)]) (st' := [.int x2, .int a1]) (σ' := σ) [(.iload_n 2, 1, 0, 0, 0, 0)] (pc2 := 22) (by decide +kernel) rfl trivial ?_
      refine h.icmp_ne (tgt := 28) (show decode cX4_rowsWhere 22 = .ok (.if_icmp .ne 6, 3) by decide +kernel) (by decide) (fun c2 => ?_) (fun c2 => ?_)
      · rw [if_neg c2] at hf
        exact wX4_rowsWhere_28 hm ih hk0 hf
      · rw [if_pos c2] at hf
        show V 25 [some (.ref k0), some (.int x1), some (.int x2), some (.int x3), some (.int x4)] [] σ
        refine h.run (o := []) (ls' := [some (.ref k0), some (.int x1), some (.int x2), some (.int (x3 + 1)), some (.int x4)]) (st' := []) (σ' := σ) [(.iinc 3 1, 3, 1, 0, 0, 0)] (pc2 := 28) (by decide +kernel) rfl trivial ?_
        exact wX4_rowsWhere_28 hm ih hk0 hf
def fX4_rowsWhere (k0 : Nat) (x1 : Int32) (x2 : Int32) (σ : ST) : Option Int32 :=
  fX4_rowsWhere_5 σ FU k0 x1 x2 0 0
set_option maxHeartbeats 4000000 in
theorem kmX4_rowsWhere (l : Launch) {k0 : Nat} {x1 : Int32} {x2 : Int32} {σ : ST} {r : Int32} (hk0 : kd k0 = 4) (hf : fX4_rowsWhere k0 x1 x2 σ = some r) : KM l yX4_rowsWhere cX4_rowsWhere 5 (some .int) 2 46 [.ref k0, .int x1, .int x2] σ (some (.int r)) σ := by
  refine KM.intro (ow := 4) (by decide +kernel) rfl (Nat.le_of_ble_eq_true rfl) (fun V hm => ?_)
  show V 0 [some (.ref k0), some (.int x1), some (.int x2), none, none] [] σ
  have h := hm.bd
  unfold fX4_rowsWhere at hf
  refine h.run (o := []) (ls' := [some (.ref k0), some (.int x1), some (.int x2), some (.int 0), some (.int 0)]) (st' := []) (σ' := σ) [(.iconst 0, 1, 0, 0, 0, 0), (.istore_n 3, 1, 0, 0, 0, 0), (.iconst 0, 1, 0, 0, 0, 0), (.istore 4, 2, 0, 0, 0, 0)] (pc2 := 5) (by decide +kernel) rfl trivial ?_
  exact wX4_rowsWhere_5 hm FU k0 x1 x2 0 0 hk0 hf
end
section
/-! Printed by wip/whole/prt.py: functions and walks. -/
def fX3_has_26 (t0 : Int32) (σ : ST) : Option Int32 :=
  gd (isb t0) <|
  some t0
set_option maxHeartbeats 4000000 in
theorem wX3_has_26 {l : Launch} {V : Nat → List (Option Value) → List Value → ST → Prop} {r : Int32} {σ : ST} {t0 : Int32} (hm : BM l 3 cX3_has 2 (some .boolean) 0 0 (some (.int r)) σ V) (hf : fX3_has_26 t0 σ = some r) : V 26 [none, none] [.int t0] σ := by
  have h := hm.bd
  unfold fX3_has_26 at hf
  obtain ⟨g1, hf⟩ := gd_some hf
  cases hf
  exact hm.zret (by decide +kernel) g1
def fX3_has_25 (σ : ST) : Option Int32 :=
  fX3_has_26 0 σ
set_option maxHeartbeats 4000000 in
theorem wX3_has_25 {l : Launch} {V : Nat → List (Option Value) → List Value → ST → Prop} {r : Int32} {σ : ST} (hm : BM l 3 cX3_has 2 (some .boolean) 0 0 (some (.int r)) σ V) (hf : fX3_has_25 σ = some r) : V 25 [none, none] [] σ := by
  have h := hm.bd
  unfold fX3_has_25 at hf
  refine h.run (o := []) (ls' := [none, none]) (st' := [.int 0]) (σ' := σ) [(.iconst 0, 1, 0, 0, 0, 0)] (pc2 := 26) (by decide +kernel) rfl trivial ?_
  exact wX3_has_26 hm hf
def fX3_has (k0 : Nat) (x1 : Int32) (σ : ST) : Option Int32 :=
  if x1 < 0 then
    fX3_has_25 σ
  else
    if (σ.1 k0 6) ≤ x1 then
      fX3_has_25 σ
    else
      if (Int32.ofNat (alen (k0 + 1))) ≤ x1 then
        fX3_has_25 σ
      else
        fX3_has_26 1 σ
set_option maxHeartbeats 4000000 in
theorem kmX3_has (l : Launch) {k0 : Nat} {x1 : Int32} {σ : ST} {r : Int32} (hk0 : kd k0 = 3) (hf : fX3_has k0 x1 σ = some r) : KM l yX3_has cX3_has 2 (some .boolean) 0 0 [.ref k0, .int x1] σ (some (.int r)) σ := by
  refine KM.intro (ow := 3) (by decide +kernel) rfl (Nat.le_of_ble_eq_true rfl) (fun V hm => ?_)
  show V 0 [some (.ref k0), some (.int x1)] [] σ
  have h := hm.bd
  unfold fX3_has at hf
  refine h.run (o := []) (ls' := [some (.ref k0), some (.int x1)]) (st' := [.int x1]) (σ' := σ) [(.iload_n 1, 1, 0, 0, 0, 0)] (pc2 := 1) (by decide +kernel) rfl trivial ?_
  refine h.if_lt (tgt := 25) (show decode cX3_has 1 = .ok (.ifCond .lt 24, 3) by decide +kernel) (by decide) (fun c3 => ?_) (fun c3 => ?_)
  · rw [if_pos c3] at hf
    refine h.drop (ls' := [none, none]) trivial ?_
    exact wX3_has_25 hm hf
  · rw [if_neg c3] at hf
    show V 4 [some (.ref k0), some (.int x1)] [] σ
    refine h.run (o := [kd k0 = 3]) (ls' := [some (.ref k0), some (.int x1)]) (st' := [.int (σ.1 k0 6), .int x1]) (σ' := σ) [(.iload_n 1, 1, 0, 0, 0, 0), (.aload_n 0, 1, 0, 0, 0, 0), (.getfield 22, 3, 0, 0, 3, 6)] (pc2 := 9) (by decide +kernel) rfl (And.intro hk0 trivial) ?_
    refine h.icmp_ge (tgt := 25) (show decode cX3_has 9 = .ok (.if_icmp .ge 16, 3) by decide +kernel) (by decide) (fun c2 => ?_) (fun c2 => ?_)
    · rw [if_pos c2] at hf
      refine h.drop (ls' := [none, none]) trivial ?_
      exact wX3_has_25 hm hf
    · rw [if_neg c2] at hf
      show V 12 [some (.ref k0), some (.int x1)] [] σ
      refine h.run (o := [kd k0 = 3, kd (k0 + 1) = 10]) (ls' := [some (.ref k0), some (.int x1)]) (st' := [.int (Int32.ofNat (alen (k0 + 1))), .int x1]) (σ' := σ) [(.iload_n 1, 1, 0, 0, 0, 0), (.aload_n 0, 1, 0, 0, 0, 0), (.getfield 15, 3, 0, 0, 3, 7), (.arraylength, 1, 0, 0, 10, 0)] (pc2 := 18) (by decide +kernel) rfl (And.intro hk0 (And.intro (kd_S hk0).1 trivial)) ?_
      refine h.icmp_ge (tgt := 25) (show decode cX3_has 18 = .ok (.if_icmp .ge 7, 3) by decide +kernel) (by decide) (fun c1 => ?_) (fun c1 => ?_)
      · rw [if_pos c1] at hf
        refine h.drop (ls' := [none, none]) trivial ?_
        exact wX3_has_25 hm hf
      · rw [if_neg c1] at hf
        show V 21 [some (.ref k0), some (.int x1)] [] σ
        refine h.run (o := []) (ls' := [some (.ref k0), some (.int x1)]) (st' := [.int 1]) (σ' := σ) [(.iconst 1, 1, 1, 0, 0, 0), (.goto 4, 3, 0, 0, 0, 26)] (pc2 := 26) (by decide +kernel) rfl trivial ?_
        refine h.drop (ls' := [none, none]) trivial ?_
        exact wX3_has_26 hm hf
def fX3_read_18 (t0 : Int32) (σ : ST) : Option Int32 :=
  some t0
set_option maxHeartbeats 4000000 in
theorem wX3_read_18 {l : Launch} {V : Nat → List (Option Value) → List Value → ST → Prop} {r : Int32} {σ : ST} {t0 : Int32} (hm : BM l 3 cX3_read 2 (some .int) 1 21 (some (.int r)) σ V) (hf : fX3_read_18 t0 σ = some r) : V 18 [none, none] [.int t0] σ := by
  have h := hm.bd
  unfold fX3_read_18 at hf
  cases hf
  exact hm.iret (by decide +kernel)
def fX3_read (k0 : Nat) (x1 : Int32) (σ : ST) : Option Int32 :=
  bR (fX3_has k0 x1 σ) fun a1 =>
  if a1 = 0 then
    fX3_read_18 0 σ
  else
    gd (inb x1 (alen (k0 + 1))) <|
    fX3_read_18 (σ.1 (k0 + 1) x1.toNatClampNeg) σ
set_option maxHeartbeats 4000000 in
theorem kmX3_read (l : Launch) {k0 : Nat} {x1 : Int32} {σ : ST} {r : Int32} (hk0 : kd k0 = 3) (hf : fX3_read k0 x1 σ = some r) : KM l yX3_read cX3_read 2 (some .int) 1 21 [.ref k0, .int x1] σ (some (.int r)) σ := by
  refine KM.intro (ow := 3) (by decide +kernel) rfl (Nat.le_of_ble_eq_true rfl) (fun V hm => ?_)
  show V 0 [some (.ref k0), some (.int x1)] [] σ
  have h := hm.bd
  unfold fX3_read at hf
  refine h.run (o := []) (ls' := [some (.ref k0), some (.int x1)]) (st' := [.int x1, .ref k0]) (σ' := σ) [(.aload_n 0, 1, 0, 0, 0, 0), (.iload_n 1, 1, 0, 0, 0, 0)] (pc2 := 2) (by decide +kernel) rfl trivial ?_
  obtain ⟨a1, e1, hf⟩ := bR_some hf
  refine h.callV (as := [.int x1]) (rest := []) (by decide +kernel) lk3_25 cwX3_has hk0 (kmX3_has l hk0 e1) rfl (Nat.le_of_ble_eq_true rfl) (Nat.le_of_ble_eq_true rfl) (Nat.le_of_ble_eq_true rfl) ?_
  show V 5 [some (.ref k0), some (.int x1)] [.int a1] σ
  refine h.if_eq (tgt := 17) (show decode cX3_read 5 = .ok (.ifCond .eq 12, 3) by decide +kernel) (by decide) (fun c3 => ?_) (fun c3 => ?_)
  · rw [if_pos c3] at hf
    refine h.run (o := []) (ls' := [some (.ref k0), some (.int x1)]) (st' := [.int 0]) (σ' := σ) [(.iconst 0, 1, 0, 0, 0, 0)] (pc2 := 18) (by decide +kernel) rfl trivial ?_
    refine h.drop (ls' := [none, none]) trivial ?_
    exact wX3_read_18 hm hf
  · rw [if_neg c3] at hf
    show V 8 [some (.ref k0), some (.int x1)] [] σ
    obtain ⟨g2, hf⟩ := gd_some hf
    refine h.run (o := [kd k0 = 3, kd (k0 + 1) = 10, inb x1 (alen (k0 + 1)) = true]) (ls' := [some (.ref k0), some (.int x1)]) (st' := [.int (σ.1 (k0 + 1) x1.toNatClampNeg)]) (σ' := σ) [(.aload_n 0, 1, 0, 0, 0, 0), (.getfield 15, 3, 0, 0, 3, 7), (.iload_n 1, 1, 0, 0, 0, 0), (.iaload, 1, 0, 0, 0, 0), (.goto 4, 3, 0, 0, 0, 18)] (pc2 := 18) (by decide +kernel) rfl (And.intro hk0 (And.intro (kd_S hk0).1 (And.intro g2 trivial))) ?_
    refine h.drop (ls' := [none, none]) trivial ?_
    exact wX3_read_18 hm hf
def fX3_refusalAsRow_24 (t0 : Int32) (σ : ST) : Option Int32 :=
  some t0
set_option maxHeartbeats 4000000 in
theorem wX3_refusalAsRow_24 {l : Launch} {V : Nat → List (Option Value) → List Value → ST → Prop} {r : Int32} {σ : ST} {t0 : Int32} (hm : BM l 3 cX3_refusalAsRow 1 (some .int) 0 0 (some (.int r)) σ V) (hf : fX3_refusalAsRow_24 t0 σ = some r) : V 24 [none] [.int t0] σ := by
  have h := hm.bd
  unfold fX3_refusalAsRow_24 at hf
  cases hf
  exact hm.iret (by decide +kernel)
def fX3_refusalAsRow (k0 : Nat) (σ : ST) : Option Int32 :=
  if (σ.1 k0 0) = 0 then
    some (-11)
  else
    if (σ.1 k0 0) = 2 then
      fX3_refusalAsRow_24 0 σ
    else
      fX3_refusalAsRow_24 (-12) σ
set_option maxHeartbeats 4000000 in
theorem kmX3_refusalAsRow (l : Launch) {k0 : Nat} {σ : ST} {r : Int32} (hk0 : kd k0 = 3) (hf : fX3_refusalAsRow k0 σ = some r) : KM l yX3_refusalAsRow cX3_refusalAsRow 1 (some .int) 0 0 [.ref k0] σ (some (.int r)) σ := by
  refine KM.intro (ow := 3) (by decide +kernel) rfl (Nat.le_of_ble_eq_true rfl) (fun V hm => ?_)
  show V 0 [some (.ref k0)] [] σ
  have h := hm.bd
  unfold fX3_refusalAsRow at hf
  refine h.run (o := [kd k0 = 3]) (ls' := [some (.ref k0)]) (st' := [.int (σ.1 k0 0)]) (σ' := σ) [(.aload_n 0, 1, 0, 0, 0, 0), (.getfield 9, 3, 0, 0, 3, 0)] (pc2 := 4) (by decide +kernel) rfl (And.intro hk0 trivial) ?_
  refine h.if_ne (tgt := 10) (show decode cX3_refusalAsRow 4 = .ok (.ifCond .ne 6, 3) by decide +kernel) (by decide) (fun c2 => ?_) (fun c2 => ?_)
  · rw [if_neg c2] at hf
    refine h.run (o := [kd k0 = 3]) (ls' := [some (.ref k0)]) (st' := [.int 2, .int (σ.1 k0 0)]) (σ' := σ) [(.aload_n 0, 1, 0, 0, 0, 0), (.getfield 9, 3, 0, 0, 3, 0), (.iconst 2, 1, 2, 0, 0, 0)] (pc2 := 15) (by decide +kernel) rfl (And.intro hk0 trivial) ?_
    refine h.icmp_ne (tgt := 22) (show decode cX3_refusalAsRow 15 = .ok (.if_icmp .ne 7, 3) by decide +kernel) (by decide) (fun c1 => ?_) (fun c1 => ?_)
    · rw [if_neg c1] at hf
      refine h.run (o := []) (ls' := [some (.ref k0)]) (st' := [.int (-12)]) (σ' := σ) [(.bipush (-12), 2, (-12), 0, 0, 0)] (pc2 := 24) (by decide +kernel) rfl trivial ?_
      refine h.drop (ls' := [none]) trivial ?_
      exact wX3_refusalAsRow_24 hm hf
    · rw [if_pos c1] at hf
      show V 18 [some (.ref k0)] [] σ
      refine h.run (o := []) (ls' := [some (.ref k0)]) (st' := [.int 0]) (σ' := σ) [(.iconst 0, 1, 0, 0, 0, 0), (.goto 5, 3, 0, 0, 0, 24)] (pc2 := 24) (by decide +kernel) rfl trivial ?_
      refine h.drop (ls' := [none]) trivial ?_
      exact wX3_refusalAsRow_24 hm hf
  · rw [if_pos c2] at hf
    show V 7 [some (.ref k0)] [] σ
    refine h.run (o := []) (ls' := [some (.ref k0)]) (st' := [.int (-11)]) (σ' := σ) [(.bipush (-11), 2, (-11), 0, 0, 0)] (pc2 := 9) (by decide +kernel) rfl trivial ?_
    cases hf
    exact hm.iret (by decide +kernel)
def fX3_refusalAsSender_24 (t0 : Int32) (σ : ST) : Option Int32 :=
  some t0
set_option maxHeartbeats 4000000 in
theorem wX3_refusalAsSender_24 {l : Launch} {V : Nat → List (Option Value) → List Value → ST → Prop} {r : Int32} {σ : ST} {t0 : Int32} (hm : BM l 3 cX3_refusalAsSender 1 (some .int) 0 0 (some (.int r)) σ V) (hf : fX3_refusalAsSender_24 t0 σ = some r) : V 24 [none] [.int t0] σ := by
  have h := hm.bd
  unfold fX3_refusalAsSender_24 at hf
  cases hf
  exact hm.iret (by decide +kernel)
def fX3_refusalAsSender (k0 : Nat) (σ : ST) : Option Int32 :=
  if (σ.1 k0 0) = 0 then
    some (-11)
  else
    if (σ.1 k0 0) = 1 then
      fX3_refusalAsSender_24 0 σ
    else
      fX3_refusalAsSender_24 (-12) σ
set_option maxHeartbeats 4000000 in
theorem kmX3_refusalAsSender (l : Launch) {k0 : Nat} {σ : ST} {r : Int32} (hk0 : kd k0 = 3) (hf : fX3_refusalAsSender k0 σ = some r) : KM l yX3_refusalAsSender cX3_refusalAsSender 1 (some .int) 0 0 [.ref k0] σ (some (.int r)) σ := by
  refine KM.intro (ow := 3) (by decide +kernel) rfl (Nat.le_of_ble_eq_true rfl) (fun V hm => ?_)
  show V 0 [some (.ref k0)] [] σ
  have h := hm.bd
  unfold fX3_refusalAsSender at hf
  refine h.run (o := [kd k0 = 3]) (ls' := [some (.ref k0)]) (st' := [.int (σ.1 k0 0)]) (σ' := σ) [(.aload_n 0, 1, 0, 0, 0, 0), (.getfield 9, 3, 0, 0, 3, 0)] (pc2 := 4) (by decide +kernel) rfl (And.intro hk0 trivial) ?_
  refine h.if_ne (tgt := 10) (show decode cX3_refusalAsSender 4 = .ok (.ifCond .ne 6, 3) by decide +kernel) (by decide) (fun c2 => ?_) (fun c2 => ?_)
  · rw [if_neg c2] at hf
    refine h.run (o := [kd k0 = 3]) (ls' := [some (.ref k0)]) (st' := [.int 1, .int (σ.1 k0 0)]) (σ' := σ) [(.aload_n 0, 1, 0, 0, 0, 0), (.getfield 9, 3, 0, 0, 3, 0), (.iconst 1, 1, 1, 0, 0, 0)] (pc2 := 15) (by decide +kernel) rfl (And.intro hk0 trivial) ?_
    refine h.icmp_ne (tgt := 22) (show decode cX3_refusalAsSender 15 = .ok (.if_icmp .ne 7, 3) by decide +kernel) (by decide) (fun c1 => ?_) (fun c1 => ?_)
    · rw [if_neg c1] at hf
      refine h.run (o := []) (ls' := [some (.ref k0)]) (st' := [.int (-12)]) (σ' := σ) [(.bipush (-12), 2, (-12), 0, 0, 0)] (pc2 := 24) (by decide +kernel) rfl trivial ?_
      refine h.drop (ls' := [none]) trivial ?_
      exact wX3_refusalAsSender_24 hm hf
    · rw [if_pos c1] at hf
      show V 18 [some (.ref k0)] [] σ
      refine h.run (o := []) (ls' := [some (.ref k0)]) (st' := [.int 0]) (σ' := σ) [(.iconst 0, 1, 0, 0, 0, 0), (.goto 5, 3, 0, 0, 0, 24)] (pc2 := 24) (by decide +kernel) rfl trivial ?_
      refine h.drop (ls' := [none]) trivial ?_
      exact wX3_refusalAsSender_24 hm hf
  · rw [if_pos c2] at hf
    show V 7 [some (.ref k0)] [] σ
    refine h.run (o := []) (ls' := [some (.ref k0)]) (st' := [.int (-11)]) (σ' := σ) [(.bipush (-11), 2, (-11), 0, 0, 0)] (pc2 := 9) (by decide +kernel) rfl trivial ?_
    cases hf
    exact hm.iret (by decide +kernel)
def fX3_becomeRow_17 (n : Nat) (k0 : Nat) (x3 : Int32) (σ : ST) : Option ST := match n with
  | 0 => none
  | n + 1 =>
    if (Int32.ofNat (alen (k0 + 1))) ≤ x3 then
      some σ
    else
      gd (inb x3 (alen (k0 + 1))) <|
      fX3_becomeRow_17 n k0 (x3 + 1) (setI σ (k0 + 1) (x3.toNatClampNeg) 0)
set_option maxHeartbeats 4000000 in
theorem wX3_becomeRow_17 {l : Launch} {V : Nat → List (Option Value) → List Value → ST → Prop} {τ : ST} (hm : BM l 3 cX3_becomeRow 4 none 0 0 none τ V) : ∀ (n : Nat) (k0 : Nat) (x3 : Int32) (σ : ST) (hk0 : kd k0 = 3), fX3_becomeRow_17 n k0 x3 σ = some τ → V 17 [some (.ref k0), none, none, some (.int x3)] [] σ := by
  have h := hm.bd
  intro n
  induction n with
  | zero => intro k0 x3 σ hk0 hf; cases hf
  | succ n ih =>
    intro k0 x3 σ hk0 hf
    rw [fX3_becomeRow_17] at hf
    refine h.run (o := [kd k0 = 3, kd (k0 + 1) = 10]) (ls' := [some (.ref k0), none, none, some (.int x3)]) (st' := [.int (Int32.ofNat (alen (k0 + 1))), .int x3]) (σ' := σ) [(.iload_n 3, 1, 0, 0, 0, 0), (.aload_n 0, 1, 0, 0, 0, 0), (.getfield 15, 3, 0, 0, 3, 7), (.arraylength, 1, 0, 0, 10, 0)] (pc2 := 23) (by decide +kernel) rfl (And.intro hk0 (And.intro (kd_S hk0).1 trivial)) ?_
    refine h.icmp_ge (tgt := 39) (show decode cX3_becomeRow 23 = .ok (.if_icmp .ge 16, 3) by decide +kernel) (by decide) (fun c2 => ?_) (fun c2 => ?_)
    · rw [if_pos c2] at hf
      cases hf
      exact hm.vret (by decide +kernel)
    · rw [if_neg c2] at hf
      show V 26 [some (.ref k0), none, none, some (.int x3)] [] σ
      obtain ⟨g1, hf⟩ := gd_some hf
      refine h.run (o := [kd k0 = 3, kd (k0 + 1) = 10, inb x3 (alen (k0 + 1)) = true]) (ls' := [some (.ref k0), none, none, some (.int (x3 + 1))]) (st' := []) (σ' := setI σ (k0 + 1) (x3.toNatClampNeg) 0) [(.aload_n 0, 1, 0, 0, 0, 0), (.getfield 15, 3, 0, 0, 3, 7), (.iload_n 3, 1, 0, 0, 0, 0), (.iconst 0, 1, 0, 0, 0, 0), (.iastore, 1, 0, 0, 0, 0), (.iinc 3 1, 3, 1, 0, 0, 0), (.goto (-19), 3, 0, 0, 0, 17)] (pc2 := 17) (by decide +kernel) rfl (And.intro hk0 (And.intro (kd_S hk0).1 (And.intro g1 trivial))) ?_
      exact ih k0 (x3 + 1) _ hk0 hf
def fX3_becomeRow (k0 : Nat) (x1 : Int32) (x2 : Int32) (σ : ST) : Option ST :=
  fX3_becomeRow_17 FU k0 0 (setI (setI (setI σ k0 0 2) k0 5 x1) k0 6 x2)
set_option maxHeartbeats 4000000 in
theorem kmX3_becomeRow (l : Launch) {k0 : Nat} {x1 : Int32} {x2 : Int32} {σ : ST} {τ : ST} (hk0 : kd k0 = 3) (hf : fX3_becomeRow k0 x1 x2 σ = some τ) : KM l yX3_becomeRow cX3_becomeRow 4 none 0 0 [.ref k0, .int x1, .int x2] σ none τ := by
  refine KM.intro (ow := 3) (by decide +kernel) rfl (Nat.le_of_ble_eq_true rfl) (fun V hm => ?_)
  show V 0 [some (.ref k0), some (.int x1), some (.int x2), none] [] σ
  have h := hm.bd
  unfold fX3_becomeRow at hf
  refine h.run (o := [kd k0 = 3, kd k0 = 3, kd k0 = 3]) (ls' := [some (.ref k0), some (.int x1), some (.int x2), some (.int 0)]) (st' := []) (σ' := setI (setI (setI σ k0 0 2) k0 5 x1) k0 6 x2) [(.aload_n 0, 1, 0, 0, 0, 0), (.iconst 2, 1, 2, 0, 0, 0), (.putfield 9, 3, 0, 0, 3, 0), (.aload_n 0, 1, 0, 0, 0, 0), (.iload_n 1, 1, 0, 0, 0, 0), (.putfield 19, 3, 0, 0, 3, 5), (.aload_n 0, 1, 0, 0, 0, 0), (.iload_n 2, 1, 0, 0, 0, 0), (.putfield 22, 3, 0, 0, 3, 6), (.iconst 0, 1, 0, 0, 0, 0), (.istore_n 3, 1, 0, 0, 0, 0)] (pc2 := 17) (by decide +kernel) rfl (And.intro hk0 (And.intro hk0 (And.intro hk0 trivial))) ?_
  refine h.drop (ls' := [some (.ref k0), none, none, some (.int 0)]) (And.intro rfl (And.intro rfl trivial)) ?_
  exact wX3_becomeRow_17 hm FU k0 0 _ hk0 hf
def fX3_hasRun_34 (t0 : Int32) (σ : ST) : Option Int32 :=
  gd (isb t0) <|
  some t0
set_option maxHeartbeats 4000000 in
theorem wX3_hasRun_34 {l : Launch} {V : Nat → List (Option Value) → List Value → ST → Prop} {r : Int32} {σ : ST} {t0 : Int32} (hm : BM l 3 cX3_hasRun 3 (some .boolean) 0 0 (some (.int r)) σ V) (hf : fX3_hasRun_34 t0 σ = some r) : V 34 [none, none, none] [.int t0] σ := by
  have h := hm.bd
  unfold fX3_hasRun_34 at hf
  obtain ⟨g1, hf⟩ := gd_some hf
  cases hf
  exact hm.zret (by decide +kernel) g1
def fX3_hasRun_33 (σ : ST) : Option Int32 :=
  fX3_hasRun_34 0 σ
set_option maxHeartbeats 4000000 in
theorem wX3_hasRun_33 {l : Launch} {V : Nat → List (Option Value) → List Value → ST → Prop} {r : Int32} {σ : ST} (hm : BM l 3 cX3_hasRun 3 (some .boolean) 0 0 (some (.int r)) σ V) (hf : fX3_hasRun_33 σ = some r) : V 33 [none, none, none] [] σ := by
  have h := hm.bd
  unfold fX3_hasRun_33 at hf
  refine h.run (o := []) (ls' := [none, none, none]) (st' := [.int 0]) (σ' := σ) [(.iconst 0, 1, 0, 0, 0, 0)] (pc2 := 34) (by decide +kernel) rfl trivial ?_
  exact wX3_hasRun_34 hm hf
def fX3_hasRun (k0 : Nat) (x1 : Int32) (x2 : Int32) (σ : ST) : Option Int32 :=
  if x1 < 0 then
    fX3_hasRun_33 σ
  else
    if x2 < 0 then
      fX3_hasRun_33 σ
    else
      if ((σ.1 k0 6) - x1) < x2 then
        fX3_hasRun_33 σ
      else
        if ((Int32.ofNat (alen (k0 + 1))) - x1) < x2 then
          fX3_hasRun_33 σ
        else
          fX3_hasRun_34 1 σ
set_option maxHeartbeats 4000000 in
theorem kmX3_hasRun (l : Launch) {k0 : Nat} {x1 : Int32} {x2 : Int32} {σ : ST} {r : Int32} (hk0 : kd k0 = 3) (hf : fX3_hasRun k0 x1 x2 σ = some r) : KM l yX3_hasRun cX3_hasRun 3 (some .boolean) 0 0 [.ref k0, .int x1, .int x2] σ (some (.int r)) σ := by
  refine KM.intro (ow := 3) (by decide +kernel) rfl (Nat.le_of_ble_eq_true rfl) (fun V hm => ?_)
  show V 0 [some (.ref k0), some (.int x1), some (.int x2)] [] σ
  have h := hm.bd
  unfold fX3_hasRun at hf
  refine h.run (o := []) (ls' := [some (.ref k0), some (.int x1), some (.int x2)]) (st' := [.int x1]) (σ' := σ) [(.iload_n 1, 1, 0, 0, 0, 0)] (pc2 := 1) (by decide +kernel) rfl trivial ?_
  refine h.if_lt (tgt := 33) (show decode cX3_hasRun 1 = .ok (.ifCond .lt 32, 3) by decide +kernel) (by decide) (fun c4 => ?_) (fun c4 => ?_)
  · rw [if_pos c4] at hf
    refine h.drop (ls' := [none, none, none]) trivial ?_
    exact wX3_hasRun_33 hm hf
  · rw [if_neg c4] at hf
    show V 4 [some (.ref k0), some (.int x1), some (.int x2)] [] σ
    refine h.run (o := []) (ls' := [some (.ref k0), some (.int x1), some (.int x2)]) (st' := [.int x2]) (σ' := σ) [(.iload_n 2, 1, 0, 0, 0, 0)] (pc2 := 5) (by decide +kernel) rfl trivial ?_
    refine h.if_lt (tgt := 33) (show decode cX3_hasRun 5 = .ok (.ifCond .lt 28, 3) by decide +kernel) (by decide) (fun c3 => ?_) (fun c3 => ?_)
    · rw [if_pos c3] at hf
      refine h.drop (ls' := [none, none, none]) trivial ?_
      exact wX3_hasRun_33 hm hf
    · rw [if_neg c3] at hf
      show V 8 [some (.ref k0), some (.int x1), some (.int x2)] [] σ
      refine h.run (o := [kd k0 = 3]) (ls' := [some (.ref k0), some (.int x1), some (.int x2)]) (st' := [.int ((σ.1 k0 6) - x1), .int x2]) (σ' := σ) [(.iload_n 2, 1, 0, 0, 0, 0), (.aload_n 0, 1, 0, 0, 0, 0), (.getfield 22, 3, 0, 0, 3, 6), (.iload_n 1, 1, 0, 0, 0, 0), (.isub, 1, 0, 0, 0, 0)] (pc2 := 15) (by decide +kernel) rfl (And.intro hk0 trivial) ?_
      refine h.icmp_gt (tgt := 33) (show decode cX3_hasRun 15 = .ok (.if_icmp .gt 18, 3) by decide +kernel) (by decide) (fun c2 => ?_) (fun c2 => ?_)
      · rw [if_pos c2] at hf
        refine h.drop (ls' := [none, none, none]) trivial ?_
        exact wX3_hasRun_33 hm hf
      · rw [if_neg c2] at hf
        show V 18 [some (.ref k0), some (.int x1), some (.int x2)] [] σ
        refine h.run (o := [kd k0 = 3, kd (k0 + 1) = 10]) (ls' := [some (.ref k0), some (.int x1), some (.int x2)]) (st' := [.int ((Int32.ofNat (alen (k0 + 1))) - x1), .int x2]) (σ' := σ) [(.iload_n 2, 1, 0, 0, 0, 0), (.aload_n 0, 1, 0, 0, 0, 0), (.getfield 15, 3, 0, 0, 3, 7), (.arraylength, 1, 0, 0, 10, 0), (.iload_n 1, 1, 0, 0, 0, 0), (.isub, 1, 0, 0, 0, 0)] (pc2 := 26) (by decide +kernel) rfl (And.intro hk0 (And.intro (kd_S hk0).1 trivial)) ?_
        refine h.icmp_gt (tgt := 33) (show decode cX3_hasRun 26 = .ok (.if_icmp .gt 7, 3) by decide +kernel) (by decide) (fun c1 => ?_) (fun c1 => ?_)
        · rw [if_pos c1] at hf
          refine h.drop (ls' := [none, none, none]) trivial ?_
          exact wX3_hasRun_33 hm hf
        · rw [if_neg c1] at hf
          show V 29 [some (.ref k0), some (.int x1), some (.int x2)] [] σ
          refine h.run (o := []) (ls' := [some (.ref k0), some (.int x1), some (.int x2)]) (st' := [.int 1]) (σ' := σ) [(.iconst 1, 1, 1, 0, 0, 0), (.goto 4, 3, 0, 0, 0, 34)] (pc2 := 34) (by decide +kernel) rfl trivial ?_
          refine h.drop (ls' := [none, none, none]) trivial ?_
          exact wX3_hasRun_34 hm hf
def fX3_write_53 (σ : ST) : Option ST :=
  some σ
set_option maxHeartbeats 4000000 in
theorem wX3_write_53 {l : Launch} {V : Nat → List (Option Value) → List Value → ST → Prop} {τ : ST} {σ : ST} (hm : BM l 3 cX3_write 3 none 1 21 none τ V) (hf : fX3_write_53 σ = some τ) : V 53 [none, none, none] [] σ := by
  have h := hm.bd
  unfold fX3_write_53 at hf
  cases hf
  exact hm.vret (by decide +kernel)
def fX3_write (k0 : Nat) (x1 : Int32) (x2 : Int32) (σ : ST) : Option ST :=
  bR (fX3_has k0 x1 σ) fun a1 =>
  if a1 = 0 then
    some σ
  else
    if (σ.1 k0 5) = 0 then
      gd (inb x1 (alen (k0 + 1))) <|
      fX3_write_53 (setI σ (k0 + 1) (x1.toNatClampNeg) x2.toInt8.toInt32)
    else
      if (σ.1 k0 5) = 1 then
        gd (inb x1 (alen (k0 + 1))) <|
        fX3_write_53 (setI σ (k0 + 1) (x1.toNatClampNeg) x2.toInt16.toInt32)
      else
        gd (inb x1 (alen (k0 + 1))) <|
        fX3_write_53 (setI σ (k0 + 1) (x1.toNatClampNeg) x2)
set_option maxHeartbeats 4000000 in
theorem kmX3_write (l : Launch) {k0 : Nat} {x1 : Int32} {x2 : Int32} {σ : ST} {τ : ST} (hk0 : kd k0 = 3) (hf : fX3_write k0 x1 x2 σ = some τ) : KM l yX3_write cX3_write 3 none 1 21 [.ref k0, .int x1, .int x2] σ none τ := by
  refine KM.intro (ow := 3) (by decide +kernel) rfl (Nat.le_of_ble_eq_true rfl) (fun V hm => ?_)
  show V 0 [some (.ref k0), some (.int x1), some (.int x2)] [] σ
  have h := hm.bd
  unfold fX3_write at hf
  refine h.run (o := []) (ls' := [some (.ref k0), some (.int x1), some (.int x2)]) (st' := [.int x1, .ref k0]) (σ' := σ) [(.aload_n 0, 1, 0, 0, 0, 0), (.iload_n 1, 1, 0, 0, 0, 0)] (pc2 := 2) (by decide +kernel) rfl trivial ?_
  obtain ⟨a1, e1, hf⟩ := bR_some hf
  refine h.callV (as := [.int x1]) (rest := []) (by decide +kernel) lk3_25 cwX3_has hk0 (kmX3_has l hk0 e1) rfl (Nat.le_of_ble_eq_true rfl) (Nat.le_of_ble_eq_true rfl) (Nat.le_of_ble_eq_true rfl) ?_
  show V 5 [some (.ref k0), some (.int x1), some (.int x2)] [.int a1] σ
  refine h.if_ne (tgt := 9) (show decode cX3_write 5 = .ok (.ifCond .ne 4, 3) by decide +kernel) (by decide) (fun c7 => ?_) (fun c7 => ?_)
  · rw [if_neg c7] at hf
    refine h.run (o := [kd k0 = 3]) (ls' := [some (.ref k0), some (.int x1), some (.int x2)]) (st' := [.int (σ.1 k0 5)]) (σ' := σ) [(.aload_n 0, 1, 0, 0, 0, 0), (.getfield 19, 3, 0, 0, 3, 5)] (pc2 := 13) (by decide +kernel) rfl (And.intro hk0 trivial) ?_
    refine h.if_ne (tgt := 27) (show decode cX3_write 13 = .ok (.ifCond .ne 14, 3) by decide +kernel) (by decide) (fun c6 => ?_) (fun c6 => ?_)
    · rw [if_neg c6] at hf
      refine h.run (o := [kd k0 = 3]) (ls' := [some (.ref k0), some (.int x1), some (.int x2)]) (st' := [.int 1, .int (σ.1 k0 5)]) (σ' := σ) [(.aload_n 0, 1, 0, 0, 0, 0), (.getfield 19, 3, 0, 0, 3, 5), (.iconst 1, 1, 1, 0, 0, 0)] (pc2 := 32) (by decide +kernel) rfl (And.intro hk0 trivial) ?_
      refine h.icmp_ne (tgt := 46) (show decode cX3_write 32 = .ok (.if_icmp .ne 14, 3) by decide +kernel) (by decide) (fun c4 => ?_) (fun c4 => ?_)
      · rw [if_neg c4] at hf
        obtain ⟨g2, hf⟩ := gd_some hf
        refine h.run (o := [kd k0 = 3, kd (k0 + 1) = 10, inb x1 (alen (k0 + 1)) = true]) (ls' := [some (.ref k0), some (.int x1), some (.int x2)]) (st' := []) (σ' := setI σ (k0 + 1) (x1.toNatClampNeg) x2) [(.aload_n 0, 1, 0, 0, 0, 0), (.getfield 15, 3, 0, 0, 3, 7), (.iload_n 1, 1, 0, 0, 0, 0), (.iload_n 2, 1, 0, 0, 0, 0), (.iastore, 1, 0, 0, 0, 0)] (pc2 := 53) (by decide +kernel) rfl (And.intro hk0 (And.intro (kd_S hk0).1 (And.intro g2 trivial))) ?_
        refine h.drop (ls' := [none, none, none]) trivial ?_
        exact wX3_write_53 hm hf
      · rw [if_pos c4] at hf
        show V 35 [some (.ref k0), some (.int x1), some (.int x2)] [] σ
        obtain ⟨g3, hf⟩ := gd_some hf
        refine h.run (o := [kd k0 = 3, kd (k0 + 1) = 10, inb x1 (alen (k0 + 1)) = true]) (ls' := [some (.ref k0), some (.int x1), some (.int x2)]) (st' := []) (σ' := setI σ (k0 + 1) (x1.toNatClampNeg) x2.toInt16.toInt32) [(.aload_n 0, 1, 0, 0, 0, 0), (.getfield 15, 3, 0, 0, 3, 7), (.iload_n 1, 1, 0, 0, 0, 0), (.iload_n 2, 1, 0, 0, 0, 0), (.i2s, 1, 0, 0, 0, 0), (.iastore, 1, 0, 0, 0, 0), (.goto 10, 3, 0, 0, 0, 53)] (pc2 := 53) (by decide +kernel) rfl (And.intro hk0 (And.intro (kd_S hk0).1 (And.intro g3 trivial))) ?_
        refine h.drop (ls' := [none, none, none]) trivial ?_
        exact wX3_write_53 hm hf
    · rw [if_pos c6] at hf
      show V 16 [some (.ref k0), some (.int x1), some (.int x2)] [] σ
      obtain ⟨g5, hf⟩ := gd_some hf
      refine h.run (o := [kd k0 = 3, kd (k0 + 1) = 10, inb x1 (alen (k0 + 1)) = true]) (ls' := [some (.ref k0), some (.int x1), some (.int x2)]) (st' := []) (σ' := setI σ (k0 + 1) (x1.toNatClampNeg) x2.toInt8.toInt32) [(.aload_n 0, 1, 0, 0, 0, 0), (.getfield 15, 3, 0, 0, 3, 7), (.iload_n 1, 1, 0, 0, 0, 0), (.iload_n 2, 1, 0, 0, 0, 0), (.i2b, 1, 0, 0, 0, 0), (.iastore, 1, 0, 0, 0, 0), (.goto 29, 3, 0, 0, 0, 53)] (pc2 := 53) (by decide +kernel) rfl (And.intro hk0 (And.intro (kd_S hk0).1 (And.intro g5 trivial))) ?_
      refine h.drop (ls' := [none, none, none]) trivial ?_
      exact wX3_write_53 hm hf
  · rw [if_pos c7] at hf
    show V 8 [some (.ref k0), some (.int x1), some (.int x2)] [] σ
    cases hf
    exact hm.vret (by decide +kernel)
def fX3_leastNumber_26 (t0 : Int32) (σ : ST) : Option Int32 :=
  some t0
set_option maxHeartbeats 4000000 in
theorem wX3_leastNumber_26 {l : Launch} {V : Nat → List (Option Value) → List Value → ST → Prop} {r : Int32} {σ : ST} {t0 : Int32} (hm : BM l 3 cX3_leastNumber 1 (some .int) 0 0 (some (.int r)) σ V) (hf : fX3_leastNumber_26 t0 σ = some r) : V 26 [none] [.int t0] σ := by
  have h := hm.bd
  unfold fX3_leastNumber_26 at hf
  cases hf
  exact hm.iret (by decide +kernel)
def fX3_leastNumber (k0 : Nat) (σ : ST) : Option Int32 :=
  if (σ.1 k0 5) = 0 then
    some (-128)
  else
    if (σ.1 k0 5) = 1 then
      fX3_leastNumber_26 (-32768) σ
    else
      fX3_leastNumber_26 (-2147483648) σ
set_option maxHeartbeats 4000000 in
theorem kmX3_leastNumber (l : Launch) {k0 : Nat} {σ : ST} {r : Int32} (hk0 : kd k0 = 3) (hf : fX3_leastNumber k0 σ = some r) : KM l yX3_leastNumber cX3_leastNumber 1 (some .int) 0 0 [.ref k0] σ (some (.int r)) σ := by
  refine KM.intro (ow := 3) (by decide +kernel) rfl (Nat.le_of_ble_eq_true rfl) (fun V hm => ?_)
  show V 0 [some (.ref k0)] [] σ
  have h := hm.bd
  unfold fX3_leastNumber at hf
  refine h.run (o := [kd k0 = 3]) (ls' := [some (.ref k0)]) (st' := [.int (σ.1 k0 5)]) (σ' := σ) [(.aload_n 0, 1, 0, 0, 0, 0), (.getfield 19, 3, 0, 0, 3, 5)] (pc2 := 4) (by decide +kernel) rfl (And.intro hk0 trivial) ?_
  refine h.if_ne (tgt := 10) (show decode cX3_leastNumber 4 = .ok (.ifCond .ne 6, 3) by decide +kernel) (by decide) (fun c2 => ?_) (fun c2 => ?_)
  · rw [if_neg c2] at hf
    refine h.run (o := [kd k0 = 3]) (ls' := [some (.ref k0)]) (st' := [.int 1, .int (σ.1 k0 5)]) (σ' := σ) [(.aload_n 0, 1, 0, 0, 0, 0), (.getfield 19, 3, 0, 0, 3, 5), (.iconst 1, 1, 1, 0, 0, 0)] (pc2 := 15) (by decide +kernel) rfl (And.intro hk0 trivial) ?_
    refine h.icmp_ne (tgt := 24) (show decode cX3_leastNumber 15 = .ok (.if_icmp .ne 9, 3) by decide +kernel) (by decide) (fun c1 => ?_) (fun c1 => ?_)
    · rw [if_neg c1] at hf
      refine h.run (o := []) (ls' := [some (.ref k0)]) (st' := [.int (-2147483648)]) (σ' := σ) [(.ldc 31, 2, (-2147483648), 0, 0, 0)] (pc2 := 26) (by decide +kernel) rfl trivial ?_
      refine h.drop (ls' := [none]) trivial ?_
      exact wX3_leastNumber_26 hm hf
    · rw [if_pos c1] at hf
      show V 18 [some (.ref k0)] [] σ
      refine h.run (o := []) (ls' := [some (.ref k0)]) (st' := [.int (-32768)]) (σ' := σ) [(.sipush (-32768), 3, (-32768), 0, 0, 0), (.goto 5, 3, 0, 0, 0, 26)] (pc2 := 26) (by decide +kernel) rfl trivial ?_
      refine h.drop (ls' := [none]) trivial ?_
      exact wX3_leastNumber_26 hm hf
  · rw [if_pos c2] at hf
    show V 7 [some (.ref k0)] [] σ
    refine h.run (o := []) (ls' := [some (.ref k0)]) (st' := [.int (-128)]) (σ' := σ) [(.bipush (-128), 2, (-128), 0, 0, 0)] (pc2 := 9) (by decide +kernel) rfl trivial ?_
    cases hf
    exact hm.iret (by decide +kernel)
def fX3_isOfSendings_45 (t0 : Int32) (σ : ST) : Option Int32 :=
  gd (isb t0) <|
  some t0
set_option maxHeartbeats 4000000 in
theorem wX3_isOfSendings_45 {l : Launch} {V : Nat → List (Option Value) → List Value → ST → Prop} {r : Int32} {σ : ST} {t0 : Int32} (hm : BM l 3 cX3_isOfSendings 4 (some .boolean) 2 42 (some (.int r)) σ V) (hf : fX3_isOfSendings_45 t0 σ = some r) : V 45 [none, none, none, none] [.int t0] σ := by
  have h := hm.bd
  unfold fX3_isOfSendings_45 at hf
  obtain ⟨g1, hf⟩ := gd_some hf
  cases hf
  exact hm.zret (by decide +kernel) g1
def fX3_isOfSendings_25 (σ : ST) : Option Int32 :=
  some 0
set_option maxHeartbeats 4000000 in
theorem wX3_isOfSendings_25 {l : Launch} {V : Nat → List (Option Value) → List Value → ST → Prop} {r : Int32} {σ : ST} (hm : BM l 3 cX3_isOfSendings 4 (some .boolean) 2 42 (some (.int r)) σ V) (hf : fX3_isOfSendings_25 σ = some r) : V 25 [none, none, none, none] [] σ := by
  have h := hm.bd
  unfold fX3_isOfSendings_25 at hf
  refine h.run (o := []) (ls' := [none, none, none, none]) (st' := [.int 0]) (σ' := σ) [(.iconst 0, 1, 0, 0, 0, 0)] (pc2 := 26) (by decide +kernel) rfl trivial ?_
  cases hf
  exact hm.zret (by decide +kernel) rfl
def fX3_isOfSendings_2 (σ : ST) (n : Nat) (k0 : Nat) (x1 : Int32) (x2 : Int32) : Option Int32 := match n with
  | 0 => none
  | n + 1 =>
    if (σ.1 k0 6) ≤ x2 then
      if (σ.1 k0 6) ≤ 0 then
        fX3_isOfSendings_45 0 σ
      else
        fX3_isOfSendings_45 1 σ
    else
      bR (fX3_read k0 x2 σ) fun a2 =>
      if a2 < 0 then
        fX3_isOfSendings_25 σ
      else
        if a2 ≤ x1 then
          fX3_isOfSendings_2 σ n k0 x1 (x2 + 1)
        else
          fX3_isOfSendings_25 σ
set_option maxHeartbeats 4000000 in
theorem wX3_isOfSendings_2 {l : Launch} {V : Nat → List (Option Value) → List Value → ST → Prop} {r : Int32} {σ : ST} (hm : BM l 3 cX3_isOfSendings 4 (some .boolean) 2 42 (some (.int r)) σ V) : ∀ (n : Nat) (k0 : Nat) (x1 : Int32) (x2 : Int32) (hk0 : kd k0 = 3), fX3_isOfSendings_2 σ n k0 x1 x2 = some r → V 2 [some (.ref k0), some (.int x1), some (.int x2), none] [] σ := by
  have h := hm.bd
  intro n
  induction n with
  | zero => intro k0 x1 x2 hk0 hf; cases hf
  | succ n ih =>
    intro k0 x1 x2 hk0 hf
    rw [fX3_isOfSendings_2] at hf
    refine h.run (o := [kd k0 = 3]) (ls' := [some (.ref k0), some (.int x1), some (.int x2), none]) (st' := [.int (σ.1 k0 6), .int x2]) (σ' := σ) [(.iload_n 2, 1, 0, 0, 0, 0), (.aload_n 0, 1, 0, 0, 0, 0), (.getfield 22, 3, 0, 0, 3, 6)] (pc2 := 7) (by decide +kernel) rfl (And.intro hk0 trivial) ?_
    refine h.icmp_ge (tgt := 33) (show decode cX3_isOfSendings 7 = .ok (.if_icmp .ge 26, 3) by decide +kernel) (by decide) (fun c5 => ?_) (fun c5 => ?_)
    · rw [if_pos c5] at hf
      refine h.run (o := [kd k0 = 3]) (ls' := [some (.ref k0), some (.int x1), some (.int x2), none]) (st' := [.int (σ.1 k0 6)]) (σ' := σ) [(.aload_n 0, 1, 0, 0, 0, 0), (.getfield 22, 3, 0, 0, 3, 6)] (pc2 := 37) (by decide +kernel) rfl (And.intro hk0 trivial) ?_
      refine h.if_le (tgt := 44) (show decode cX3_isOfSendings 37 = .ok (.ifCond .le 7, 3) by decide +kernel) (by decide) (fun c1 => ?_) (fun c1 => ?_)
      · rw [if_pos c1] at hf
        refine h.run (o := []) (ls' := [some (.ref k0), some (.int x1), some (.int x2), none]) (st' := [.int 0]) (σ' := σ) [(.iconst 0, 1, 0, 0, 0, 0)] (pc2 := 45) (by decide +kernel) rfl trivial ?_
        refine h.drop (ls' := [none, none, none, none]) trivial ?_
        exact wX3_isOfSendings_45 hm hf
      · rw [if_neg c1] at hf
        show V 40 [some (.ref k0), some (.int x1), some (.int x2), none] [] σ
        refine h.run (o := []) (ls' := [some (.ref k0), some (.int x1), some (.int x2), none]) (st' := [.int 1]) (σ' := σ) [(.iconst 1, 1, 1, 0, 0, 0), (.goto 4, 3, 0, 0, 0, 45)] (pc2 := 45) (by decide +kernel) rfl trivial ?_
        refine h.drop (ls' := [none, none, none, none]) trivial ?_
        exact wX3_isOfSendings_45 hm hf
    · rw [if_neg c5] at hf
      show V 10 [some (.ref k0), some (.int x1), some (.int x2), none] [] σ
      refine h.run (o := []) (ls' := [some (.ref k0), some (.int x1), some (.int x2), none]) (st' := [.int x2, .ref k0]) (σ' := σ) [(.aload_n 0, 1, 0, 0, 0, 0), (.iload_n 2, 1, 0, 0, 0, 0)] (pc2 := 12) (by decide +kernel) rfl trivial ?_
      obtain ⟨a2, e2, hf⟩ := bR_some hf
      refine h.callV (as := [.int x2]) (rest := []) (by decide +kernel) lk3_32 cwX3_read hk0 (kmX3_read l hk0 e2) rfl (Nat.le_of_ble_eq_true rfl) (Nat.le_of_ble_eq_true rfl) (Nat.le_of_ble_eq_true rfl) ?_
      show V 15 [some (.ref k0), some (.int x1), some (.int x2), none] [.int a2] σ
      refine h.run (o := []) (ls' := [some (.ref k0), some (.int x1), some (.int x2), some (.int a2)]) (st' := [.int a2]) (σ' := σ) [(.istore_n 3, 1, 0, 0, 0, 0), (.iload_n 3, 1, 0, 0, 0, 0)] (pc2 := 17) (by decide +kernel) rfl trivial ?_
      refine h.if_lt (tgt := 25) (show decode cX3_isOfSendings 17 = .ok (.ifCond .lt 8, 3) by decide +kernel) (by decide) (fun c4 => ?_) (fun c4 => ?_)
      · rw [if_pos c4] at hf
        refine h.drop (ls' := [none, none, none, none]) trivial ?_
        exact wX3_isOfSendings_25 hm hf
      · rw [if_neg c4] at hf
        show V 20 [some (.ref k0), some (.int x1), some (.int x2), some (.int a2)] [] σ
        refine h.run (o := []) (ls' := [some (.ref k0), some (.int x1), some (.int x2), some (.int a2)]) (st' := [.int x1, .int a2]) (σ' := σ) [(.iload_n 3, 1, 0, 0, 0, 0), (.iload_n 1, 1, 0, 0, 0, 0)] (pc2 := 22) (by decide +kernel) rfl trivial ?_
        refine h.icmp_le (tgt := 27) (show decode cX3_isOfSendings 22 = .ok (.if_icmp .le 5, 3) by decide +kernel) (by decide) (fun c3 => ?_) (fun c3 => ?_)
        · rw [if_pos c3] at hf
          refine h.run (o := []) (ls' := [some (.ref k0), some (.int x1), some (.int (x2 + 1)), some (.int a2)]) (st' := []) (σ' := σ) [(.iinc 2 1, 3, 1, 0, 0, 0), (.goto (-28), 3, 0, 0, 0, 2)] (pc2 := 2) (by decide +kernel) rfl trivial ?_
          refine h.drop (ls' := [some (.ref k0), some (.int x1), some (.int (x2 + 1)), none]) (And.intro rfl (And.intro rfl (And.intro rfl trivial))) ?_
          exact ih k0 x1 (x2 + 1) hk0 hf
        · rw [if_neg c3] at hf
          show V 25 [some (.ref k0), some (.int x1), some (.int x2), some (.int a2)] [] σ
          refine h.drop (ls' := [none, none, none, none]) trivial ?_
          exact wX3_isOfSendings_25 hm hf
def fX3_isOfSendings (k0 : Nat) (x1 : Int32) (σ : ST) : Option Int32 :=
  fX3_isOfSendings_2 σ FU k0 x1 0
set_option maxHeartbeats 4000000 in
theorem kmX3_isOfSendings (l : Launch) {k0 : Nat} {x1 : Int32} {σ : ST} {r : Int32} (hk0 : kd k0 = 3) (hf : fX3_isOfSendings k0 x1 σ = some r) : KM l yX3_isOfSendings cX3_isOfSendings 4 (some .boolean) 2 42 [.ref k0, .int x1] σ (some (.int r)) σ := by
  refine KM.intro (ow := 3) (by decide +kernel) rfl (Nat.le_of_ble_eq_true rfl) (fun V hm => ?_)
  show V 0 [some (.ref k0), some (.int x1), none, none] [] σ
  have h := hm.bd
  unfold fX3_isOfSendings at hf
  refine h.run (o := []) (ls' := [some (.ref k0), some (.int x1), some (.int 0), none]) (st' := []) (σ' := σ) [(.iconst 0, 1, 0, 0, 0, 0), (.istore_n 2, 1, 0, 0, 0, 0)] (pc2 := 2) (by decide +kernel) rfl trivial ?_
  exact wX3_isOfSendings_2 hm FU k0 x1 0 hk0 hf
def fX3_sum_4 (σ : ST) (n : Nat) (k0 : Nat) (x1 : Int32) (x2 : Int32) : Option Int32 := match n with
  | 0 => none
  | n + 1 =>
    if (σ.1 k0 6) ≤ x2 then
      some x1
    else
      bR (fX3_read k0 x2 σ) fun a1 =>
      fX3_sum_4 σ n k0 (x1 + a1) (x2 + 1)
set_option maxHeartbeats 4000000 in
theorem wX3_sum_4 {l : Launch} {V : Nat → List (Option Value) → List Value → ST → Prop} {r : Int32} {σ : ST} (hm : BM l 3 cX3_sum 3 (some .int) 2 42 (some (.int r)) σ V) : ∀ (n : Nat) (k0 : Nat) (x1 : Int32) (x2 : Int32) (hk0 : kd k0 = 3), fX3_sum_4 σ n k0 x1 x2 = some r → V 4 [some (.ref k0), some (.int x1), some (.int x2)] [] σ := by
  have h := hm.bd
  intro n
  induction n with
  | zero => intro k0 x1 x2 hk0 hf; cases hf
  | succ n ih =>
    intro k0 x1 x2 hk0 hf
    rw [fX3_sum_4] at hf
    refine h.run (o := [kd k0 = 3]) (ls' := [some (.ref k0), some (.int x1), some (.int x2)]) (st' := [.int (σ.1 k0 6), .int x2]) (σ' := σ) [(.iload_n 2, 1, 0, 0, 0, 0), (.aload_n 0, 1, 0, 0, 0, 0), (.getfield 22, 3, 0, 0, 3, 6)] (pc2 := 9) (by decide +kernel) rfl (And.intro hk0 trivial) ?_
    refine h.icmp_ge (tgt := 26) (show decode cX3_sum 9 = .ok (.if_icmp .ge 17, 3) by decide +kernel) (by decide) (fun c2 => ?_) (fun c2 => ?_)
    · rw [if_pos c2] at hf
      refine h.run (o := []) (ls' := [some (.ref k0), some (.int x1), some (.int x2)]) (st' := [.int x1]) (σ' := σ) [(.iload_n 1, 1, 0, 0, 0, 0)] (pc2 := 27) (by decide +kernel) rfl trivial ?_
      cases hf
      exact hm.iret (by decide +kernel)
    · rw [if_neg c2] at hf
      show V 12 [some (.ref k0), some (.int x1), some (.int x2)] [] σ
      refine h.run (o := []) (ls' := [some (.ref k0), some (.int x1), some (.int x2)]) (st' := [.int x2, .ref k0, .int x1]) (σ' := σ) [(.iload_n 1, 1, 0, 0, 0, 0), (.aload_n 0, 1, 0, 0, 0, 0), (.iload_n 2, 1, 0, 0, 0, 0)] (pc2 := 15) (by decide +kernel) rfl trivial ?_
      obtain ⟨a1, e1, hf⟩ := bR_some hf
      refine h.callV (as := [.int x2]) (rest := [.int x1]) (by decide +kernel) lk3_32 cwX3_read hk0 (kmX3_read l hk0 e1) rfl (Nat.le_of_ble_eq_true rfl) (Nat.le_of_ble_eq_true rfl) (Nat.le_of_ble_eq_true rfl) ?_
      show V 18 [some (.ref k0), some (.int x1), some (.int x2)] [.int a1, .int x1] σ
      refine h.run (o := []) (ls' := [some (.ref k0), some (.int (x1 + a1)), some (.int (x2 + 1))]) (st' := []) (σ' := σ) [(.iadd, 1, 0, 0, 0, 0), (.istore_n 1, 1, 0, 0, 0, 0), (.iinc 2 1, 3, 1, 0, 0, 0), (.goto (-19), 3, 0, 0, 0, 4)] (pc2 := 4) (by decide +kernel) rfl trivial ?_
      exact ih k0 (x1 + a1) (x2 + 1) hk0 hf
def fX3_sum (k0 : Nat) (σ : ST) : Option Int32 :=
  fX3_sum_4 σ FU k0 0 0
set_option maxHeartbeats 4000000 in
theorem kmX3_sum (l : Launch) {k0 : Nat} {σ : ST} {r : Int32} (hk0 : kd k0 = 3) (hf : fX3_sum k0 σ = some r) : KM l yX3_sum cX3_sum 3 (some .int) 2 42 [.ref k0] σ (some (.int r)) σ := by
  refine KM.intro (ow := 3) (by decide +kernel) rfl (Nat.le_of_ble_eq_true rfl) (fun V hm => ?_)
  show V 0 [some (.ref k0), none, none] [] σ
  have h := hm.bd
  unfold fX3_sum at hf
  refine h.run (o := []) (ls' := [some (.ref k0), some (.int 0), some (.int 0)]) (st' := []) (σ' := σ) [(.iconst 0, 1, 0, 0, 0, 0), (.istore_n 1, 1, 0, 0, 0, 0), (.iconst 0, 1, 0, 0, 0, 0), (.istore_n 2, 1, 0, 0, 0, 0)] (pc2 := 4) (by decide +kernel) rfl trivial ?_
  exact wX3_sum_4 hm FU k0 0 0 hk0 hf
def fX3_signOf_32 (t0 : Int32) (σ : ST) : Option Int32 :=
  some t0
set_option maxHeartbeats 4000000 in
theorem wX3_signOf_32 {l : Launch} {V : Nat → List (Option Value) → List Value → ST → Prop} {r : Int32} {σ : ST} {t0 : Int32} (hm : BM l 3 cX3_signOf 5 (some .int) 2 42 (some (.int r)) σ V) (hf : fX3_signOf_32 t0 σ = some r) : V 32 [none, none, none, none, none] [.int t0] σ := by
  have h := hm.bd
  unfold fX3_signOf_32 at hf
  cases hf
  exact hm.iret (by decide +kernel)
def fX3_signOf (k0 : Nat) (x1 : Int32) (x2 : Int32) (σ : ST) : Option Int32 :=
  bR (fX3_read k0 x1 σ) fun a1 =>
  bR (fX3_read k0 x2 σ) fun a2 =>
  if a1 = a2 then
    some 0
  else
    if a2 ≤ a1 then
      fX3_signOf_32 1 σ
    else
      fX3_signOf_32 (-1) σ
set_option maxHeartbeats 4000000 in
theorem kmX3_signOf (l : Launch) {k0 : Nat} {x1 : Int32} {x2 : Int32} {σ : ST} {r : Int32} (hk0 : kd k0 = 3) (hf : fX3_signOf k0 x1 x2 σ = some r) : KM l yX3_signOf cX3_signOf 5 (some .int) 2 42 [.ref k0, .int x1, .int x2] σ (some (.int r)) σ := by
  refine KM.intro (ow := 3) (by decide +kernel) rfl (Nat.le_of_ble_eq_true rfl) (fun V hm => ?_)
  show V 0 [some (.ref k0), some (.int x1), some (.int x2), none, none] [] σ
  have h := hm.bd
  unfold fX3_signOf at hf
  refine h.run (o := []) (ls' := [some (.ref k0), some (.int x1), some (.int x2), none, none]) (st' := [.int x1, .ref k0]) (σ' := σ) [(.aload_n 0, 1, 0, 0, 0, 0), (.iload_n 1, 1, 0, 0, 0, 0)] (pc2 := 2) (by decide +kernel) rfl trivial ?_
  obtain ⟨a1, e1, hf⟩ := bR_some hf
  refine h.callV (as := [.int x1]) (rest := []) (by decide +kernel) lk3_32 cwX3_read hk0 (kmX3_read l hk0 e1) rfl (Nat.le_of_ble_eq_true rfl) (Nat.le_of_ble_eq_true rfl) (Nat.le_of_ble_eq_true rfl) ?_
  show V 5 [some (.ref k0), some (.int x1), some (.int x2), none, none] [.int a1] σ
  refine h.run (o := []) (ls' := [some (.ref k0), some (.int x1), some (.int x2), some (.int a1), none]) (st' := [.int x2, .ref k0]) (σ' := σ) [(.istore_n 3, 1, 0, 0, 0, 0), (.aload_n 0, 1, 0, 0, 0, 0), (.iload_n 2, 1, 0, 0, 0, 0)] (pc2 := 8) (by decide +kernel) rfl trivial ?_
  obtain ⟨a2, e2, hf⟩ := bR_some hf
  refine h.callV (as := [.int x2]) (rest := []) (by decide +kernel) lk3_32 cwX3_read hk0 (kmX3_read l hk0 e2) rfl (Nat.le_of_ble_eq_true rfl) (Nat.le_of_ble_eq_true rfl) (Nat.le_of_ble_eq_true rfl) ?_
  show V 11 [some (.ref k0), some (.int x1), some (.int x2), some (.int a1), none] [.int a2] σ
  refine h.run (o := []) (ls' := [some (.ref k0), some (.int x1), some (.int x2), some (.int a1), some (.int a2)]) (st' := [.int a2, .int a1]) (σ' := σ) [(.istore 4, 2, 0, 0, 0, 0), (.iload_n 3, 1, 0, 0, 0, 0), (.iload 4, 2, 0, 0, 0, 0)] (pc2 := 16) (by decide +kernel) rfl trivial ?_
  refine h.icmp_ne (tgt := 21) (show decode cX3_signOf 16 = .ok (.if_icmp .ne 5, 3) by decide +kernel) (by decide) (fun c4 => ?_) (fun c4 => ?_)
  · rw [if_neg c4] at hf
    refine h.run (o := []) (ls' := [some (.ref k0), some (.int x1), some (.int x2), some (.int a1), some (.int a2)]) (st' := [.int a2, .int a1]) (σ' := σ) [(.iload_n 3, 1, 0, 0, 0, 0), (.iload 4, 2, 0, 0, 0, 0)] (pc2 := 24) (by decide +kernel) rfl trivial ?_
    refine h.icmp_ge (tgt := 31) (show decode cX3_signOf 24 = .ok (.if_icmp .ge 7, 3) by decide +kernel) (by decide) (fun c3 => ?_) (fun c3 => ?_)
    · rw [if_pos c3] at hf
      refine h.run (o := []) (ls' := [some (.ref k0), some (.int x1), some (.int x2), some (.int a1), some (.int a2)]) (st' := [.int 1]) (σ' := σ) [(.iconst 1, 1, 1, 0, 0, 0)] (pc2 := 32) (by decide +kernel) rfl trivial ?_
      refine h.drop (ls' := [none, none, none, none, none]) trivial ?_
      exact wX3_signOf_32 hm hf
    · rw [if_neg c3] at hf
      show V 27 [some (.ref k0), some (.int x1), some (.int x2), some (.int a1), some (.int a2)] [] σ
      refine h.run (o := []) (ls' := [some (.ref k0), some (.int x1), some (.int x2), some (.int a1), some (.int a2)]) (st' := [.int (-1)]) (σ' := σ) [(.iconst (-1), 1, (-1), 0, 0, 0), (.goto 4, 3, 0, 0, 0, 32)] (pc2 := 32) (by decide +kernel) rfl trivial ?_
      refine h.drop (ls' := [none, none, none, none, none]) trivial ?_
      exact wX3_signOf_32 hm hf
  · rw [if_pos c4] at hf
    show V 19 [some (.ref k0), some (.int x1), some (.int x2), some (.int a1), some (.int a2)] [] σ
    refine h.run (o := []) (ls' := [some (.ref k0), some (.int x1), some (.int x2), some (.int a1), some (.int a2)]) (st' := [.int 0]) (σ' := σ) [(.iconst 0, 1, 0, 0, 0, 0)] (pc2 := 20) (by decide +kernel) rfl trivial ?_
    cases hf
    exact hm.iret (by decide +kernel)
def fX3_faithOfSender (k0 : Nat) (σ : ST) : Option Int32 :=
  if (σ.1 k0 2) = 0 then
    some 10
  else
    if (σ.1 k0 2) = 1 then
      some (10 + (σ.1 k0 4))
    else
      if (σ.1 k0 2) = 2 then
        some (10 + (2 * (σ.1 k0 3)))
      else
        if (σ.1 k0 2) = 3 then
          some (10 - (σ.1 k0 3))
        else
          if (σ.1 k0 2) = 4 then
            some (2 * (10 + (σ.1 k0 4)))
          else
            if (σ.1 k0 2) = 5 then
              some (10 / 2)
            else
              if (σ.1 k0 2) = 6 then
                some ((10 + (σ.1 k0 4)) + 7)
              else
                if (σ.1 k0 2) = 7 then
                  some ((10 / 2) - (σ.1 k0 3))
                else
                  some 10
set_option maxHeartbeats 4000000 in
theorem kmX3_faithOfSender (l : Launch) {k0 : Nat} {σ : ST} {r : Int32} (hk0 : kd k0 = 3) (hf : fX3_faithOfSender k0 σ = some r) : KM l yX3_faithOfSender cX3_faithOfSender 4 (some .int) 0 0 [.ref k0] σ (some (.int r)) σ := by
  refine KM.intro (ow := 3) (by decide +kernel) rfl (Nat.le_of_ble_eq_true rfl) (fun V hm => ?_)
  show V 0 [some (.ref k0), none, none, none] [] σ
  have h := hm.bd
  unfold fX3_faithOfSender at hf
  refine h.run (o := [kd k0 = 3, ¬ 2 = 0, kd k0 = 3]) (ls' := [some (.ref k0), some (.int 10), some (.int (10 + (σ.1 k0 4))), some (.int (10 / 2))]) (st' := [.int (σ.1 k0 2)]) (σ' := σ) [(.bipush 10, 2, 10, 0, 0, 0), (.istore_n 1, 1, 0, 0, 0, 0), (.iload_n 1, 1, 0, 0, 0, 0), (.aload_n 0, 1, 0, 0, 0, 0), (.getfield 36, 3, 0, 0, 3, 4), (.iadd, 1, 0, 0, 0, 0), (.istore_n 2, 1, 0, 0, 0, 0), (.iload_n 1, 1, 0, 0, 0, 0), (.iconst 2, 1, 2, 0, 0, 0), (.idiv, 1, 0, 0, 0, 0), (.istore_n 3, 1, 0, 0, 0, 0), (.aload_n 0, 1, 0, 0, 0, 0), (.getfield 39, 3, 0, 0, 3, 2)] (pc2 := 18) (by decide +kernel) rfl (And.intro hk0 (And.intro (by decide) (And.intro hk0 trivial))) ?_
  by_cases c1 : (σ.1 k0 2) = 0
  · rw [if_pos c1] at hf
    refine h.tableIn (off := 82) (tgt := 100) (show decode cX3_faithOfSender 18 = .ok (.tableswitch 82 0 7 #[82, 46, 48, 57, 64, 68, 70, 75], 46) by decide +kernel) (by rw [c1]; decide) (by rw [c1]; decide) (by rw [c1]; decide) (by decide) ?_
    refine h.run (o := []) (ls' := [some (.ref k0), some (.int 10), some (.int (10 + (σ.1 k0 4))), some (.int (10 / 2))]) (st' := [.int 10]) (σ' := σ) [(.iload_n 1, 1, 0, 0, 0, 0)] (pc2 := 101) (by decide +kernel) rfl trivial ?_
    cases hf
    exact hm.iret (by decide +kernel)
  · rw [if_neg c1] at hf
    by_cases c2 : (σ.1 k0 2) = 1
    · rw [if_pos c2] at hf
      refine h.tableIn (off := 46) (tgt := 64) (show decode cX3_faithOfSender 18 = .ok (.tableswitch 82 0 7 #[82, 46, 48, 57, 64, 68, 70, 75], 46) by decide +kernel) (by rw [c2]; decide) (by rw [c2]; decide) (by rw [c2]; decide) (by decide) ?_
      refine h.run (o := []) (ls' := [some (.ref k0), some (.int 10), some (.int (10 + (σ.1 k0 4))), some (.int (10 / 2))]) (st' := [.int (10 + (σ.1 k0 4))]) (σ' := σ) [(.iload_n 2, 1, 0, 0, 0, 0)] (pc2 := 65) (by decide +kernel) rfl trivial ?_
      cases hf
      exact hm.iret (by decide +kernel)
    · rw [if_neg c2] at hf
      by_cases c3 : (σ.1 k0 2) = 2
      · rw [if_pos c3] at hf
        refine h.tableIn (off := 48) (tgt := 66) (show decode cX3_faithOfSender 18 = .ok (.tableswitch 82 0 7 #[82, 46, 48, 57, 64, 68, 70, 75], 46) by decide +kernel) (by rw [c3]; decide) (by rw [c3]; decide) (by rw [c3]; decide) (by decide) ?_
        refine h.run (o := [kd k0 = 3]) (ls' := [some (.ref k0), some (.int 10), some (.int (10 + (σ.1 k0 4))), some (.int (10 / 2))]) (st' := [.int (10 + (2 * (σ.1 k0 3)))]) (σ' := σ) [(.iload_n 1, 1, 0, 0, 0, 0), (.iconst 2, 1, 2, 0, 0, 0), (.aload_n 0, 1, 0, 0, 0, 0), (.getfield 42, 3, 0, 0, 3, 3), (.imul, 1, 0, 0, 0, 0), (.iadd, 1, 0, 0, 0, 0)] (pc2 := 74) (by decide +kernel) rfl (And.intro hk0 trivial) ?_
        cases hf
        exact hm.iret (by decide +kernel)
      · rw [if_neg c3] at hf
        by_cases c4 : (σ.1 k0 2) = 3
        · rw [if_pos c4] at hf
          refine h.tableIn (off := 57) (tgt := 75) (show decode cX3_faithOfSender 18 = .ok (.tableswitch 82 0 7 #[82, 46, 48, 57, 64, 68, 70, 75], 46) by decide +kernel) (by rw [c4]; decide) (by rw [c4]; decide) (by rw [c4]; decide) (by decide) ?_
          refine h.run (o := [kd k0 = 3]) (ls' := [some (.ref k0), some (.int 10), some (.int (10 + (σ.1 k0 4))), some (.int (10 / 2))]) (st' := [.int (10 - (σ.1 k0 3))]) (σ' := σ) [(.iload_n 1, 1, 0, 0, 0, 0), (.aload_n 0, 1, 0, 0, 0, 0), (.getfield 42, 3, 0, 0, 3, 3), (.isub, 1, 0, 0, 0, 0)] (pc2 := 81) (by decide +kernel) rfl (And.intro hk0 trivial) ?_
          cases hf
          exact hm.iret (by decide +kernel)
        · rw [if_neg c4] at hf
          by_cases c5 : (σ.1 k0 2) = 4
          · rw [if_pos c5] at hf
            refine h.tableIn (off := 64) (tgt := 82) (show decode cX3_faithOfSender 18 = .ok (.tableswitch 82 0 7 #[82, 46, 48, 57, 64, 68, 70, 75], 46) by decide +kernel) (by rw [c5]; decide) (by rw [c5]; decide) (by rw [c5]; decide) (by decide) ?_
            refine h.run (o := []) (ls' := [some (.ref k0), some (.int 10), some (.int (10 + (σ.1 k0 4))), some (.int (10 / 2))]) (st' := [.int (2 * (10 + (σ.1 k0 4)))]) (σ' := σ) [(.iconst 2, 1, 2, 0, 0, 0), (.iload_n 2, 1, 0, 0, 0, 0), (.imul, 1, 0, 0, 0, 0)] (pc2 := 85) (by decide +kernel) rfl trivial ?_
            cases hf
            exact hm.iret (by decide +kernel)
          · rw [if_neg c5] at hf
            by_cases c6 : (σ.1 k0 2) = 5
            · rw [if_pos c6] at hf
              refine h.tableIn (off := 68) (tgt := 86) (show decode cX3_faithOfSender 18 = .ok (.tableswitch 82 0 7 #[82, 46, 48, 57, 64, 68, 70, 75], 46) by decide +kernel) (by rw [c6]; decide) (by rw [c6]; decide) (by rw [c6]; decide) (by decide) ?_
              refine h.run (o := []) (ls' := [some (.ref k0), some (.int 10), some (.int (10 + (σ.1 k0 4))), some (.int (10 / 2))]) (st' := [.int (10 / 2)]) (σ' := σ) [(.iload_n 3, 1, 0, 0, 0, 0)] (pc2 := 87) (by decide +kernel) rfl trivial ?_
              cases hf
              exact hm.iret (by decide +kernel)
            · rw [if_neg c6] at hf
              by_cases c7 : (σ.1 k0 2) = 6
              · rw [if_pos c7] at hf
                refine h.tableIn (off := 70) (tgt := 88) (show decode cX3_faithOfSender 18 = .ok (.tableswitch 82 0 7 #[82, 46, 48, 57, 64, 68, 70, 75], 46) by decide +kernel) (by rw [c7]; decide) (by rw [c7]; decide) (by rw [c7]; decide) (by decide) ?_
                refine h.run (o := []) (ls' := [some (.ref k0), some (.int 10), some (.int (10 + (σ.1 k0 4))), some (.int (10 / 2))]) (st' := [.int ((10 + (σ.1 k0 4)) + 7)]) (σ' := σ) [(.iload_n 2, 1, 0, 0, 0, 0), (.bipush 7, 2, 7, 0, 0, 0), (.iadd, 1, 0, 0, 0, 0)] (pc2 := 92) (by decide +kernel) rfl trivial ?_
                cases hf
                exact hm.iret (by decide +kernel)
              · rw [if_neg c7] at hf
                by_cases c8 : (σ.1 k0 2) = 7
                · rw [if_pos c8] at hf
                  refine h.tableIn (off := 75) (tgt := 93) (show decode cX3_faithOfSender 18 = .ok (.tableswitch 82 0 7 #[82, 46, 48, 57, 64, 68, 70, 75], 46) by decide +kernel) (by rw [c8]; decide) (by rw [c8]; decide) (by rw [c8]; decide) (by decide) ?_
                  refine h.run (o := [kd k0 = 3]) (ls' := [some (.ref k0), some (.int 10), some (.int (10 + (σ.1 k0 4))), some (.int (10 / 2))]) (st' := [.int ((10 / 2) - (σ.1 k0 3))]) (σ' := σ) [(.iload_n 3, 1, 0, 0, 0, 0), (.aload_n 0, 1, 0, 0, 0, 0), (.getfield 42, 3, 0, 0, 3, 3), (.isub, 1, 0, 0, 0, 0)] (pc2 := 99) (by decide +kernel) rfl (And.intro hk0 trivial) ?_
                  cases hf
                  exact hm.iret (by decide +kernel)
                · rw [if_neg c8] at hf
                  refine h.tableOut (tgt := 100) (show decode cX3_faithOfSender 18 = .ok (.tableswitch 82 0 7 #[82, 46, 48, 57, 64, 68, 70, 75], 46) by decide +kernel) (sw_out (fun i hl hh => ?_)) (by decide) ?_
                  · rcases (show i = 0 ∨ i = 1 ∨ i = 2 ∨ i = 3 ∨ i = 4 ∨ i = 5 ∨ i = 6 ∨ i = 7 by omega) with rfl | rfl | rfl | rfl | rfl | rfl | rfl | rfl
                    · exact sw_ne c1 (by decide)
                    · exact sw_ne c2 (by decide)
                    · exact sw_ne c3 (by decide)
                    · exact sw_ne c4 (by decide)
                    · exact sw_ne c5 (by decide)
                    · exact sw_ne c6 (by decide)
                    · exact sw_ne c7 (by decide)
                    · exact sw_ne c8 (by decide)
                  · refine h.run (o := []) (ls' := [some (.ref k0), some (.int 10), some (.int (10 + (σ.1 k0 4))), some (.int (10 / 2))]) (st' := [.int 10]) (σ' := σ) [(.iload_n 1, 1, 0, 0, 0, 0)] (pc2 := 101) (by decide +kernel) rfl trivial ?_
                    cases hf
                    exact hm.iret (by decide +kernel)
end
section
/-! Printed by wip/whole/prt.py: functions and walks. -/
def fX1_nameOfReturner_23 (t0 : Int32) (σ : ST) : Option Int32 :=
  some t0
set_option maxHeartbeats 4000000 in
theorem wX1_nameOfReturner_23 {l : Launch} {V : Nat → List (Option Value) → List Value → ST → Prop} {r : Int32} {σ : ST} {t0 : Int32} (hm : BM l 1 cX1_nameOfReturner 1 (some .int) 0 0 (some (.int r)) σ V) (hf : fX1_nameOfReturner_23 t0 σ = some r) : V 23 [none] [.int t0] σ := by
  have h := hm.bd
  unfold fX1_nameOfReturner_23 at hf
  cases hf
  exact hm.iret (by decide +kernel)
def fX1_nameOfReturner (σ : ST) : Option Int32 :=
  if (σ.1 3 11) ≤ 0 then
    fX1_nameOfReturner_23 (-1) σ
  else
    gd (decide (¬ (σ.1 3 11) = 0)) <|
    fX1_nameOfReturner_23 ((100 * (σ.1 3 12)) / (σ.1 3 11)) σ
set_option maxHeartbeats 4000000 in
theorem kmX1_nameOfReturner (l : Launch) {σ : ST} {r : Int32} (hf : fX1_nameOfReturner σ = some r) : KM l yX1_nameOfReturner cX1_nameOfReturner 1 (some .int) 0 0 [.ref 3] σ (some (.int r)) σ := by
  refine KM.intro (ow := 1) (by decide +kernel) rfl (Nat.le_of_ble_eq_true rfl) (fun V hm => ?_)
  show V 0 [some (.ref 3)] [] σ
  have h := hm.bd
  unfold fX1_nameOfReturner at hf
  refine h.run (o := [kd 3 = 1]) (ls' := [some (.ref 3)]) (st' := [.int (σ.1 3 11)]) (σ' := σ) [(.aload_n 0, 1, 0, 0, 0, 0), (.getfield 9, 3, 0, 0, 1, 11)] (pc2 := 4) (by decide +kernel) rfl (And.intro kd_3 trivial) ?_
  refine h.if_le (tgt := 22) (show decode cX1_nameOfReturner 4 = .ok (.ifCond .le 18, 3) by decide +kernel) (by decide) (fun c2 => ?_) (fun c2 => ?_)
  · rw [if_pos c2] at hf
    refine h.run (o := []) (ls' := [some (.ref 3)]) (st' := [.int (-1)]) (σ' := σ) [(.iconst (-1), 1, (-1), 0, 0, 0)] (pc2 := 23) (by decide +kernel) rfl trivial ?_
    refine h.drop (ls' := [none]) trivial ?_
    exact wX1_nameOfReturner_23 hm hf
  · rw [if_neg c2] at hf
    show V 7 [some (.ref 3)] [] σ
    obtain ⟨g1, hf⟩ := gd_some hf
    refine h.run (o := [kd 3 = 1, kd 3 = 1, ¬ (σ.1 3 11) = 0]) (ls' := [some (.ref 3)]) (st' := [.int ((100 * (σ.1 3 12)) / (σ.1 3 11))]) (σ' := σ) [(.bipush 100, 2, 100, 0, 0, 0), (.aload_n 0, 1, 0, 0, 0, 0), (.getfield 15, 3, 0, 0, 1, 12), (.imul, 1, 0, 0, 0, 0), (.aload_n 0, 1, 0, 0, 0, 0), (.getfield 9, 3, 0, 0, 1, 11), (.idiv, 1, 0, 0, 0, 0), (.goto 4, 3, 0, 0, 0, 23)] (pc2 := 23) (by decide +kernel) rfl (And.intro kd_3 (And.intro kd_3 (And.intro (of_decide_eq_true g1) trivial))) ?_
    refine h.drop (ls' := [none]) trivial ?_
    exact wX1_nameOfReturner_23 hm hf
def fX1_draw (σ : ST) : Option (Int32 × ST) :=
  some (((((setI σ 3 2 (((σ.1 3 2) * 1103515245) + 12345)).1 3 2) &&& 2147483647) / 65536) - ((((setI σ 3 2 (((σ.1 3 2) * 1103515245) + 12345)).1 3 2) &&& 2147483647) / 65536) / 100 * 100, setI σ 3 2 (((σ.1 3 2) * 1103515245) + 12345))
set_option maxHeartbeats 4000000 in
theorem kmX1_draw (l : Launch) {σ : ST} {r : Int32} {τ : ST} (hf : fX1_draw σ = some (r, τ)) : KM l yX1_draw cX1_draw 1 (some .int) 0 0 [.ref 3] σ (some (.int r)) τ := by
  refine KM.intro (ow := 1) (by decide +kernel) rfl (Nat.le_of_ble_eq_true rfl) (fun V hm => ?_)
  show V 0 [some (.ref 3)] [] σ
  have h := hm.bd
  unfold fX1_draw at hf
  refine h.run (o := [kd 3 = 1, kd 3 = 1, kd 3 = 1, ¬ 65536 = 0, ¬ 100 = 0]) (ls' := [some (.ref 3)]) (st' := [.int (((((setI σ 3 2 (((σ.1 3 2) * 1103515245) + 12345)).1 3 2) &&& 2147483647) / 65536) - ((((setI σ 3 2 (((σ.1 3 2) * 1103515245) + 12345)).1 3 2) &&& 2147483647) / 65536) / 100 * 100)]) (σ' := setI σ 3 2 (((σ.1 3 2) * 1103515245) + 12345)) [(.aload_n 0, 1, 0, 0, 0, 0), (.aload_n 0, 1, 0, 0, 0, 0), (.getfield 18, 3, 0, 0, 1, 2), (.ldc 21, 2, 1103515245, 0, 0, 0), (.imul, 1, 0, 0, 0, 0), (.sipush 12345, 3, 12345, 0, 0, 0), (.iadd, 1, 0, 0, 0, 0), (.putfield 18, 3, 0, 0, 1, 2), (.aload_n 0, 1, 0, 0, 0, 0), (.getfield 18, 3, 0, 0, 1, 2), (.ldc 24, 2, 2147483647, 0, 0, 0), (.iand, 1, 0, 0, 0, 0), (.ldc 25, 2, 65536, 0, 0, 0), (.idiv, 1, 0, 0, 0, 0), (.bipush 100, 2, 100, 0, 0, 0), (.irem, 1, 0, 0, 0, 0)] (pc2 := 28) (by decide +kernel) rfl (And.intro kd_3 (And.intro kd_3 (And.intro kd_3 (And.intro (by decide) (And.intro (by decide) trivial))))) ?_
  cases hf
  exact hm.iret (by decide +kernel)
def fX1_allIfHeld_19 (t0 : Int32) (σ : ST) : Option Int32 :=
  some t0
set_option maxHeartbeats 4000000 in
theorem wX1_allIfHeld_19 {l : Launch} {V : Nat → List (Option Value) → List Value → ST → Prop} {r : Int32} {σ : ST} {t0 : Int32} (hm : BM l 1 cX1_allIfHeld 2 (some .int) 0 0 (some (.int r)) σ V) (hf : fX1_allIfHeld_19 t0 σ = some r) : V 19 [none, none] [.int t0] σ := by
  have h := hm.bd
  unfold fX1_allIfHeld_19 at hf
  cases hf
  exact hm.iret (by decide +kernel)
def fX1_allIfHeld (x1 : Int32) (σ : ST) : Option Int32 :=
  if ((σ.1 3 1) * x1) ≤ 100 then
    fX1_allIfHeld_19 0 σ
  else
    fX1_allIfHeld_19 (σ.1 3 0) σ
set_option maxHeartbeats 4000000 in
theorem kmX1_allIfHeld (l : Launch) {x1 : Int32} {σ : ST} {r : Int32} (hf : fX1_allIfHeld x1 σ = some r) : KM l yX1_allIfHeld cX1_allIfHeld 2 (some .int) 0 0 [.ref 3, .int x1] σ (some (.int r)) σ := by
  refine KM.intro (ow := 1) (by decide +kernel) rfl (Nat.le_of_ble_eq_true rfl) (fun V hm => ?_)
  show V 0 [some (.ref 3), some (.int x1)] [] σ
  have h := hm.bd
  unfold fX1_allIfHeld at hf
  refine h.run (o := [kd 3 = 1]) (ls' := [some (.ref 3), some (.int x1)]) (st' := [.int 100, .int ((σ.1 3 1) * x1)]) (σ' := σ) [(.aload_n 0, 1, 0, 0, 0, 0), (.getfield 64, 3, 0, 0, 1, 1), (.iload_n 1, 1, 0, 0, 0, 0), (.imul, 1, 0, 0, 0, 0), (.bipush 100, 2, 100, 0, 0, 0)] (pc2 := 8) (by decide +kernel) rfl (And.intro kd_3 trivial) ?_
  refine h.icmp_le (tgt := 18) (show decode cX1_allIfHeld 8 = .ok (.if_icmp .le 10, 3) by decide +kernel) (by decide) (fun c1 => ?_) (fun c1 => ?_)
  · rw [if_pos c1] at hf
    refine h.run (o := []) (ls' := [some (.ref 3), some (.int x1)]) (st' := [.int 0]) (σ' := σ) [(.iconst 0, 1, 0, 0, 0, 0)] (pc2 := 19) (by decide +kernel) rfl trivial ?_
    refine h.drop (ls' := [none, none]) trivial ?_
    exact wX1_allIfHeld_19 hm hf
  · rw [if_neg c1] at hf
    show V 11 [some (.ref 3), some (.int x1)] [] σ
    refine h.run (o := [kd 3 = 1]) (ls' := [some (.ref 3), some (.int x1)]) (st' := [.int (σ.1 3 0)]) (σ' := σ) [(.aload_n 0, 1, 0, 0, 0, 0), (.getfield 39, 3, 0, 0, 1, 0), (.goto 4, 3, 0, 0, 0, 19)] (pc2 := 19) (by decide +kernel) rfl (And.intro kd_3 trivial) ?_
    refine h.drop (ls' := [none, none]) trivial ?_
    exact wX1_allIfHeld_19 hm hf
def fX1_allByLot_21 (t0 : Int32) (σ : ST) : Option (Int32 × ST) :=
  some (t0, σ)
set_option maxHeartbeats 4000000 in
theorem wX1_allByLot_21 {l : Launch} {V : Nat → List (Option Value) → List Value → ST → Prop} {r : Int32} {τ : ST} {σ : ST} {t0 : Int32} (hm : BM l 1 cX1_allByLot 1 (some .int) 1 20 (some (.int r)) τ V) (hf : fX1_allByLot_21 t0 σ = some (r, τ)) : V 21 [none] [.int t0] σ := by
  have h := hm.bd
  unfold fX1_allByLot_21 at hf
  cases hf
  exact hm.iret (by decide +kernel)
def fX1_allByLot (σ : ST) : Option (Int32 × ST) :=
  bI (fX1_draw σ) fun a1 σ1 =>
  if (5 * (σ1.1 3 4)) ≤ a1 then
    fX1_allByLot_21 0 σ1
  else
    fX1_allByLot_21 (σ1.1 3 0) σ1
set_option maxHeartbeats 4000000 in
theorem kmX1_allByLot (l : Launch) {σ : ST} {r : Int32} {τ : ST} (hf : fX1_allByLot σ = some (r, τ)) : KM l yX1_allByLot cX1_allByLot 1 (some .int) 1 20 [.ref 3] σ (some (.int r)) τ := by
  refine KM.intro (ow := 1) (by decide +kernel) rfl (Nat.le_of_ble_eq_true rfl) (fun V hm => ?_)
  show V 0 [some (.ref 3)] [] σ
  have h := hm.bd
  unfold fX1_allByLot at hf
  refine h.run (o := []) (ls' := [some (.ref 3)]) (st' := [.ref 3]) (σ' := σ) [(.aload_n 0, 1, 0, 0, 0, 0)] (pc2 := 1) (by decide +kernel) rfl trivial ?_
  obtain ⟨a1, σ1, e1, hf⟩ := bI_some hf
  refine h.callV (as := []) (rest := []) (by decide +kernel) lk1_67 cwX1_draw kd_3 (kmX1_draw l e1) rfl (Nat.le_of_ble_eq_true rfl) (Nat.le_of_ble_eq_true rfl) (Nat.le_of_ble_eq_true rfl) ?_
  show V 4 [some (.ref 3)] [.int a1] σ1
  refine h.run (o := [kd 3 = 1]) (ls' := [some (.ref 3)]) (st' := [.int (5 * (σ1.1 3 4)), .int a1]) (σ' := σ1) [(.iconst 5, 1, 5, 0, 0, 0), (.aload_n 0, 1, 0, 0, 0, 0), (.getfield 36, 3, 0, 0, 1, 4), (.imul, 1, 0, 0, 0, 0)] (pc2 := 10) (by decide +kernel) rfl (And.intro kd_3 trivial) ?_
  refine h.icmp_ge (tgt := 20) (show decode cX1_allByLot 10 = .ok (.if_icmp .ge 10, 3) by decide +kernel) (by decide) (fun c2 => ?_) (fun c2 => ?_)
  · rw [if_pos c2] at hf
    refine h.run (o := []) (ls' := [some (.ref 3)]) (st' := [.int 0]) (σ' := σ1) [(.iconst 0, 1, 0, 0, 0, 0)] (pc2 := 21) (by decide +kernel) rfl trivial ?_
    refine h.drop (ls' := [none]) trivial ?_
    exact wX1_allByLot_21 hm hf
  · rw [if_neg c2] at hf
    show V 13 [some (.ref 3)] [] σ1
    refine h.run (o := [kd 3 = 1]) (ls' := [some (.ref 3)]) (st' := [.int (σ1.1 3 0)]) (σ' := σ1) [(.aload_n 0, 1, 0, 0, 0, 0), (.getfield 39, 3, 0, 0, 1, 0), (.goto 4, 3, 0, 0, 0, 21)] (pc2 := 21) (by decide +kernel) rfl (And.intro kd_3 trivial) ?_
    refine h.drop (ls' := [none]) trivial ?_
    exact wX1_allByLot_21 hm hf
def fX1_sendNow_98 (t0 : Int32) (σ : ST) : Option (Int32 × ST) :=
  some (t0, σ)
set_option maxHeartbeats 4000000 in
theorem wX1_sendNow_98 {l : Launch} {V : Nat → List (Option Value) → List Value → ST → Prop} {r : Int32} {τ : ST} {σ : ST} {t0 : Int32} (hm : BM l 1 cX1_sendNow 1 (some .int) 2 40 (some (.int r)) τ V) (hf : fX1_sendNow_98 t0 σ = some (r, τ)) : V 98 [none] [.int t0] σ := by
  have h := hm.bd
  unfold fX1_sendNow_98 at hf
  cases hf
  exact hm.iret (by decide +kernel)
def fX1_sendNow_118 (t1 : Int32) (σ : ST) : Option (Int32 × ST) :=
  bR (fX1_allIfHeld t1 σ) fun a1 =>
  some (a1, σ)
set_option maxHeartbeats 4000000 in
theorem wX1_sendNow_118 {l : Launch} {V : Nat → List (Option Value) → List Value → ST → Prop} {r : Int32} {τ : ST} {σ : ST} {t1 : Int32} (hm : BM l 1 cX1_sendNow 1 (some .int) 2 40 (some (.int r)) τ V) (hf : fX1_sendNow_118 t1 σ = some (r, τ)) : V 118 [none] [.int t1, .ref 3] σ := by
  have h := hm.bd
  unfold fX1_sendNow_118 at hf
  obtain ⟨a1, e1, hf⟩ := bR_some hf
  refine h.callV (as := [.int t1]) (rest := []) (by decide +kernel) lk1_32 cwX1_allIfHeld kd_3 (kmX1_allIfHeld l e1) rfl (Nat.le_of_ble_eq_true rfl) (Nat.le_of_ble_eq_true rfl) (Nat.le_of_ble_eq_true rfl) ?_
  show V 121 [none] [.int a1] σ
  cases hf
  exact hm.iret (by decide +kernel)
def fX1_sendNow_171 (t0 : Int32) (σ : ST) : Option (Int32 × ST) :=
  some (t0, σ)
set_option maxHeartbeats 4000000 in
theorem wX1_sendNow_171 {l : Launch} {V : Nat → List (Option Value) → List Value → ST → Prop} {r : Int32} {τ : ST} {σ : ST} {t0 : Int32} (hm : BM l 1 cX1_sendNow 1 (some .int) 2 40 (some (.int r)) τ V) (hf : fX1_sendNow_171 t0 σ = some (r, τ)) : V 171 [none] [.int t0] σ := by
  have h := hm.bd
  unfold fX1_sendNow_171 at hf
  cases hf
  exact hm.iret (by decide +kernel)
def fX1_sendNow (σ : ST) : Option (Int32 × ST) :=
  if (σ.1 3 3) = 0 then
    some (imin (σ.1 3 4) (σ.1 3 0), σ)
  else
    if (σ.1 3 3) = 1 then
      bR (fX1_allIfHeld (σ.1 3 5) σ) fun a2 =>
      some (a2, σ)
    else
      if (σ.1 3 3) = 2 then
        some (imin ((σ.1 3 4) / 2) (σ.1 3 0), σ)
      else
        if (σ.1 3 3) = 3 then
          if (σ.1 3 13) = (-1) then
            fX1_sendNow_98 1 σ
          else
            fX1_sendNow_98 (imin (σ.1 3 13) (σ.1 3 0)) σ
        else
          if (σ.1 3 3) = 4 then
            if (σ.1 3 11) ≤ 0 then
              fX1_sendNow_118 (σ.1 3 5) σ
            else
              bR (fX1_nameOfReturner σ) fun a7 =>
              fX1_sendNow_118 a7 σ
          else
            if (σ.1 3 3) = 5 then
              bI (fX1_allByLot σ) fun a10 σ10 =>
              some (a10, σ10)
            else
              if (σ.1 3 3) = 6 then
                bR (fX1_allIfHeld (((σ.1 3 5) + (σ.1 3 10)) / 2) σ) fun a12 =>
                some (a12, σ)
              else
                if (σ.1 3 3) = 7 then
                  if (σ.1 3 6) = 1 then
                    bI (fX1_allByLot σ) fun a15 σ15 =>
                    fX1_sendNow_171 a15 σ15
                  else
                    bI (fX1_allByLot σ) fun a14 σ14 =>
                    fX1_sendNow_171 (imin a14 ((σ14.1 3 0) / 2)) σ14
                else
                  some (imin (σ.1 3 4) (σ.1 3 0), σ)
set_option maxHeartbeats 4000000 in
theorem kmX1_sendNow (l : Launch) {σ : ST} {r : Int32} {τ : ST} (hf : fX1_sendNow σ = some (r, τ)) : KM l yX1_sendNow cX1_sendNow 1 (some .int) 2 40 [.ref 3] σ (some (.int r)) τ := by
  refine KM.intro (ow := 1) (by decide +kernel) rfl (Nat.le_of_ble_eq_true rfl) (fun V hm => ?_)
  show V 0 [some (.ref 3)] [] σ
  have h := hm.bd
  unfold fX1_sendNow at hf
  refine h.run (o := [kd 3 = 1]) (ls' := [some (.ref 3)]) (st' := [.int (σ.1 3 3)]) (σ' := σ) [(.aload_n 0, 1, 0, 0, 0, 0), (.getfield 26, 3, 0, 0, 1, 3)] (pc2 := 4) (by decide +kernel) rfl (And.intro kd_3 trivial) ?_
  by_cases c1 : (σ.1 3 3) = 0
  · rw [if_pos c1] at hf
    refine h.tableIn (off := 168) (tgt := 172) (show decode cX1_sendNow 4 = .ok (.tableswitch 168 0 7 #[168, 48, 57, 71, 95, 118, 123, 139], 48) by decide +kernel) (by rw [c1]; decide) (by rw [c1]; decide) (by rw [c1]; decide) (by decide) ?_
    refine h.run (o := [kd 3 = 1, kd 3 = 1]) (ls' := [some (.ref 3)]) (st' := [.int (σ.1 3 0), .int (σ.1 3 4)]) (σ' := σ) [(.aload_n 0, 1, 0, 0, 0, 0), (.getfield 36, 3, 0, 0, 1, 4), (.aload_n 0, 1, 0, 0, 0, 0), (.getfield 39, 3, 0, 0, 1, 0)] (pc2 := 180) (by decide +kernel) rfl (And.intro kd_3 (And.intro kd_3 trivial)) ?_
    refine h.nmin jw_l42 (by decide +kernel) (Nat.le_of_ble_eq_true rfl) (Nat.le_of_ble_eq_true rfl) ?_
    show V 183 [some (.ref 3)] [.int (imin (σ.1 3 4) (σ.1 3 0))] σ
    cases hf
    exact hm.iret (by decide +kernel)
  · rw [if_neg c1] at hf
    by_cases c3 : (σ.1 3 3) = 1
    · rw [if_pos c3] at hf
      refine h.tableIn (off := 48) (tgt := 52) (show decode cX1_sendNow 4 = .ok (.tableswitch 168 0 7 #[168, 48, 57, 71, 95, 118, 123, 139], 48) by decide +kernel) (by rw [c3]; decide) (by rw [c3]; decide) (by rw [c3]; decide) (by decide) ?_
      refine h.run (o := [kd 3 = 1]) (ls' := [some (.ref 3)]) (st' := [.int (σ.1 3 5), .ref 3]) (σ' := σ) [(.aload_n 0, 1, 0, 0, 0, 0), (.aload_n 0, 1, 0, 0, 0, 0), (.getfield 29, 3, 0, 0, 1, 5)] (pc2 := 57) (by decide +kernel) rfl (And.intro kd_3 trivial) ?_
      obtain ⟨a2, e2, hf⟩ := bR_some hf
      refine h.callV (as := [.int (σ.1 3 5)]) (rest := []) (by decide +kernel) lk1_32 cwX1_allIfHeld kd_3 (kmX1_allIfHeld l e2) rfl (Nat.le_of_ble_eq_true rfl) (Nat.le_of_ble_eq_true rfl) (Nat.le_of_ble_eq_true rfl) ?_
      show V 60 [some (.ref 3)] [.int a2] σ
      cases hf
      exact hm.iret (by decide +kernel)
    · rw [if_neg c3] at hf
      by_cases c4 : (σ.1 3 3) = 2
      · rw [if_pos c4] at hf
        refine h.tableIn (off := 57) (tgt := 61) (show decode cX1_sendNow 4 = .ok (.tableswitch 168 0 7 #[168, 48, 57, 71, 95, 118, 123, 139], 48) by decide +kernel) (by rw [c4]; decide) (by rw [c4]; decide) (by rw [c4]; decide) (by decide) ?_
        refine h.run (o := [kd 3 = 1, ¬ 2 = 0, kd 3 = 1]) (ls' := [some (.ref 3)]) (st' := [.int (σ.1 3 0), .int ((σ.1 3 4) / 2)]) (σ' := σ) [(.aload_n 0, 1, 0, 0, 0, 0), (.getfield 36, 3, 0, 0, 1, 4), (.iconst 2, 1, 2, 0, 0, 0), (.idiv, 1, 0, 0, 0, 0), (.aload_n 0, 1, 0, 0, 0, 0), (.getfield 39, 3, 0, 0, 1, 0)] (pc2 := 71) (by decide +kernel) rfl (And.intro kd_3 (And.intro (by decide) (And.intro kd_3 trivial))) ?_
        refine h.nmin jw_l42 (by decide +kernel) (Nat.le_of_ble_eq_true rfl) (Nat.le_of_ble_eq_true rfl) ?_
        show V 74 [some (.ref 3)] [.int (imin ((σ.1 3 4) / 2) (σ.1 3 0))] σ
        cases hf
        exact hm.iret (by decide +kernel)
      · rw [if_neg c4] at hf
        by_cases c6 : (σ.1 3 3) = 3
        · rw [if_pos c6] at hf
          refine h.tableIn (off := 71) (tgt := 75) (show decode cX1_sendNow 4 = .ok (.tableswitch 168 0 7 #[168, 48, 57, 71, 95, 118, 123, 139], 48) by decide +kernel) (by rw [c6]; decide) (by rw [c6]; decide) (by rw [c6]; decide) (by decide) ?_
          refine h.run (o := [kd 3 = 1]) (ls' := [some (.ref 3)]) (st' := [.int (-1), .int (σ.1 3 13)]) (σ' := σ) [(.aload_n 0, 1, 0, 0, 0, 0), (.getfield 48, 3, 0, 0, 1, 13), (.iconst (-1), 1, (-1), 0, 0, 0)] (pc2 := 80) (by decide +kernel) rfl (And.intro kd_3 trivial) ?_
          refine h.icmp_ne (tgt := 87) (show decode cX1_sendNow 80 = .ok (.if_icmp .ne 7, 3) by decide +kernel) (by decide) (fun c5 => ?_) (fun c5 => ?_)
          · rw [if_neg c5] at hf
            refine h.run (o := [kd 3 = 1, kd 3 = 1]) (ls' := [some (.ref 3)]) (st' := [.int (σ.1 3 0), .int (σ.1 3 13)]) (σ' := σ) [(.aload_n 0, 1, 0, 0, 0, 0), (.getfield 48, 3, 0, 0, 1, 13), (.aload_n 0, 1, 0, 0, 0, 0), (.getfield 39, 3, 0, 0, 1, 0)] (pc2 := 95) (by decide +kernel) rfl (And.intro kd_3 (And.intro kd_3 trivial)) ?_
            refine h.nmin jw_l42 (by decide +kernel) (Nat.le_of_ble_eq_true rfl) (Nat.le_of_ble_eq_true rfl) ?_
            show V 98 [some (.ref 3)] [.int (imin (σ.1 3 13) (σ.1 3 0))] σ
            refine h.drop (ls' := [none]) trivial ?_
            exact wX1_sendNow_98 hm hf
          · rw [if_pos c5] at hf
            show V 83 [some (.ref 3)] [] σ
            refine h.run (o := []) (ls' := [some (.ref 3)]) (st' := [.int 1]) (σ' := σ) [(.iconst 1, 1, 1, 0, 0, 0), (.goto 14, 3, 0, 0, 0, 98)] (pc2 := 98) (by decide +kernel) rfl trivial ?_
            refine h.drop (ls' := [none]) trivial ?_
            exact wX1_sendNow_98 hm hf
        · rw [if_neg c6] at hf
          by_cases c9 : (σ.1 3 3) = 4
          · rw [if_pos c9] at hf
            refine h.tableIn (off := 95) (tgt := 99) (show decode cX1_sendNow 4 = .ok (.tableswitch 168 0 7 #[168, 48, 57, 71, 95, 118, 123, 139], 48) by decide +kernel) (by rw [c9]; decide) (by rw [c9]; decide) (by rw [c9]; decide) (by decide) ?_
            refine h.run (o := [kd 3 = 1]) (ls' := [some (.ref 3)]) (st' := [.int (σ.1 3 11), .ref 3]) (σ' := σ) [(.aload_n 0, 1, 0, 0, 0, 0), (.aload_n 0, 1, 0, 0, 0, 0), (.getfield 9, 3, 0, 0, 1, 11)] (pc2 := 104) (by decide +kernel) rfl (And.intro kd_3 trivial) ?_
            refine h.if_le (tgt := 114) (show decode cX1_sendNow 104 = .ok (.ifCond .le 10, 3) by decide +kernel) (by decide) (fun c8 => ?_) (fun c8 => ?_)
            · rw [if_pos c8] at hf
              refine h.run (o := [kd 3 = 1]) (ls' := [some (.ref 3)]) (st' := [.int (σ.1 3 5), .ref 3]) (σ' := σ) [(.aload_n 0, 1, 0, 0, 0, 0), (.getfield 29, 3, 0, 0, 1, 5)] (pc2 := 118) (by decide +kernel) rfl (And.intro kd_3 trivial) ?_
              refine h.drop (ls' := [none]) trivial ?_
              exact wX1_sendNow_118 hm hf
            · rw [if_neg c8] at hf
              show V 107 [some (.ref 3)] [.ref 3] σ
              refine h.run (o := []) (ls' := [some (.ref 3)]) (st' := [.ref 3, .ref 3]) (σ' := σ) [(.aload_n 0, 1, 0, 0, 0, 0)] (pc2 := 108) (by decide +kernel) rfl trivial ?_
              obtain ⟨a7, e7, hf⟩ := bR_some hf
              refine h.callV (as := []) (rest := [.ref 3]) (by decide +kernel) lk1_51 cwX1_nameOfReturner kd_3 (kmX1_nameOfReturner l e7) rfl (Nat.le_of_ble_eq_true rfl) (Nat.le_of_ble_eq_true rfl) (Nat.le_of_ble_eq_true rfl) ?_
              show V 111 [some (.ref 3)] [.int a7, .ref 3] σ
              refine h.run (o := []) (ls' := [some (.ref 3)]) (st' := [.int a7, .ref 3]) (σ' := σ) [(.goto 7, 3, 0, 0, 0, 118)] (pc2 := 118) (by decide +kernel) rfl trivial ?_
              refine h.drop (ls' := [none]) trivial ?_
              exact wX1_sendNow_118 hm hf
          · rw [if_neg c9] at hf
            by_cases c11 : (σ.1 3 3) = 5
            · rw [if_pos c11] at hf
              refine h.tableIn (off := 118) (tgt := 122) (show decode cX1_sendNow 4 = .ok (.tableswitch 168 0 7 #[168, 48, 57, 71, 95, 118, 123, 139], 48) by decide +kernel) (by rw [c11]; decide) (by rw [c11]; decide) (by rw [c11]; decide) (by decide) ?_
              refine h.run (o := []) (ls' := [some (.ref 3)]) (st' := [.ref 3]) (σ' := σ) [(.aload_n 0, 1, 0, 0, 0, 0)] (pc2 := 123) (by decide +kernel) rfl trivial ?_
              obtain ⟨a10, σ10, e10, hf⟩ := bI_some hf
              refine h.callV (as := []) (rest := []) (by decide +kernel) lk1_55 cwX1_allByLot kd_3 (kmX1_allByLot l e10) rfl (Nat.le_of_ble_eq_true rfl) (Nat.le_of_ble_eq_true rfl) (Nat.le_of_ble_eq_true rfl) ?_
              show V 126 [some (.ref 3)] [.int a10] σ10
              cases hf
              exact hm.iret (by decide +kernel)
            · rw [if_neg c11] at hf
              by_cases c13 : (σ.1 3 3) = 6
              · rw [if_pos c13] at hf
                refine h.tableIn (off := 123) (tgt := 127) (show decode cX1_sendNow 4 = .ok (.tableswitch 168 0 7 #[168, 48, 57, 71, 95, 118, 123, 139], 48) by decide +kernel) (by rw [c13]; decide) (by rw [c13]; decide) (by rw [c13]; decide) (by decide) ?_
                refine h.run (o := [kd 3 = 1, kd 3 = 1, ¬ 2 = 0]) (ls' := [some (.ref 3)]) (st' := [.int (((σ.1 3 5) + (σ.1 3 10)) / 2), .ref 3]) (σ' := σ) [(.aload_n 0, 1, 0, 0, 0, 0), (.aload_n 0, 1, 0, 0, 0, 0), (.getfield 29, 3, 0, 0, 1, 5), (.aload_n 0, 1, 0, 0, 0, 0), (.getfield 58, 3, 0, 0, 1, 10), (.iadd, 1, 0, 0, 0, 0), (.iconst 2, 1, 2, 0, 0, 0), (.idiv, 1, 0, 0, 0, 0)] (pc2 := 139) (by decide +kernel) rfl (And.intro kd_3 (And.intro kd_3 (And.intro (by decide) trivial))) ?_
                obtain ⟨a12, e12, hf⟩ := bR_some hf
                refine h.callV (as := [.int (((σ.1 3 5) + (σ.1 3 10)) / 2)]) (rest := []) (by decide +kernel) lk1_32 cwX1_allIfHeld kd_3 (kmX1_allIfHeld l e12) rfl (Nat.le_of_ble_eq_true rfl) (Nat.le_of_ble_eq_true rfl) (Nat.le_of_ble_eq_true rfl) ?_
                show V 142 [some (.ref 3)] [.int a12] σ
                cases hf
                exact hm.iret (by decide +kernel)
              · rw [if_neg c13] at hf
                by_cases c17 : (σ.1 3 3) = 7
                · rw [if_pos c17] at hf
                  refine h.tableIn (off := 139) (tgt := 143) (show decode cX1_sendNow 4 = .ok (.tableswitch 168 0 7 #[168, 48, 57, 71, 95, 118, 123, 139], 48) by decide +kernel) (by rw [c17]; decide) (by rw [c17]; decide) (by rw [c17]; decide) (by decide) ?_
                  refine h.run (o := [kd 3 = 1]) (ls' := [some (.ref 3)]) (st' := [.int 1, .int (σ.1 3 6)]) (σ' := σ) [(.aload_n 0, 1, 0, 0, 0, 0), (.getfield 61, 3, 0, 0, 1, 6), (.iconst 1, 1, 1, 0, 0, 0)] (pc2 := 148) (by decide +kernel) rfl (And.intro kd_3 trivial) ?_
                  refine h.icmp_ne (tgt := 158) (show decode cX1_sendNow 148 = .ok (.if_icmp .ne 10, 3) by decide +kernel) (by decide) (fun c16 => ?_) (fun c16 => ?_)
                  · rw [if_neg c16] at hf
                    refine h.run (o := []) (ls' := [some (.ref 3)]) (st' := [.ref 3]) (σ' := σ) [(.aload_n 0, 1, 0, 0, 0, 0)] (pc2 := 159) (by decide +kernel) rfl trivial ?_
                    obtain ⟨a14, σ14, e14, hf⟩ := bI_some hf
                    refine h.callV (as := []) (rest := []) (by decide +kernel) lk1_55 cwX1_allByLot kd_3 (kmX1_allByLot l e14) rfl (Nat.le_of_ble_eq_true rfl) (Nat.le_of_ble_eq_true rfl) (Nat.le_of_ble_eq_true rfl) ?_
                    show V 162 [some (.ref 3)] [.int a14] σ14
                    refine h.run (o := [kd 3 = 1, ¬ 2 = 0]) (ls' := [some (.ref 3)]) (st' := [.int ((σ14.1 3 0) / 2), .int a14]) (σ' := σ14) [(.aload_n 0, 1, 0, 0, 0, 0), (.getfield 39, 3, 0, 0, 1, 0), (.iconst 2, 1, 2, 0, 0, 0), (.idiv, 1, 0, 0, 0, 0)] (pc2 := 168) (by decide +kernel) rfl (And.intro kd_3 (And.intro (by decide) trivial)) ?_
                    refine h.nmin jw_l42 (by decide +kernel) (Nat.le_of_ble_eq_true rfl) (Nat.le_of_ble_eq_true rfl) ?_
                    show V 171 [some (.ref 3)] [.int (imin a14 ((σ14.1 3 0) / 2))] σ14
                    refine h.drop (ls' := [none]) trivial ?_
                    exact wX1_sendNow_171 hm hf
                  · rw [if_pos c16] at hf
                    show V 151 [some (.ref 3)] [] σ
                    refine h.run (o := []) (ls' := [some (.ref 3)]) (st' := [.ref 3]) (σ' := σ) [(.aload_n 0, 1, 0, 0, 0, 0)] (pc2 := 152) (by decide +kernel) rfl trivial ?_
                    obtain ⟨a15, σ15, e15, hf⟩ := bI_some hf
                    refine h.callV (as := []) (rest := []) (by decide +kernel) lk1_55 cwX1_allByLot kd_3 (kmX1_allByLot l e15) rfl (Nat.le_of_ble_eq_true rfl) (Nat.le_of_ble_eq_true rfl) (Nat.le_of_ble_eq_true rfl) ?_
                    show V 155 [some (.ref 3)] [.int a15] σ15
                    refine h.run (o := []) (ls' := [some (.ref 3)]) (st' := [.int a15]) (σ' := σ15) [(.goto 16, 3, 0, 0, 0, 171)] (pc2 := 171) (by decide +kernel) rfl trivial ?_
                    refine h.drop (ls' := [none]) trivial ?_
                    exact wX1_sendNow_171 hm hf
                · rw [if_neg c17] at hf
                  refine h.tableOut (tgt := 172) (show decode cX1_sendNow 4 = .ok (.tableswitch 168 0 7 #[168, 48, 57, 71, 95, 118, 123, 139], 48) by decide +kernel) (sw_out (fun i hl hh => ?_)) (by decide) ?_
                  · rcases (show i = 0 ∨ i = 1 ∨ i = 2 ∨ i = 3 ∨ i = 4 ∨ i = 5 ∨ i = 6 ∨ i = 7 by omega) with rfl | rfl | rfl | rfl | rfl | rfl | rfl | rfl
                    · exact sw_ne c1 (by decide)
                    · exact sw_ne c3 (by decide)
                    · exact sw_ne c4 (by decide)
                    · exact sw_ne c6 (by decide)
                    · exact sw_ne c9 (by decide)
                    · exact sw_ne c11 (by decide)
                    · exact sw_ne c13 (by decide)
                    · exact sw_ne c17 (by decide)
                  · refine h.run (o := [kd 3 = 1, kd 3 = 1]) (ls' := [some (.ref 3)]) (st' := [.int (σ.1 3 0), .int (σ.1 3 4)]) (σ' := σ) [(.aload_n 0, 1, 0, 0, 0, 0), (.getfield 36, 3, 0, 0, 1, 4), (.aload_n 0, 1, 0, 0, 0, 0), (.getfield 39, 3, 0, 0, 1, 0)] (pc2 := 180) (by decide +kernel) rfl (And.intro kd_3 (And.intro kd_3 trivial)) ?_
                    refine h.nmin jw_l42 (by decide +kernel) (Nat.le_of_ble_eq_true rfl) (Nat.le_of_ble_eq_true rfl) ?_
                    show V 183 [some (.ref 3)] [.int (imin (σ.1 3 4) (σ.1 3 0))] σ
                    cases hf
                    exact hm.iret (by decide +kernel)
def fX1_wouldSend (σ : ST) : Option (Int32 × ST) :=
  bI (fX1_sendNow σ) fun a1 σ1 =>
  some (a1, setI σ1 3 2 (σ.1 3 2))
set_option maxHeartbeats 4000000 in
theorem kmX1_wouldSend (l : Launch) {σ : ST} {r : Int32} {τ : ST} (hf : fX1_wouldSend σ = some (r, τ)) : KM l yX1_wouldSend cX1_wouldSend 3 (some .int) 3 60 [.ref 3] σ (some (.int r)) τ := by
  refine KM.intro (ow := 1) (by decide +kernel) rfl (Nat.le_of_ble_eq_true rfl) (fun V hm => ?_)
  show V 0 [some (.ref 3), none, none] [] σ
  have h := hm.bd
  unfold fX1_wouldSend at hf
  refine h.run (o := [kd 3 = 1]) (ls' := [some (.ref 3), some (.int (σ.1 3 2)), none]) (st' := [.ref 3]) (σ' := σ) [(.aload_n 0, 1, 0, 0, 0, 0), (.getfield 18, 3, 0, 0, 1, 2), (.istore_n 1, 1, 0, 0, 0, 0), (.aload_n 0, 1, 0, 0, 0, 0)] (pc2 := 6) (by decide +kernel) rfl (And.intro kd_3 trivial) ?_
  obtain ⟨a1, σ1, e1, hf⟩ := bI_some hf
  refine h.callV (as := []) (rest := []) (by decide +kernel) lk1_70 cwX1_sendNow kd_3 (kmX1_sendNow l e1) rfl (Nat.le_of_ble_eq_true rfl) (Nat.le_of_ble_eq_true rfl) (Nat.le_of_ble_eq_true rfl) ?_
  show V 9 [some (.ref 3), some (.int (σ.1 3 2)), none] [.int a1] σ1
  refine h.run (o := [kd 3 = 1]) (ls' := [some (.ref 3), some (.int (σ.1 3 2)), some (.int a1)]) (st' := [.int a1]) (σ' := setI σ1 3 2 (σ.1 3 2)) [(.istore_n 2, 1, 0, 0, 0, 0), (.aload_n 0, 1, 0, 0, 0, 0), (.iload_n 1, 1, 0, 0, 0, 0), (.putfield 18, 3, 0, 0, 1, 2), (.iload_n 2, 1, 0, 0, 0, 0)] (pc2 := 16) (by decide +kernel) rfl (And.intro kd_3 trivial) ?_
  cases hf
  exact hm.iret (by decide +kernel)
def fX1_sendBackOf_19 (σ : ST) : Option (Int32 × ST) :=
  some (0, σ)
set_option maxHeartbeats 4000000 in
theorem wX1_sendBackOf_19 {l : Launch} {V : Nat → List (Option Value) → List Value → ST → Prop} {r : Int32} {τ : ST} {σ : ST} (hm : BM l 1 cX1_sendBackOf 5 (some .int) 1 20 (some (.int r)) τ V) (hf : fX1_sendBackOf_19 σ = some (r, τ)) : V 19 [none, none, none, none, none] [] σ := by
  have h := hm.bd
  unfold fX1_sendBackOf_19 at hf
  refine h.run (o := []) (ls' := [none, none, none, none, none]) (st' := [.int 0]) (σ' := σ) [(.iconst 0, 1, 0, 0, 0, 0)] (pc2 := 20) (by decide +kernel) rfl trivial ?_
  cases hf
  exact hm.iret (by decide +kernel)
def fX1_sendBackOf_71 (x3 : Int32) (t0 : Int32) (σ : ST) : Option (Int32 × ST) :=
  some ((x3 * t0) / 100, σ)
set_option maxHeartbeats 4000000 in
theorem wX1_sendBackOf_71 {l : Launch} {V : Nat → List (Option Value) → List Value → ST → Prop} {r : Int32} {τ : ST} {σ : ST} {x3 : Int32} {t0 : Int32} (hm : BM l 1 cX1_sendBackOf 5 (some .int) 1 20 (some (.int r)) τ V) (hf : fX1_sendBackOf_71 x3 t0 σ = some (r, τ)) : V 71 [none, none, none, some (.int x3), none] [.int t0] σ := by
  have h := hm.bd
  unfold fX1_sendBackOf_71 at hf
  refine h.run (o := [¬ 100 = 0]) (ls' := [none, none, none, some (.int x3), some (.int t0)]) (st' := [.int ((x3 * t0) / 100)]) (σ' := σ) [(.istore 4, 2, 0, 0, 0, 0), (.iload_n 3, 1, 0, 0, 0, 0), (.iload 4, 2, 0, 0, 0, 0), (.imul, 1, 0, 0, 0, 0), (.bipush 100, 2, 100, 0, 0, 0), (.idiv, 1, 0, 0, 0, 0)] (pc2 := 80) (by decide +kernel) rfl (And.intro (by decide) trivial) ?_
  cases hf
  exact hm.iret (by decide +kernel)
def fX1_sendBackOf_45 (t0 : Int32) (σ : ST) : Option (Int32 × ST) :=
  some (t0, σ)
set_option maxHeartbeats 4000000 in
theorem wX1_sendBackOf_45 {l : Launch} {V : Nat → List (Option Value) → List Value → ST → Prop} {r : Int32} {τ : ST} {σ : ST} {t0 : Int32} (hm : BM l 1 cX1_sendBackOf 5 (some .int) 1 20 (some (.int r)) τ V) (hf : fX1_sendBackOf_45 t0 σ = some (r, τ)) : V 45 [none, none, none, none, none] [.int t0] σ := by
  have h := hm.bd
  unfold fX1_sendBackOf_45 at hf
  cases hf
  exact hm.iret (by decide +kernel)
def fX1_sendBackOf (x1 : Int32) (x2 : Int32) (σ : ST) : Option (Int32 × ST) :=
  if (x1 * (σ.1 3 1)) = 0 then
    fX1_sendBackOf_19 σ
  else
    if (σ.1 3 8) ≤ (x1 * (σ.1 3 1)) then
      if (σ.1 3 6) = 1 then
        bI (fX1_draw σ) fun a2 σ2 =>
        if (σ2.1 3 7) ≤ a2 then
          fX1_sendBackOf_45 0 σ2
        else
          fX1_sendBackOf_45 (x1 * (σ.1 3 1)) σ2
      else
        if x2 = 0 then
          fX1_sendBackOf_71 (x1 * (σ.1 3 1)) (σ.1 3 7) σ
        else
          fX1_sendBackOf_71 (x1 * (σ.1 3 1)) (imin ((σ.1 3 7) + (σ.1 3 9)) 100) σ
    else
      fX1_sendBackOf_19 σ
set_option maxHeartbeats 4000000 in
theorem kmX1_sendBackOf (l : Launch) {x1 : Int32} {x2 : Int32} {σ : ST} {r : Int32} {τ : ST} (hf : fX1_sendBackOf x1 x2 σ = some (r, τ)) : KM l yX1_sendBackOf cX1_sendBackOf 5 (some .int) 1 20 [.ref 3, .int x1, .int x2] σ (some (.int r)) τ := by
  refine KM.intro (ow := 1) (by decide +kernel) rfl (Nat.le_of_ble_eq_true rfl) (fun V hm => ?_)
  show V 0 [some (.ref 3), some (.int x1), some (.int x2), none, none] [] σ
  have h := hm.bd
  unfold fX1_sendBackOf at hf
  refine h.run (o := [kd 3 = 1]) (ls' := [some (.ref 3), some (.int x1), some (.int x2), some (.int (x1 * (σ.1 3 1))), none]) (st' := [.int (x1 * (σ.1 3 1))]) (σ' := σ) [(.iload_n 1, 1, 0, 0, 0, 0), (.aload_n 0, 1, 0, 0, 0, 0), (.getfield 64, 3, 0, 0, 1, 1), (.imul, 1, 0, 0, 0, 0), (.istore_n 3, 1, 0, 0, 0, 0), (.iload_n 3, 1, 0, 0, 0, 0)] (pc2 := 8) (by decide +kernel) rfl (And.intro kd_3 trivial) ?_
  refine h.if_eq (tgt := 19) (show decode cX1_sendBackOf 8 = .ok (.ifCond .eq 11, 3) by decide +kernel) (by decide) (fun c6 => ?_) (fun c6 => ?_)
  · rw [if_pos c6] at hf
    refine h.drop (ls' := [none, none, none, none, none]) trivial ?_
    exact wX1_sendBackOf_19 hm hf
  · rw [if_neg c6] at hf
    show V 11 [some (.ref 3), some (.int x1), some (.int x2), some (.int (x1 * (σ.1 3 1))), none] [] σ
    refine h.run (o := [kd 3 = 1]) (ls' := [some (.ref 3), some (.int x1), some (.int x2), some (.int (x1 * (σ.1 3 1))), none]) (st' := [.int (σ.1 3 8), .int (x1 * (σ.1 3 1))]) (σ' := σ) [(.iload_n 3, 1, 0, 0, 0, 0), (.aload_n 0, 1, 0, 0, 0, 0), (.getfield 73, 3, 0, 0, 1, 8)] (pc2 := 16) (by decide +kernel) rfl (And.intro kd_3 trivial) ?_
    refine h.icmp_ge (tgt := 21) (show decode cX1_sendBackOf 16 = .ok (.if_icmp .ge 5, 3) by decide +kernel) (by decide) (fun c5 => ?_) (fun c5 => ?_)
    · rw [if_pos c5] at hf
      refine h.run (o := [kd 3 = 1]) (ls' := [some (.ref 3), some (.int x1), some (.int x2), some (.int (x1 * (σ.1 3 1))), none]) (st' := [.int 1, .int (σ.1 3 6)]) (σ' := σ) [(.aload_n 0, 1, 0, 0, 0, 0), (.getfield 61, 3, 0, 0, 1, 6), (.iconst 1, 1, 1, 0, 0, 0)] (pc2 := 26) (by decide +kernel) rfl (And.intro kd_3 trivial) ?_
      refine h.icmp_ne (tgt := 46) (show decode cX1_sendBackOf 26 = .ok (.if_icmp .ne 20, 3) by decide +kernel) (by decide) (fun c4 => ?_) (fun c4 => ?_)
      · rw [if_neg c4] at hf
        refine h.run (o := []) (ls' := [some (.ref 3), some (.int x1), some (.int x2), some (.int (x1 * (σ.1 3 1))), none]) (st' := [.int x2]) (σ' := σ) [(.iload_n 2, 1, 0, 0, 0, 0)] (pc2 := 47) (by decide +kernel) rfl trivial ?_
        refine h.if_eq (tgt := 67) (show decode cX1_sendBackOf 47 = .ok (.ifCond .eq 20, 3) by decide +kernel) (by decide) (fun c1 => ?_) (fun c1 => ?_)
        · rw [if_pos c1] at hf
          refine h.run (o := [kd 3 = 1]) (ls' := [some (.ref 3), some (.int x1), some (.int x2), some (.int (x1 * (σ.1 3 1))), none]) (st' := [.int (σ.1 3 7)]) (σ' := σ) [(.aload_n 0, 1, 0, 0, 0, 0), (.getfield 76, 3, 0, 0, 1, 7)] (pc2 := 71) (by decide +kernel) rfl (And.intro kd_3 trivial) ?_
          refine h.drop (ls' := [none, none, none, some (.int (x1 * (σ.1 3 1))), none]) (And.intro rfl trivial) ?_
          exact wX1_sendBackOf_71 hm hf
        · rw [if_neg c1] at hf
          show V 50 [some (.ref 3), some (.int x1), some (.int x2), some (.int (x1 * (σ.1 3 1))), none] [] σ
          refine h.run (o := [kd 3 = 1, kd 3 = 1]) (ls' := [some (.ref 3), some (.int x1), some (.int x2), some (.int (x1 * (σ.1 3 1))), none]) (st' := [.int 100, .int ((σ.1 3 7) + (σ.1 3 9))]) (σ' := σ) [(.aload_n 0, 1, 0, 0, 0, 0), (.getfield 76, 3, 0, 0, 1, 7), (.aload_n 0, 1, 0, 0, 0, 0), (.getfield 79, 3, 0, 0, 1, 9), (.iadd, 1, 0, 0, 0, 0), (.bipush 100, 2, 100, 0, 0, 0)] (pc2 := 61) (by decide +kernel) rfl (And.intro kd_3 (And.intro kd_3 trivial)) ?_
          refine h.nmin jw_l42 (by decide +kernel) (Nat.le_of_ble_eq_true rfl) (Nat.le_of_ble_eq_true rfl) ?_
          show V 64 [some (.ref 3), some (.int x1), some (.int x2), some (.int (x1 * (σ.1 3 1))), none] [.int (imin ((σ.1 3 7) + (σ.1 3 9)) 100)] σ
          refine h.run (o := []) (ls' := [some (.ref 3), some (.int x1), some (.int x2), some (.int (x1 * (σ.1 3 1))), none]) (st' := [.int (imin ((σ.1 3 7) + (σ.1 3 9)) 100)]) (σ' := σ) [(.goto 7, 3, 0, 0, 0, 71)] (pc2 := 71) (by decide +kernel) rfl trivial ?_
          refine h.drop (ls' := [none, none, none, some (.int (x1 * (σ.1 3 1))), none]) (And.intro rfl trivial) ?_
          exact wX1_sendBackOf_71 hm hf
      · rw [if_pos c4] at hf
        show V 29 [some (.ref 3), some (.int x1), some (.int x2), some (.int (x1 * (σ.1 3 1))), none] [] σ
        refine h.run (o := []) (ls' := [some (.ref 3), some (.int x1), some (.int x2), some (.int (x1 * (σ.1 3 1))), none]) (st' := [.ref 3]) (σ' := σ) [(.aload_n 0, 1, 0, 0, 0, 0)] (pc2 := 30) (by decide +kernel) rfl trivial ?_
        obtain ⟨a2, σ2, e2, hf⟩ := bI_some hf
        refine h.callV (as := []) (rest := []) (by decide +kernel) lk1_67 cwX1_draw kd_3 (kmX1_draw l e2) rfl (Nat.le_of_ble_eq_true rfl) (Nat.le_of_ble_eq_true rfl) (Nat.le_of_ble_eq_true rfl) ?_
        show V 33 [some (.ref 3), some (.int x1), some (.int x2), some (.int (x1 * (σ.1 3 1))), none] [.int a2] σ2
        refine h.run (o := [kd 3 = 1]) (ls' := [some (.ref 3), some (.int x1), some (.int x2), some (.int (x1 * (σ.1 3 1))), none]) (st' := [.int (σ2.1 3 7), .int a2]) (σ' := σ2) [(.aload_n 0, 1, 0, 0, 0, 0), (.getfield 76, 3, 0, 0, 1, 7)] (pc2 := 37) (by decide +kernel) rfl (And.intro kd_3 trivial) ?_
        refine h.icmp_ge (tgt := 44) (show decode cX1_sendBackOf 37 = .ok (.if_icmp .ge 7, 3) by decide +kernel) (by decide) (fun c3 => ?_) (fun c3 => ?_)
        · rw [if_pos c3] at hf
          refine h.run (o := []) (ls' := [some (.ref 3), some (.int x1), some (.int x2), some (.int (x1 * (σ.1 3 1))), none]) (st' := [.int 0]) (σ' := σ2) [(.iconst 0, 1, 0, 0, 0, 0)] (pc2 := 45) (by decide +kernel) rfl trivial ?_
          refine h.drop (ls' := [none, none, none, none, none]) trivial ?_
          exact wX1_sendBackOf_45 hm hf
        · rw [if_neg c3] at hf
          show V 40 [some (.ref 3), some (.int x1), some (.int x2), some (.int (x1 * (σ.1 3 1))), none] [] σ2
          refine h.run (o := []) (ls' := [some (.ref 3), some (.int x1), some (.int x2), some (.int (x1 * (σ.1 3 1))), none]) (st' := [.int (x1 * (σ.1 3 1))]) (σ' := σ2) [(.iload_n 3, 1, 0, 0, 0, 0), (.goto 4, 3, 0, 0, 0, 45)] (pc2 := 45) (by decide +kernel) rfl trivial ?_
          refine h.drop (ls' := [none, none, none, none, none]) trivial ?_
          exact wX1_sendBackOf_45 hm hf
    · rw [if_neg c5] at hf
      show V 19 [some (.ref 3), some (.int x1), some (.int x2), some (.int (x1 * (σ.1 3 1))), none] [] σ
      refine h.drop (ls' := [none, none, none, none, none]) trivial ?_
      exact wX1_sendBackOf_19 hm hf
def fX1_play (x1 : Int32) (σ : ST) : Option ST :=
  bI (fX1_sendNow σ) fun a1 σ1 =>
  bI (fX1_sendBackOf ((setI (setI σ1 3 14 a1) 3 15 (((setI σ1 3 14 a1).1 3 14) * ((setI σ1 3 14 a1).1 3 1))).1 3 14) x1 (setI (setI σ1 3 14 a1) 3 15 (((setI σ1 3 14 a1).1 3 14) * ((setI σ1 3 14 a1).1 3 1)))) fun a2 σ2 =>
  some (setI (setI (setI σ2 3 13 a2) 3 11 (((setI σ2 3 13 a2).1 3 11) + ((setI σ2 3 13 a2).1 3 15))) 3 12 (((setI (setI σ2 3 13 a2) 3 11 (((setI σ2 3 13 a2).1 3 11) + ((setI σ2 3 13 a2).1 3 15))).1 3 12) + ((setI (setI σ2 3 13 a2) 3 11 (((setI σ2 3 13 a2).1 3 11) + ((setI σ2 3 13 a2).1 3 15))).1 3 13)))
set_option maxHeartbeats 4000000 in
theorem kmX1_play (l : Launch) {x1 : Int32} {σ : ST} {τ : ST} (hf : fX1_play x1 σ = some τ) : KM l yX1_play cX1_play 2 none 3 60 [.ref 3, .int x1] σ none τ := by
  refine KM.intro (ow := 1) (by decide +kernel) rfl (Nat.le_of_ble_eq_true rfl) (fun V hm => ?_)
  show V 0 [some (.ref 3), some (.int x1)] [] σ
  have h := hm.bd
  unfold fX1_play at hf
  refine h.run (o := []) (ls' := [some (.ref 3), some (.int x1)]) (st' := [.ref 3, .ref 3]) (σ' := σ) [(.aload_n 0, 1, 0, 0, 0, 0), (.aload_n 0, 1, 0, 0, 0, 0)] (pc2 := 2) (by decide +kernel) rfl trivial ?_
  obtain ⟨a1, σ1, e1, hf⟩ := bI_some hf
  refine h.callV (as := []) (rest := [.ref 3]) (by decide +kernel) lk1_70 cwX1_sendNow kd_3 (kmX1_sendNow l e1) rfl (Nat.le_of_ble_eq_true rfl) (Nat.le_of_ble_eq_true rfl) (Nat.le_of_ble_eq_true rfl) ?_
  show V 5 [some (.ref 3), some (.int x1)] [.int a1, .ref 3] σ1
  refine h.run (o := [kd 3 = 1, kd 3 = 1, kd 3 = 1, kd 3 = 1, kd 3 = 1]) (ls' := [some (.ref 3), some (.int x1)]) (st' := [.int x1, .int ((setI (setI σ1 3 14 a1) 3 15 (((setI σ1 3 14 a1).1 3 14) * ((setI σ1 3 14 a1).1 3 1))).1 3 14), .ref 3, .ref 3]) (σ' := setI (setI σ1 3 14 a1) 3 15 (((setI σ1 3 14 a1).1 3 14) * ((setI σ1 3 14 a1).1 3 1))) [(.putfield 82, 3, 0, 0, 1, 14), (.aload_n 0, 1, 0, 0, 0, 0), (.aload_n 0, 1, 0, 0, 0, 0), (.getfield 82, 3, 0, 0, 1, 14), (.aload_n 0, 1, 0, 0, 0, 0), (.getfield 64, 3, 0, 0, 1, 1), (.imul, 1, 0, 0, 0, 0), (.putfield 85, 3, 0, 0, 1, 15), (.aload_n 0, 1, 0, 0, 0, 0), (.aload_n 0, 1, 0, 0, 0, 0), (.aload_n 0, 1, 0, 0, 0, 0), (.getfield 82, 3, 0, 0, 1, 14), (.iload_n 1, 1, 0, 0, 0, 0)] (pc2 := 28) (by decide +kernel) rfl (And.intro kd_3 (And.intro kd_3 (And.intro kd_3 (And.intro kd_3 (And.intro kd_3 trivial))))) ?_
  obtain ⟨a2, σ2, e2, hf⟩ := bI_some hf
  refine h.callV (as := [.int ((setI (setI σ1 3 14 a1) 3 15 (((setI σ1 3 14 a1).1 3 14) * ((setI σ1 3 14 a1).1 3 1))).1 3 14), .int x1]) (rest := [.ref 3]) (by decide +kernel) lk1_88 cwX1_sendBackOf kd_3 (kmX1_sendBackOf l e2) rfl (Nat.le_of_ble_eq_true rfl) (Nat.le_of_ble_eq_true rfl) (Nat.le_of_ble_eq_true rfl) ?_
  show V 31 [some (.ref 3), some (.int x1)] [.int a2, .ref 3] σ2
  refine h.run (o := [kd 3 = 1, kd 3 = 1, kd 3 = 1, kd 3 = 1, kd 3 = 1, kd 3 = 1, kd 3 = 1]) (ls' := [some (.ref 3), some (.int x1)]) (st' := []) (σ' := setI (setI (setI σ2 3 13 a2) 3 11 (((setI σ2 3 13 a2).1 3 11) + ((setI σ2 3 13 a2).1 3 15))) 3 12 (((setI (setI σ2 3 13 a2) 3 11 (((setI σ2 3 13 a2).1 3 11) + ((setI σ2 3 13 a2).1 3 15))).1 3 12) + ((setI (setI σ2 3 13 a2) 3 11 (((setI σ2 3 13 a2).1 3 11) + ((setI σ2 3 13 a2).1 3 15))).1 3 13))) [(.putfield 48, 3, 0, 0, 1, 13), (.aload_n 0, 1, 0, 0, 0, 0), (.dup, 1, 0, 0, 0, 0), (.getfield 9, 3, 0, 0, 1, 11), (.aload_n 0, 1, 0, 0, 0, 0), (.getfield 85, 3, 0, 0, 1, 15), (.iadd, 1, 0, 0, 0, 0), (.putfield 9, 3, 0, 0, 1, 11), (.aload_n 0, 1, 0, 0, 0, 0), (.dup, 1, 0, 0, 0, 0), (.getfield 15, 3, 0, 0, 1, 12), (.aload_n 0, 1, 0, 0, 0, 0), (.getfield 48, 3, 0, 0, 1, 13), (.iadd, 1, 0, 0, 0, 0), (.putfield 15, 3, 0, 0, 1, 12)] (pc2 := 60) (by decide +kernel) rfl (And.intro kd_3 (And.intro kd_3 (And.intro kd_3 (And.intro kd_3 (And.intro kd_3 (And.intro kd_3 (And.intro kd_3 trivial))))))) ?_
  cases hf
  exact hm.vret (by decide +kernel)
def fX1_keptOver_4 (n : Nat) (x1 : Int32) (x2 : Int32) (x3 : Int32) (σ : ST) : Option (Int32 × ST) := match n with
  | 0 => none
  | n + 1 =>
    if x1 ≤ x3 then
      some (x2, σ)
    else
      bR (fX1_play 0 σ) fun σ1 =>
      fX1_keptOver_4 n x1 (x2 + ((σ1.1 3 15) - (σ1.1 3 13))) (x3 + 1) σ1
set_option maxHeartbeats 4000000 in
theorem wX1_keptOver_4 {l : Launch} {V : Nat → List (Option Value) → List Value → ST → Prop} {r : Int32} {τ : ST} (hm : BM l 1 cX1_keptOver 4 (some .int) 4 81 (some (.int r)) τ V) : ∀ (n : Nat) (x1 : Int32) (x2 : Int32) (x3 : Int32) (σ : ST), fX1_keptOver_4 n x1 x2 x3 σ = some (r, τ) → V 4 [some (.ref 3), some (.int x1), some (.int x2), some (.int x3)] [] σ := by
  have h := hm.bd
  intro n
  induction n with
  | zero => intro x1 x2 x3 σ hf; cases hf
  | succ n ih =>
    intro x1 x2 x3 σ hf
    rw [fX1_keptOver_4] at hf
    refine h.run (o := []) (ls' := [some (.ref 3), some (.int x1), some (.int x2), some (.int x3)]) (st' := [.int x1, .int x3]) (σ' := σ) [(.iload_n 3, 1, 0, 0, 0, 0), (.iload_n 1, 1, 0, 0, 0, 0)] (pc2 := 6) (by decide +kernel) rfl trivial ?_
    refine h.icmp_ge (tgt := 32) (show decode cX1_keptOver 6 = .ok (.if_icmp .ge 26, 3) by decide +kernel) (by decide) (fun c2 => ?_) (fun c2 => ?_)
    · rw [if_pos c2] at hf
      refine h.run (o := []) (ls' := [some (.ref 3), some (.int x1), some (.int x2), some (.int x3)]) (st' := [.int x2]) (σ' := σ) [(.iload_n 2, 1, 0, 0, 0, 0)] (pc2 := 33) (by decide +kernel) rfl trivial ?_
      cases hf
      exact hm.iret (by decide +kernel)
    · rw [if_neg c2] at hf
      show V 9 [some (.ref 3), some (.int x1), some (.int x2), some (.int x3)] [] σ
      refine h.run (o := []) (ls' := [some (.ref 3), some (.int x1), some (.int x2), some (.int x3)]) (st' := [.int 0, .ref 3]) (σ' := σ) [(.aload_n 0, 1, 0, 0, 0, 0), (.iconst 0, 1, 0, 0, 0, 0)] (pc2 := 11) (by decide +kernel) rfl trivial ?_
      obtain ⟨σ1, e1, hf⟩ := bR_some hf
      refine h.callV (as := [.int 0]) (rest := []) (by decide +kernel) lk1_92 cwX1_play kd_3 (kmX1_play l e1) rfl (Nat.le_of_ble_eq_true rfl) (Nat.le_of_ble_eq_true rfl) (Nat.le_of_ble_eq_true rfl) ?_
      show V 14 [some (.ref 3), some (.int x1), some (.int x2), some (.int x3)] [] σ1
      refine h.run (o := [kd 3 = 1, kd 3 = 1]) (ls' := [some (.ref 3), some (.int x1), some (.int (x2 + ((σ1.1 3 15) - (σ1.1 3 13)))), some (.int (x3 + 1))]) (st' := []) (σ' := σ1) [(.iload_n 2, 1, 0, 0, 0, 0), (.aload_n 0, 1, 0, 0, 0, 0), (.getfield 85, 3, 0, 0, 1, 15), (.aload_n 0, 1, 0, 0, 0, 0), (.getfield 48, 3, 0, 0, 1, 13), (.isub, 1, 0, 0, 0, 0), (.iadd, 1, 0, 0, 0, 0), (.istore_n 2, 1, 0, 0, 0, 0), (.iinc 3 1, 3, 1, 0, 0, 0), (.goto (-25), 3, 0, 0, 0, 4)] (pc2 := 4) (by decide +kernel) rfl (And.intro kd_3 (And.intro kd_3 trivial)) ?_
      exact ih x1 (x2 + ((σ1.1 3 15) - (σ1.1 3 13))) (x3 + 1) _ hf
def fX1_keptOver (x1 : Int32) (σ : ST) : Option (Int32 × ST) :=
  fX1_keptOver_4 FU x1 0 0 σ
set_option maxHeartbeats 4000000 in
theorem kmX1_keptOver (l : Launch) {x1 : Int32} {σ : ST} {r : Int32} {τ : ST} (hf : fX1_keptOver x1 σ = some (r, τ)) : KM l yX1_keptOver cX1_keptOver 4 (some .int) 4 81 [.ref 3, .int x1] σ (some (.int r)) τ := by
  refine KM.intro (ow := 1) (by decide +kernel) rfl (Nat.le_of_ble_eq_true rfl) (fun V hm => ?_)
  show V 0 [some (.ref 3), some (.int x1), none, none] [] σ
  have h := hm.bd
  unfold fX1_keptOver at hf
  refine h.run (o := []) (ls' := [some (.ref 3), some (.int x1), some (.int 0), some (.int 0)]) (st' := []) (σ' := σ) [(.iconst 0, 1, 0, 0, 0, 0), (.istore_n 2, 1, 0, 0, 0, 0), (.iconst 0, 1, 0, 0, 0, 0), (.istore_n 3, 1, 0, 0, 0, 0)] (pc2 := 4) (by decide +kernel) rfl trivial ?_
  exact wX1_keptOver_4 hm FU x1 0 0 _ hf
def fX1_senderHasBy_55 (t0 : Int32) (t1 : Int32) (σ : ST) : Option (Int32 × ST) :=
  some (t0 + t1, σ)
set_option maxHeartbeats 4000000 in
theorem wX1_senderHasBy_55 {l : Launch} {V : Nat → List (Option Value) → List Value → ST → Prop} {r : Int32} {τ : ST} {σ : ST} {t0 : Int32} {t1 : Int32} (hm : BM l 1 cX1_senderHasBy 3 (some .int) 2 44 (some (.int r)) τ V) (hf : fX1_senderHasBy_55 t0 t1 σ = some (r, τ)) : V 55 [none, none, none] [.int t1, .int t0] σ := by
  have h := hm.bd
  unfold fX1_senderHasBy_55 at hf
  refine h.run (o := []) (ls' := [none, none, none]) (st' := [.int (t0 + t1)]) (σ' := σ) [(.iadd, 1, 0, 0, 0, 0)] (pc2 := 56) (by decide +kernel) rfl trivial ?_
  cases hf
  exact hm.iret (by decide +kernel)
def fX1_senderHasBy (x1 : Int32) (σ : ST) : Option (Int32 × ST) :=
  if (σ.1 3 6) = 0 then
    bI (fX1_sendBackOf x1 0 σ) fun a2 σ2 =>
    some (((σ.1 3 0) - x1) + a2, σ2)
  else
    if (σ.1 3 8) ≤ (x1 * (σ.1 3 1)) then
      fX1_senderHasBy_55 (100 * ((σ.1 3 0) - x1)) ((σ.1 3 7) * (x1 * (σ.1 3 1))) σ
    else
      fX1_senderHasBy_55 (100 * ((σ.1 3 0) - x1)) 0 σ
set_option maxHeartbeats 4000000 in
theorem kmX1_senderHasBy (l : Launch) {x1 : Int32} {σ : ST} {r : Int32} {τ : ST} (hf : fX1_senderHasBy x1 σ = some (r, τ)) : KM l yX1_senderHasBy cX1_senderHasBy 3 (some .int) 2 44 [.ref 3, .int x1] σ (some (.int r)) τ := by
  refine KM.intro (ow := 1) (by decide +kernel) rfl (Nat.le_of_ble_eq_true rfl) (fun V hm => ?_)
  show V 0 [some (.ref 3), some (.int x1), none] [] σ
  have h := hm.bd
  unfold fX1_senderHasBy at hf
  refine h.run (o := [kd 3 = 1]) (ls' := [some (.ref 3), some (.int x1), none]) (st' := [.int (σ.1 3 6)]) (σ' := σ) [(.aload_n 0, 1, 0, 0, 0, 0), (.getfield 61, 3, 0, 0, 1, 6)] (pc2 := 4) (by decide +kernel) rfl (And.intro kd_3 trivial) ?_
  refine h.if_ne (tgt := 21) (show decode cX1_senderHasBy 4 = .ok (.ifCond .ne 17, 3) by decide +kernel) (by decide) (fun c3 => ?_) (fun c3 => ?_)
  · rw [if_neg c3] at hf
    refine h.run (o := [kd 3 = 1, kd 3 = 1, kd 3 = 1]) (ls' := [some (.ref 3), some (.int x1), some (.int (x1 * (σ.1 3 1)))]) (st' := [.int (σ.1 3 8), .int (x1 * (σ.1 3 1)), .int (100 * ((σ.1 3 0) - x1))]) (σ' := σ) [(.iload_n 1, 1, 0, 0, 0, 0), (.aload_n 0, 1, 0, 0, 0, 0), (.getfield 64, 3, 0, 0, 1, 1), (.imul, 1, 0, 0, 0, 0), (.istore_n 2, 1, 0, 0, 0, 0), (.bipush 100, 2, 100, 0, 0, 0), (.aload_n 0, 1, 0, 0, 0, 0), (.getfield 39, 3, 0, 0, 1, 0), (.iload_n 1, 1, 0, 0, 0, 0), (.isub, 1, 0, 0, 0, 0), (.imul, 1, 0, 0, 0, 0), (.iload_n 2, 1, 0, 0, 0, 0), (.aload_n 0, 1, 0, 0, 0, 0), (.getfield 73, 3, 0, 0, 1, 8)] (pc2 := 42) (by decide +kernel) rfl (And.intro kd_3 (And.intro kd_3 (And.intro kd_3 trivial))) ?_
    refine h.icmp_ge (tgt := 49) (show decode cX1_senderHasBy 42 = .ok (.if_icmp .ge 7, 3) by decide +kernel) (by decide) (fun c1 => ?_) (fun c1 => ?_)
    · rw [if_pos c1] at hf
      refine h.run (o := [kd 3 = 1]) (ls' := [some (.ref 3), some (.int x1), some (.int (x1 * (σ.1 3 1)))]) (st' := [.int ((σ.1 3 7) * (x1 * (σ.1 3 1))), .int (100 * ((σ.1 3 0) - x1))]) (σ' := σ) [(.aload_n 0, 1, 0, 0, 0, 0), (.getfield 76, 3, 0, 0, 1, 7), (.iload_n 2, 1, 0, 0, 0, 0), (.imul, 1, 0, 0, 0, 0)] (pc2 := 55) (by decide +kernel) rfl (And.intro kd_3 trivial) ?_
      refine h.drop (ls' := [none, none, none]) trivial ?_
      exact wX1_senderHasBy_55 hm hf
    · rw [if_neg c1] at hf
      show V 45 [some (.ref 3), some (.int x1), some (.int (x1 * (σ.1 3 1)))] [.int (100 * ((σ.1 3 0) - x1))] σ
      refine h.run (o := []) (ls' := [some (.ref 3), some (.int x1), some (.int (x1 * (σ.1 3 1)))]) (st' := [.int 0, .int (100 * ((σ.1 3 0) - x1))]) (σ' := σ) [(.iconst 0, 1, 0, 0, 0, 0), (.goto 9, 3, 0, 0, 0, 55)] (pc2 := 55) (by decide +kernel) rfl trivial ?_
      refine h.drop (ls' := [none, none, none]) trivial ?_
      exact wX1_senderHasBy_55 hm hf
  · rw [if_pos c3] at hf
    show V 7 [some (.ref 3), some (.int x1), none] [] σ
    refine h.run (o := [kd 3 = 1]) (ls' := [some (.ref 3), some (.int x1), none]) (st' := [.int 0, .int x1, .ref 3, .int ((σ.1 3 0) - x1)]) (σ' := σ) [(.aload_n 0, 1, 0, 0, 0, 0), (.getfield 39, 3, 0, 0, 1, 0), (.iload_n 1, 1, 0, 0, 0, 0), (.isub, 1, 0, 0, 0, 0), (.aload_n 0, 1, 0, 0, 0, 0), (.iload_n 1, 1, 0, 0, 0, 0), (.iconst 0, 1, 0, 0, 0, 0)] (pc2 := 16) (by decide +kernel) rfl (And.intro kd_3 trivial) ?_
    obtain ⟨a2, σ2, e2, hf⟩ := bI_some hf
    refine h.callV (as := [.int x1, .int 0]) (rest := [.int ((σ.1 3 0) - x1)]) (by decide +kernel) lk1_88 cwX1_sendBackOf kd_3 (kmX1_sendBackOf l e2) rfl (Nat.le_of_ble_eq_true rfl) (Nat.le_of_ble_eq_true rfl) (Nat.le_of_ble_eq_true rfl) ?_
    show V 19 [some (.ref 3), some (.int x1), none] [.int a2, .int ((σ.1 3 0) - x1)] σ2
    refine h.run (o := []) (ls' := [some (.ref 3), some (.int x1), none]) (st' := [.int (((σ.1 3 0) - x1) + a2)]) (σ' := σ2) [(.iadd, 1, 0, 0, 0, 0)] (pc2 := 20) (by decide +kernel) rfl trivial ?_
    cases hf
    exact hm.iret (by decide +kernel)
def fX1_faceOneWhoKeepsAll (σ : ST) : Option ST :=
  some (setI (setI (setI (setI (setI σ 3 6 0) 3 10 0) 3 11 1) 3 12 0) 3 13 (-1))
set_option maxHeartbeats 4000000 in
theorem kmX1_faceOneWhoKeepsAll (l : Launch) {σ : ST} {τ : ST} (hf : fX1_faceOneWhoKeepsAll σ = some τ) : KM l yX1_faceOneWhoKeepsAll cX1_faceOneWhoKeepsAll 1 none 0 0 [.ref 3] σ none τ := by
  refine KM.intro (ow := 1) (by decide +kernel) rfl (Nat.le_of_ble_eq_true rfl) (fun V hm => ?_)
  show V 0 [some (.ref 3)] [] σ
  have h := hm.bd
  unfold fX1_faceOneWhoKeepsAll at hf
  refine h.run (o := [kd 3 = 1, kd 3 = 1, kd 3 = 1, kd 3 = 1, kd 3 = 1]) (ls' := [some (.ref 3)]) (st' := []) (σ' := setI (setI (setI (setI (setI σ 3 6 0) 3 10 0) 3 11 1) 3 12 0) 3 13 (-1)) [(.aload_n 0, 1, 0, 0, 0, 0), (.iconst 0, 1, 0, 0, 0, 0), (.putfield 61, 3, 0, 0, 1, 6), (.aload_n 0, 1, 0, 0, 0, 0), (.iconst 0, 1, 0, 0, 0, 0), (.putfield 58, 3, 0, 0, 1, 10), (.aload_n 0, 1, 0, 0, 0, 0), (.iconst 1, 1, 1, 0, 0, 0), (.putfield 9, 3, 0, 0, 1, 11), (.aload_n 0, 1, 0, 0, 0, 0), (.iconst 0, 1, 0, 0, 0, 0), (.putfield 15, 3, 0, 0, 1, 12), (.aload_n 0, 1, 0, 0, 0, 0), (.iconst (-1), 1, (-1), 0, 0, 0), (.putfield 48, 3, 0, 0, 1, 13)] (pc2 := 25) (by decide +kernel) rfl (And.intro kd_3 (And.intro kd_3 (And.intro kd_3 (And.intro kd_3 (And.intro kd_3 trivial))))) ?_
  cases hf
  exact hm.vret (by decide +kernel)
end
section
/-! Printed by wip/whole/prt.py: functions and walks. -/
def fX0_become (k0 : Nat) (k1 : Nat) (σ : ST) : Option ST :=
  bR (fX4_become (6 * k0) (6 * k1) (setI (setI (setI σ k0 0 (σ.1 k1 0)) k0 1 ((setI σ k0 0 (σ.1 k1 0)).1 k1 1)) k0 2 ((setI (setI σ k0 0 (σ.1 k1 0)) k0 1 ((setI σ k0 0 (σ.1 k1 0)).1 k1 1)).1 k1 2))) fun σ1 =>
  bR (fX4_become (6 * k0 + 2) (6 * k1 + 2) σ1) fun σ2 =>
  bR (fX4_become (6 * k0 + 4) (6 * k1 + 4) σ2) fun σ3 =>
  some σ3
set_option maxHeartbeats 4000000 in
theorem kmX0_become (l : Launch) {k0 : Nat} {k1 : Nat} {σ : ST} {τ : ST} (hk0 : kd k0 = 0) (hk1 : kd k1 = 0) (hf : fX0_become k0 k1 σ = some τ) : KM l yX0_become cX0_become 2 none 2 61 [.ref k0, .ref k1] σ none τ := by
  refine KM.intro (ow := 0) (by decide +kernel) rfl (Nat.le_of_ble_eq_true rfl) (fun V hm => ?_)
  show V 0 [some (.ref k0), some (.ref k1)] [] σ
  have h := hm.bd
  unfold fX0_become at hf
  refine h.run (o := [kd k1 = 0, kd k0 = 0, kd k1 = 0, kd k0 = 0, kd k1 = 0, kd k0 = 0, kd k0 = 0, kd k1 = 0]) (ls' := [some (.ref k0), some (.ref k1)]) (st' := [.ref (6 * k1), .ref (6 * k0)]) (σ' := setI (setI (setI σ k0 0 (σ.1 k1 0)) k0 1 ((setI σ k0 0 (σ.1 k1 0)).1 k1 1)) k0 2 ((setI (setI σ k0 0 (σ.1 k1 0)) k0 1 ((setI σ k0 0 (σ.1 k1 0)).1 k1 1)).1 k1 2)) [(.aload_n 0, 1, 0, 0, 0, 0), (.aload_n 1, 1, 0, 0, 0, 0), (.getfield 9, 3, 0, 0, 0, 0), (.putfield 9, 3, 0, 0, 0, 0), (.aload_n 0, 1, 0, 0, 0, 0), (.aload_n 1, 1, 0, 0, 0, 0), (.getfield 15, 3, 0, 0, 0, 1), (.putfield 15, 3, 0, 0, 0, 1), (.aload_n 0, 1, 0, 0, 0, 0), (.aload_n 1, 1, 0, 0, 0, 0), (.getfield 18, 3, 0, 0, 0, 2), (.putfield 18, 3, 0, 0, 0, 2), (.aload_n 0, 1, 0, 0, 0, 0), (.getfield 26, 3, 0, 0, 0, 3), (.aload_n 1, 1, 0, 0, 0, 0), (.getfield 26, 3, 0, 0, 0, 3)] (pc2 := 32) (by decide +kernel) rfl (And.intro hk1 (And.intro hk0 (And.intro hk1 (And.intro hk0 (And.intro hk1 (And.intro hk0 (And.intro hk0 (And.intro hk1 trivial)))))))) ?_
  obtain ⟨σ1, e1, hf⟩ := bR_some hf
  refine h.callV (as := [.ref (6 * k1)]) (rest := []) (by decide +kernel) lk0_36 cwX4_become (kd_G hk0).1 (kmX4_become l (kd_G hk0).1 (kd_G hk1).1 e1) rfl (Nat.le_of_ble_eq_true rfl) (Nat.le_of_ble_eq_true rfl) (Nat.le_of_ble_eq_true rfl) ?_
  show V 35 [some (.ref k0), some (.ref k1)] [] σ1
  refine h.run (o := [kd k0 = 0, kd k1 = 0]) (ls' := [some (.ref k0), some (.ref k1)]) (st' := [.ref (6 * k1 + 2), .ref (6 * k0 + 2)]) (σ' := σ1) [(.aload_n 0, 1, 0, 0, 0, 0), (.getfield 30, 3, 0, 0, 0, 4), (.aload_n 1, 1, 0, 0, 0, 0), (.getfield 30, 3, 0, 0, 0, 4)] (pc2 := 43) (by decide +kernel) rfl (And.intro hk0 (And.intro hk1 trivial)) ?_
  obtain ⟨σ2, e2, hf⟩ := bR_some hf
  refine h.callV (as := [.ref (6 * k1 + 2)]) (rest := []) (by decide +kernel) lk0_36 cwX4_become (kd_G hk0).2.1 (kmX4_become l (kd_G hk0).2.1 (kd_G hk1).2.1 e2) rfl (Nat.le_of_ble_eq_true rfl) (Nat.le_of_ble_eq_true rfl) (Nat.le_of_ble_eq_true rfl) ?_
  show V 46 [some (.ref k0), some (.ref k1)] [] σ2
  refine h.run (o := [kd k0 = 0, kd k1 = 0]) (ls' := [some (.ref k0), some (.ref k1)]) (st' := [.ref (6 * k1 + 4), .ref (6 * k0 + 4)]) (σ' := σ2) [(.aload_n 0, 1, 0, 0, 0, 0), (.getfield 33, 3, 0, 0, 0, 5), (.aload_n 1, 1, 0, 0, 0, 0), (.getfield 33, 3, 0, 0, 0, 5)] (pc2 := 54) (by decide +kernel) rfl (And.intro hk0 (And.intro hk1 trivial)) ?_
  obtain ⟨σ3, e3, hf⟩ := bR_some hf
  refine h.callV (as := [.ref (6 * k1 + 4)]) (rest := []) (by decide +kernel) lk0_36 cwX4_become (kd_G hk0).2.2 (kmX4_become l (kd_G hk0).2.2 (kd_G hk1).2.2 e3) rfl (Nat.le_of_ble_eq_true rfl) (Nat.le_of_ble_eq_true rfl) (Nat.le_of_ble_eq_true rfl) ?_
  show V 57 [some (.ref k0), some (.ref k1)] [] σ3
  cases hf
  exact hm.vret (by decide +kernel)
end
section
/-! Printed by wip/whole/prt.py: functions and walks. -/
def fX2_digitOf_20 (t0 : Int32) (σ : ST) : Option Int32 :=
  some t0
set_option maxHeartbeats 4000000 in
theorem wX2_digitOf_20 {l : Launch} {V : Nat → List (Option Value) → List Value → ST → Prop} {r : Int32} {σ : ST} {t0 : Int32} (hm : BM l 2 cX2_digitOf 1 (some .int) 0 0 (some (.int r)) σ V) (hf : fX2_digitOf_20 t0 σ = some r) : V 20 [none] [.int t0] σ := by
  have h := hm.bd
  unfold fX2_digitOf_20 at hf
  cases hf
  exact hm.iret (by decide +kernel)
def fX2_digitOf_19 (σ : ST) : Option Int32 :=
  fX2_digitOf_20 (-1) σ
set_option maxHeartbeats 4000000 in
theorem wX2_digitOf_19 {l : Launch} {V : Nat → List (Option Value) → List Value → ST → Prop} {r : Int32} {σ : ST} (hm : BM l 2 cX2_digitOf 1 (some .int) 0 0 (some (.int r)) σ V) (hf : fX2_digitOf_19 σ = some r) : V 19 [none] [] σ := by
  have h := hm.bd
  unfold fX2_digitOf_19 at hf
  refine h.run (o := []) (ls' := [none]) (st' := [.int (-1)]) (σ' := σ) [(.iconst (-1), 1, (-1), 0, 0, 0)] (pc2 := 20) (by decide +kernel) rfl trivial ?_
  exact wX2_digitOf_20 hm hf
def fX2_digitOf (x0 : Int32) (σ : ST) : Option Int32 :=
  if x0 < 48 then
    fX2_digitOf_19 σ
  else
    if 57 < x0 then
      fX2_digitOf_19 σ
    else
      fX2_digitOf_20 (x0 - 48) σ
set_option maxHeartbeats 4000000 in
theorem kmX2_digitOf (l : Launch) {x0 : Int32} {σ : ST} {r : Int32} (hf : fX2_digitOf x0 σ = some r) : KM l yX2_digitOf cX2_digitOf 1 (some .int) 0 0 [.int x0] σ (some (.int r)) σ := by
  refine KM.intro (ow := 2) (by decide +kernel) rfl (Nat.le_of_ble_eq_true rfl) (fun V hm => ?_)
  show V 0 [some (.int x0)] [] σ
  have h := hm.bd
  unfold fX2_digitOf at hf
  refine h.run (o := []) (ls' := [some (.int x0)]) (st' := [.int 48, .int x0]) (σ' := σ) [(.iload_n 0, 1, 0, 0, 0, 0), (.bipush 48, 2, 48, 0, 0, 0)] (pc2 := 3) (by decide +kernel) rfl trivial ?_
  refine h.icmp_lt (tgt := 19) (show decode cX2_digitOf 3 = .ok (.if_icmp .lt 16, 3) by decide +kernel) (by decide) (fun c2 => ?_) (fun c2 => ?_)
  · rw [if_pos c2] at hf
    refine h.drop (ls' := [none]) trivial ?_
    exact wX2_digitOf_19 hm hf
  · rw [if_neg c2] at hf
    show V 6 [some (.int x0)] [] σ
    refine h.run (o := []) (ls' := [some (.int x0)]) (st' := [.int 57, .int x0]) (σ' := σ) [(.iload_n 0, 1, 0, 0, 0, 0), (.bipush 57, 2, 57, 0, 0, 0)] (pc2 := 9) (by decide +kernel) rfl trivial ?_
    refine h.icmp_gt (tgt := 19) (show decode cX2_digitOf 9 = .ok (.if_icmp .gt 10, 3) by decide +kernel) (by decide) (fun c1 => ?_) (fun c1 => ?_)
    · rw [if_pos c1] at hf
      refine h.drop (ls' := [none]) trivial ?_
      exact wX2_digitOf_19 hm hf
    · rw [if_neg c1] at hf
      show V 12 [some (.int x0)] [] σ
      refine h.run (o := []) (ls' := [some (.int x0)]) (st' := [.int (x0 - 48)]) (σ' := σ) [(.iload_n 0, 1, 0, 0, 0, 0), (.bipush 48, 2, 48, 0, 0, 0), (.isub, 1, 0, 0, 0, 0), (.goto 4, 3, 0, 0, 0, 20)] (pc2 := 20) (by decide +kernel) rfl trivial ?_
      refine h.drop (ls' := [none]) trivial ?_
      exact wX2_digitOf_20 hm hf
def fX2_takesNumber_92 (t0 : Int32) (σ : ST) : Option (Int32 × ST) :=
  gd (isb t0) <|
  some (t0, σ)
set_option maxHeartbeats 4000000 in
theorem wX2_takesNumber_92 {l : Launch} {V : Nat → List (Option Value) → List Value → ST → Prop} {r : Int32} {τ : ST} {σ : ST} {t0 : Int32} (hm : BM l 2 cX2_takesNumber 6 (some .boolean) 2 47 (some (.int r)) τ V) (hf : fX2_takesNumber_92 t0 σ = some (r, τ)) : V 92 [none, none, none, none, none, none] [.int t0] σ := by
  have h := hm.bd
  unfold fX2_takesNumber_92 at hf
  obtain ⟨g1, hf⟩ := gd_some hf
  cases hf
  exact hm.zret (by decide +kernel) g1
def fX2_takesNumber_71 (x2 : Int32) (x3 : Int32) (x4 : Int32) (x5 : Int32) (σ : ST) : Option (Int32 × ST) :=
  bR (fX4_write 18 x2 x3 x4 σ) fun σ1 =>
  if x5 ≤ 0 then
    fX2_takesNumber_92 0 σ1
  else
    fX2_takesNumber_92 1 σ1
set_option maxHeartbeats 4000000 in
theorem wX2_takesNumber_71 {l : Launch} {V : Nat → List (Option Value) → List Value → ST → Prop} {r : Int32} {τ : ST} {σ : ST} {x2 : Int32} {x3 : Int32} {x4 : Int32} {x5 : Int32} (hm : BM l 2 cX2_takesNumber 6 (some .boolean) 2 47 (some (.int r)) τ V) (hf : fX2_takesNumber_71 x2 x3 x4 x5 σ = some (r, τ)) : V 71 [some (.ref 4), none, some (.int x2), some (.int x3), some (.int x4), some (.int x5)] [] σ := by
  have h := hm.bd
  unfold fX2_takesNumber_71 at hf
  refine h.run (o := [kd 4 = 2]) (ls' := [some (.ref 4), none, some (.int x2), some (.int x3), some (.int x4), some (.int x5)]) (st' := [.int x4, .int x3, .int x2, .ref 18]) (σ' := σ) [(.aload_n 0, 1, 0, 0, 0, 0), (.getfield 14, 3, 0, 0, 2, 0), (.iload_n 2, 1, 0, 0, 0, 0), (.iload_n 3, 1, 0, 0, 0, 0), (.iload 4, 2, 0, 0, 0, 0)] (pc2 := 79) (by decide +kernel) rfl (And.intro kd_4 trivial) ?_
  obtain ⟨σ1, e1, hf⟩ := bR_some hf
  refine h.callV (as := [.int x2, .int x3, .int x4]) (rest := []) (by decide +kernel) lk2_42 cwX4_write kd_18 (kmX4_write l kd_18 e1) rfl (Nat.le_of_ble_eq_true rfl) (Nat.le_of_ble_eq_true rfl) (Nat.le_of_ble_eq_true rfl) ?_
  show V 82 [some (.ref 4), none, some (.int x2), some (.int x3), some (.int x4), some (.int x5)] [] σ1
  refine h.run (o := []) (ls' := [some (.ref 4), none, some (.int x2), some (.int x3), some (.int x4), some (.int x5)]) (st' := [.int x5]) (σ' := σ1) [(.iload 5, 2, 0, 0, 0, 0)] (pc2 := 84) (by decide +kernel) rfl trivial ?_
  refine h.if_le (tgt := 91) (show decode cX2_takesNumber 84 = .ok (.ifCond .le 7, 3) by decide +kernel) (by decide) (fun c2 => ?_) (fun c2 => ?_)
  · rw [if_pos c2] at hf
    refine h.run (o := []) (ls' := [some (.ref 4), none, some (.int x2), some (.int x3), some (.int x4), some (.int x5)]) (st' := [.int 0]) (σ' := σ1) [(.iconst 0, 1, 0, 0, 0, 0)] (pc2 := 92) (by decide +kernel) rfl trivial ?_
    refine h.drop (ls' := [none, none, none, none, none, none]) trivial ?_
    exact wX2_takesNumber_92 hm hf
  · rw [if_neg c2] at hf
    show V 87 [some (.ref 4), none, some (.int x2), some (.int x3), some (.int x4), some (.int x5)] [] σ1
    refine h.run (o := []) (ls' := [some (.ref 4), none, some (.int x2), some (.int x3), some (.int x4), some (.int x5)]) (st' := [.int 1]) (σ' := σ1) [(.iconst 1, 1, 1, 0, 0, 0), (.goto 4, 3, 0, 0, 0, 92)] (pc2 := 92) (by decide +kernel) rfl trivial ?_
    refine h.drop (ls' := [none, none, none, none, none, none]) trivial ?_
    exact wX2_takesNumber_92 hm hf
def fX2_takesNumber_36 (kt_6 : Nat → Int32 → Int32 → Int32 → Int32 → ST → Option (Int32 × ST)) (k1 : Nat) (x2 : Int32) (x3 : Int32) (x4 : Int32) (x5 : Int32) (σ : ST) : Option (Int32 × ST) :=
  bR (fX3_read k1 (σ.1 4 1) σ) fun a1 =>
  bR (fX2_digitOf a1 σ) fun a2 =>
  kt_6 k1 x2 x3 ((10 * x4) + a2) (x5 + 1) (setI σ 4 1 ((σ.1 4 1) + 1))
set_option maxHeartbeats 4000000 in
theorem wX2_takesNumber_36 {l : Launch} {V : Nat → List (Option Value) → List Value → ST → Prop} {r : Int32} {τ : ST} {σ : ST} {k1 : Nat} {x2 : Int32} {x3 : Int32} {x4 : Int32} {x5 : Int32} {kt_6 : Nat → Int32 → Int32 → Int32 → Int32 → ST → Option (Int32 × ST)} (hm : BM l 2 cX2_takesNumber 6 (some .boolean) 2 47 (some (.int r)) τ V) (hkt_6 : ∀ (k1 : Nat) (x2 : Int32) (x3 : Int32) (x4 : Int32) (x5 : Int32) (σ : ST), kd k1 = 3 → kt_6 k1 x2 x3 x4 x5 σ = some (r, τ) → V 6 [some (.ref 4), some (.ref k1), some (.int x2), some (.int x3), some (.int x4), some (.int x5)] [] σ) (hk1 : kd k1 = 3) (hf : fX2_takesNumber_36 kt_6 k1 x2 x3 x4 x5 σ = some (r, τ)) : V 36 [some (.ref 4), some (.ref k1), some (.int x2), some (.int x3), some (.int x4), some (.int x5)] [] σ := by
  have h := hm.bd
  unfold fX2_takesNumber_36 at hf
  refine h.run (o := [kd 4 = 2]) (ls' := [some (.ref 4), some (.ref k1), some (.int x2), some (.int x3), some (.int x4), some (.int x5)]) (st' := [.int (σ.1 4 1), .ref k1, .int (10 * x4)]) (σ' := σ) [(.bipush 10, 2, 10, 0, 0, 0), (.iload 4, 2, 0, 0, 0, 0), (.imul, 1, 0, 0, 0, 0), (.aload_n 1, 1, 0, 0, 0, 0), (.aload_n 0, 1, 0, 0, 0, 0), (.getfield 24, 3, 0, 0, 2, 1)] (pc2 := 46) (by decide +kernel) rfl (And.intro kd_4 trivial) ?_
  obtain ⟨a1, e1, hf⟩ := bR_some hf
  refine h.callV (as := [.int (σ.1 4 1)]) (rest := [.int (10 * x4)]) (by decide +kernel) lk2_34 cwX3_read hk1 (kmX3_read l hk1 e1) rfl (Nat.le_of_ble_eq_true rfl) (Nat.le_of_ble_eq_true rfl) (Nat.le_of_ble_eq_true rfl) ?_
  show V 49 [some (.ref 4), some (.ref k1), some (.int x2), some (.int x3), some (.int x4), some (.int x5)] [.int a1, .int (10 * x4)] σ
  obtain ⟨a2, e2, hf⟩ := bR_some hf
  refine h.callS (as := [.int a1]) (rest := [.int (10 * x4)]) (by decide +kernel) lk2_61 cwX2_digitOf (kmX2_digitOf l e2) rfl (Nat.le_of_ble_eq_true rfl) (Nat.le_of_ble_eq_true rfl) (Nat.le_of_ble_eq_true rfl) ?_
  show V 52 [some (.ref 4), some (.ref k1), some (.int x2), some (.int x3), some (.int x4), some (.int x5)] [.int a2, .int (10 * x4)] σ
  refine h.run (o := [kd 4 = 2, kd 4 = 2]) (ls' := [some (.ref 4), some (.ref k1), some (.int x2), some (.int x3), some (.int ((10 * x4) + a2)), some (.int (x5 + 1))]) (st' := []) (σ' := setI σ 4 1 ((σ.1 4 1) + 1)) [(.iadd, 1, 0, 0, 0, 0), (.istore 4, 2, 0, 0, 0, 0), (.iinc 5 1, 3, 1, 0, 0, 0), (.aload_n 0, 1, 0, 0, 0, 0), (.dup, 1, 0, 0, 0, 0), (.getfield 24, 3, 0, 0, 2, 1), (.iconst 1, 1, 1, 0, 0, 0), (.iadd, 1, 0, 0, 0, 0), (.putfield 24, 3, 0, 0, 2, 1), (.goto (-62), 3, 0, 0, 0, 6)] (pc2 := 6) (by decide +kernel) rfl (And.intro kd_4 (And.intro kd_4 trivial)) ?_
  exact hkt_6 k1 x2 x3 ((10 * x4) + a2) (x5 + 1) _ hk1 hf
def fX2_takesNumber_6 (n : Nat) (k1 : Nat) (x2 : Int32) (x3 : Int32) (x4 : Int32) (x5 : Int32) (σ : ST) : Option (Int32 × ST) := match n with
  | 0 => none
  | n + 1 =>
    if 3 ≤ x5 then
      fX2_takesNumber_71 x2 x3 x4 x5 σ
    else
      bR (fX3_read k1 (σ.1 4 1) σ) fun a1 =>
      bR (fX2_digitOf a1 σ) fun a2 =>
      if a2 < 0 then
        fX2_takesNumber_71 x2 x3 x4 x5 σ
      else
        if x5 = 0 then
          fX2_takesNumber_36 (fX2_takesNumber_6 n) k1 x2 x3 x4 x5 σ
        else
          if x4 ≤ 0 then
            fX2_takesNumber_71 x2 x3 x4 x5 σ
          else
            fX2_takesNumber_36 (fX2_takesNumber_6 n) k1 x2 x3 x4 x5 σ
set_option maxHeartbeats 4000000 in
theorem wX2_takesNumber_6 {l : Launch} {V : Nat → List (Option Value) → List Value → ST → Prop} {r : Int32} {τ : ST} (hm : BM l 2 cX2_takesNumber 6 (some .boolean) 2 47 (some (.int r)) τ V) : ∀ (n : Nat) (k1 : Nat) (x2 : Int32) (x3 : Int32) (x4 : Int32) (x5 : Int32) (σ : ST) (hk1 : kd k1 = 3), fX2_takesNumber_6 n k1 x2 x3 x4 x5 σ = some (r, τ) → V 6 [some (.ref 4), some (.ref k1), some (.int x2), some (.int x3), some (.int x4), some (.int x5)] [] σ := by
  have h := hm.bd
  intro n
  induction n with
  | zero => intro k1 x2 x3 x4 x5 σ hk1 hf; cases hf
  | succ n ih =>
    intro k1 x2 x3 x4 x5 σ hk1 hf
    rw [fX2_takesNumber_6] at hf
    refine h.run (o := []) (ls' := [some (.ref 4), some (.ref k1), some (.int x2), some (.int x3), some (.int x4), some (.int x5)]) (st' := [.int 3, .int x5]) (σ' := σ) [(.iload 5, 2, 0, 0, 0, 0), (.iconst 3, 1, 3, 0, 0, 0)] (pc2 := 9) (by decide +kernel) rfl trivial ?_
    refine h.icmp_ge (tgt := 71) (show decode cX2_takesNumber 9 = .ok (.if_icmp .ge 62, 3) by decide +kernel) (by decide) (fun c6 => ?_) (fun c6 => ?_)
    · rw [if_pos c6] at hf
      refine h.drop (ls' := [some (.ref 4), none, some (.int x2), some (.int x3), some (.int x4), some (.int x5)]) (And.intro rfl (And.intro rfl (And.intro rfl (And.intro rfl (And.intro rfl trivial))))) ?_
      exact wX2_takesNumber_71 hm hf
    · rw [if_neg c6] at hf
      show V 12 [some (.ref 4), some (.ref k1), some (.int x2), some (.int x3), some (.int x4), some (.int x5)] [] σ
      refine h.run (o := [kd 4 = 2]) (ls' := [some (.ref 4), some (.ref k1), some (.int x2), some (.int x3), some (.int x4), some (.int x5)]) (st' := [.int (σ.1 4 1), .ref k1]) (σ' := σ) [(.aload_n 1, 1, 0, 0, 0, 0), (.aload_n 0, 1, 0, 0, 0, 0), (.getfield 24, 3, 0, 0, 2, 1)] (pc2 := 17) (by decide +kernel) rfl (And.intro kd_4 trivial) ?_
      obtain ⟨a1, e1, hf⟩ := bR_some hf
      refine h.callV (as := [.int (σ.1 4 1)]) (rest := []) (by decide +kernel) lk2_34 cwX3_read hk1 (kmX3_read l hk1 e1) rfl (Nat.le_of_ble_eq_true rfl) (Nat.le_of_ble_eq_true rfl) (Nat.le_of_ble_eq_true rfl) ?_
      show V 20 [some (.ref 4), some (.ref k1), some (.int x2), some (.int x3), some (.int x4), some (.int x5)] [.int a1] σ
      obtain ⟨a2, e2, hf⟩ := bR_some hf
      refine h.callS (as := [.int a1]) (rest := []) (by decide +kernel) lk2_61 cwX2_digitOf (kmX2_digitOf l e2) rfl (Nat.le_of_ble_eq_true rfl) (Nat.le_of_ble_eq_true rfl) (Nat.le_of_ble_eq_true rfl) ?_
      show V 23 [some (.ref 4), some (.ref k1), some (.int x2), some (.int x3), some (.int x4), some (.int x5)] [.int a2] σ
      refine h.if_lt (tgt := 71) (show decode cX2_takesNumber 23 = .ok (.ifCond .lt 48, 3) by decide +kernel) (by decide) (fun c5 => ?_) (fun c5 => ?_)
      · rw [if_pos c5] at hf
        refine h.drop (ls' := [some (.ref 4), none, some (.int x2), some (.int x3), some (.int x4), some (.int x5)]) (And.intro rfl (And.intro rfl (And.intro rfl (And.intro rfl (And.intro rfl trivial))))) ?_
        exact wX2_takesNumber_71 hm hf
      · rw [if_neg c5] at hf
        show V 26 [some (.ref 4), some (.ref k1), some (.int x2), some (.int x3), some (.int x4), some (.int x5)] [] σ
        refine h.run (o := []) (ls' := [some (.ref 4), some (.ref k1), some (.int x2), some (.int x3), some (.int x4), some (.int x5)]) (st' := [.int x5]) (σ' := σ) [(.iload 5, 2, 0, 0, 0, 0)] (pc2 := 28) (by decide +kernel) rfl trivial ?_
        refine h.if_eq (tgt := 36) (show decode cX2_takesNumber 28 = .ok (.ifCond .eq 8, 3) by decide +kernel) (by decide) (fun c4 => ?_) (fun c4 => ?_)
        · rw [if_pos c4] at hf
          exact wX2_takesNumber_36 hm ih hk1 hf
        · rw [if_neg c4] at hf
          show V 31 [some (.ref 4), some (.ref k1), some (.int x2), some (.int x3), some (.int x4), some (.int x5)] [] σ
          refine h.run (o := []) (ls' := [some (.ref 4), some (.ref k1), some (.int x2), some (.int x3), some (.int x4), some (.int x5)]) (st' := [.int x4]) (σ' := σ) [(.iload 4, 2, 0, 0, 0, 0)] (pc2 := 33) (by decide +kernel) rfl trivial ?_
          refine h.if_le (tgt := 71) (show decode cX2_takesNumber 33 = .ok (.ifCond .le 38, 3) by decide +kernel) (by decide) (fun c3 => ?_) (fun c3 => ?_)
          · rw [if_pos c3] at hf
            refine h.drop (ls' := [some (.ref 4), none, some (.int x2), some (.int x3), some (.int x4), some (.int x5)]) (And.intro rfl (And.intro rfl (And.intro rfl (And.intro rfl (And.intro rfl trivial))))) ?_
            exact wX2_takesNumber_71 hm hf
          · rw [if_neg c3] at hf
            show V 36 [some (.ref 4), some (.ref k1), some (.int x2), some (.int x3), some (.int x4), some (.int x5)] [] σ
            exact wX2_takesNumber_36 hm ih hk1 hf
def fX2_takesNumber (k1 : Nat) (x2 : Int32) (x3 : Int32) (σ : ST) : Option (Int32 × ST) :=
  fX2_takesNumber_6 FU k1 x2 x3 0 0 σ
set_option maxHeartbeats 4000000 in
theorem kmX2_takesNumber (l : Launch) {k1 : Nat} {x2 : Int32} {x3 : Int32} {σ : ST} {r : Int32} {τ : ST} (hk1 : kd k1 = 3) (hf : fX2_takesNumber k1 x2 x3 σ = some (r, τ)) : KM l yX2_takesNumber cX2_takesNumber 6 (some .boolean) 2 47 [.ref 4, .ref k1, .int x2, .int x3] σ (some (.int r)) τ := by
  refine KM.intro (ow := 2) (by decide +kernel) rfl (Nat.le_of_ble_eq_true rfl) (fun V hm => ?_)
  show V 0 [some (.ref 4), some (.ref k1), some (.int x2), some (.int x3), none, none] [] σ
  have h := hm.bd
  unfold fX2_takesNumber at hf
  refine h.run (o := []) (ls' := [some (.ref 4), some (.ref k1), some (.int x2), some (.int x3), some (.int 0), some (.int 0)]) (st' := []) (σ' := σ) [(.iconst 0, 1, 0, 0, 0, 0), (.istore 4, 2, 0, 0, 0, 0), (.iconst 0, 1, 0, 0, 0, 0), (.istore 5, 2, 0, 0, 0, 0)] (pc2 := 6) (by decide +kernel) rfl trivial ?_
  exact wX2_takesNumber_6 hm FU k1 x2 x3 0 0 _ hk1 hf
def fX2_takesDigit (k1 : Nat) (x2 : Int32) (σ : ST) : Option (Int32 × ST) :=
  bR (fX3_read k1 (σ.1 4 1) σ) fun a1 =>
  bR (fX2_digitOf a1 σ) fun a2 =>
  if 0 ≤ a2 then
    bR (fX4_write 18 x2 2 a2 (setI σ 4 1 ((σ.1 4 1) + 1))) fun σ3 =>
    some (1, σ3)
  else
    some (0, σ)
set_option maxHeartbeats 4000000 in
theorem kmX2_takesDigit (l : Launch) {k1 : Nat} {x2 : Int32} {σ : ST} {r : Int32} {τ : ST} (hk1 : kd k1 = 3) (hf : fX2_takesDigit k1 x2 σ = some (r, τ)) : KM l yX2_takesDigit cX2_takesDigit 4 (some .boolean) 2 47 [.ref 4, .ref k1, .int x2] σ (some (.int r)) τ := by
  refine KM.intro (ow := 2) (by decide +kernel) rfl (Nat.le_of_ble_eq_true rfl) (fun V hm => ?_)
  show V 0 [some (.ref 4), some (.ref k1), some (.int x2), none] [] σ
  have h := hm.bd
  unfold fX2_takesDigit at hf
  refine h.run (o := [kd 4 = 2]) (ls' := [some (.ref 4), some (.ref k1), some (.int x2), none]) (st' := [.int (σ.1 4 1), .ref k1]) (σ' := σ) [(.aload_n 1, 1, 0, 0, 0, 0), (.aload_n 0, 1, 0, 0, 0, 0), (.getfield 24, 3, 0, 0, 2, 1)] (pc2 := 5) (by decide +kernel) rfl (And.intro kd_4 trivial) ?_
  obtain ⟨a1, e1, hf⟩ := bR_some hf
  refine h.callV (as := [.int (σ.1 4 1)]) (rest := []) (by decide +kernel) lk2_34 cwX3_read hk1 (kmX3_read l hk1 e1) rfl (Nat.le_of_ble_eq_true rfl) (Nat.le_of_ble_eq_true rfl) (Nat.le_of_ble_eq_true rfl) ?_
  show V 8 [some (.ref 4), some (.ref k1), some (.int x2), none] [.int a1] σ
  obtain ⟨a2, e2, hf⟩ := bR_some hf
  refine h.callS (as := [.int a1]) (rest := []) (by decide +kernel) lk2_61 cwX2_digitOf (kmX2_digitOf l e2) rfl (Nat.le_of_ble_eq_true rfl) (Nat.le_of_ble_eq_true rfl) (Nat.le_of_ble_eq_true rfl) ?_
  show V 11 [some (.ref 4), some (.ref k1), some (.int x2), none] [.int a2] σ
  refine h.run (o := []) (ls' := [some (.ref 4), some (.ref k1), some (.int x2), some (.int a2)]) (st' := [.int a2]) (σ' := σ) [(.istore_n 3, 1, 0, 0, 0, 0), (.iload_n 3, 1, 0, 0, 0, 0)] (pc2 := 13) (by decide +kernel) rfl trivial ?_
  refine h.if_ge (tgt := 18) (show decode cX2_takesDigit 13 = .ok (.ifCond .ge 5, 3) by decide +kernel) (by decide) (fun c4 => ?_) (fun c4 => ?_)
  · rw [if_pos c4] at hf
    refine h.run (o := [kd 4 = 2, kd 4 = 2, kd 4 = 2]) (ls' := [some (.ref 4), some (.ref k1), some (.int x2), some (.int a2)]) (st' := [.int a2, .int 2, .int x2, .ref 18]) (σ' := setI σ 4 1 ((σ.1 4 1) + 1)) [(.aload_n 0, 1, 0, 0, 0, 0), (.dup, 1, 0, 0, 0, 0), (.getfield 24, 3, 0, 0, 2, 1), (.iconst 1, 1, 1, 0, 0, 0), (.iadd, 1, 0, 0, 0, 0), (.putfield 24, 3, 0, 0, 2, 1), (.aload_n 0, 1, 0, 0, 0, 0), (.getfield 14, 3, 0, 0, 2, 0), (.iload_n 2, 1, 0, 0, 0, 0), (.iconst 2, 1, 2, 0, 0, 0), (.iload_n 3, 1, 0, 0, 0, 0)] (pc2 := 35) (by decide +kernel) rfl (And.intro kd_4 (And.intro kd_4 (And.intro kd_4 trivial))) ?_
    obtain ⟨σ3, e3, hf⟩ := bR_some hf
    refine h.callV (as := [.int x2, .int 2, .int a2]) (rest := []) (by decide +kernel) lk2_42 cwX4_write kd_18 (kmX4_write l kd_18 e3) rfl (Nat.le_of_ble_eq_true rfl) (Nat.le_of_ble_eq_true rfl) (Nat.le_of_ble_eq_true rfl) ?_
    show V 38 [some (.ref 4), some (.ref k1), some (.int x2), some (.int a2)] [] σ3
    refine h.run (o := []) (ls' := [some (.ref 4), some (.ref k1), some (.int x2), some (.int a2)]) (st' := [.int 1]) (σ' := σ3) [(.iconst 1, 1, 1, 0, 0, 0)] (pc2 := 39) (by decide +kernel) rfl trivial ?_
    cases hf
    exact hm.zret (by decide +kernel) rfl
  · rw [if_neg c4] at hf
    show V 16 [some (.ref 4), some (.ref k1), some (.int x2), some (.int a2)] [] σ
    refine h.run (o := []) (ls' := [some (.ref 4), some (.ref k1), some (.int x2), some (.int a2)]) (st' := [.int 0]) (σ' := σ) [(.iconst 0, 1, 0, 0, 0, 0)] (pc2 := 17) (by decide +kernel) rfl trivial ?_
    cases hf
    exact hm.zret (by decide +kernel) rfl
def fX2_takes (k1 : Nat) (x2 : Int32) (σ : ST) : Option (Int32 × ST) :=
  bR (fX3_read k1 (σ.1 4 1) σ) fun a1 =>
  if a1 = x2 then
    some (1, setI σ 4 1 ((σ.1 4 1) + 1))
  else
    some (0, σ)
set_option maxHeartbeats 4000000 in
theorem kmX2_takes (l : Launch) {k1 : Nat} {x2 : Int32} {σ : ST} {r : Int32} {τ : ST} (hk1 : kd k1 = 3) (hf : fX2_takes k1 x2 σ = some (r, τ)) : KM l yX2_takes cX2_takes 3 (some .boolean) 2 42 [.ref 4, .ref k1, .int x2] σ (some (.int r)) τ := by
  refine KM.intro (ow := 2) (by decide +kernel) rfl (Nat.le_of_ble_eq_true rfl) (fun V hm => ?_)
  show V 0 [some (.ref 4), some (.ref k1), some (.int x2)] [] σ
  have h := hm.bd
  unfold fX2_takes at hf
  refine h.run (o := [kd 4 = 2]) (ls' := [some (.ref 4), some (.ref k1), some (.int x2)]) (st' := [.int (σ.1 4 1), .ref k1]) (σ' := σ) [(.aload_n 1, 1, 0, 0, 0, 0), (.aload_n 0, 1, 0, 0, 0, 0), (.getfield 24, 3, 0, 0, 2, 1)] (pc2 := 5) (by decide +kernel) rfl (And.intro kd_4 trivial) ?_
  obtain ⟨a1, e1, hf⟩ := bR_some hf
  refine h.callV (as := [.int (σ.1 4 1)]) (rest := []) (by decide +kernel) lk2_34 cwX3_read hk1 (kmX3_read l hk1 e1) rfl (Nat.le_of_ble_eq_true rfl) (Nat.le_of_ble_eq_true rfl) (Nat.le_of_ble_eq_true rfl) ?_
  show V 8 [some (.ref 4), some (.ref k1), some (.int x2)] [.int a1] σ
  refine h.run (o := []) (ls' := [some (.ref 4), some (.ref k1), some (.int x2)]) (st' := [.int x2, .int a1]) (σ' := σ) [(.iload_n 2, 1, 0, 0, 0, 0)] (pc2 := 9) (by decide +kernel) rfl trivial ?_
  refine h.icmp_eq (tgt := 14) (show decode cX2_takes 9 = .ok (.if_icmp .eq 5, 3) by decide +kernel) (by decide) (fun c2 => ?_) (fun c2 => ?_)
  · rw [if_pos c2] at hf
    refine h.run (o := [kd 4 = 2, kd 4 = 2]) (ls' := [some (.ref 4), some (.ref k1), some (.int x2)]) (st' := [.int 1]) (σ' := setI σ 4 1 ((σ.1 4 1) + 1)) [(.aload_n 0, 1, 0, 0, 0, 0), (.dup, 1, 0, 0, 0, 0), (.getfield 24, 3, 0, 0, 2, 1), (.iconst 1, 1, 1, 0, 0, 0), (.iadd, 1, 0, 0, 0, 0), (.putfield 24, 3, 0, 0, 2, 1), (.iconst 1, 1, 1, 0, 0, 0)] (pc2 := 25) (by decide +kernel) rfl (And.intro kd_4 (And.intro kd_4 trivial)) ?_
    cases hf
    exact hm.zret (by decide +kernel) rfl
  · rw [if_neg c2] at hf
    show V 12 [some (.ref 4), some (.ref k1), some (.int x2)] [] σ
    refine h.run (o := []) (ls' := [some (.ref 4), some (.ref k1), some (.int x2)]) (st' := [.int 0]) (σ' := σ) [(.iconst 0, 1, 0, 0, 0, 0)] (pc2 := 13) (by decide +kernel) rfl trivial ?_
    cases hf
    exact hm.zret (by decide +kernel) rfl
def fX2_takesPart_25 (t0 : Int32) (σ : ST) : Option (Int32 × ST) :=
  gd (isb t0) <|
  some (t0, σ)
set_option maxHeartbeats 4000000 in
theorem wX2_takesPart_25 {l : Launch} {V : Nat → List (Option Value) → List Value → ST → Prop} {r : Int32} {τ : ST} {σ : ST} {t0 : Int32} (hm : BM l 2 cX2_takesPart 5 (some .boolean) 3 72 (some (.int r)) τ V) (hf : fX2_takesPart_25 t0 σ = some (r, τ)) : V 25 [none, none, none, none, none] [.int t0] σ := by
  have h := hm.bd
  unfold fX2_takesPart_25 at hf
  obtain ⟨g1, hf⟩ := gd_some hf
  cases hf
  exact hm.zret (by decide +kernel) g1
def fX2_takesPart_20 (σ : ST) : Option (Int32 × ST) :=
  fX2_takesPart_25 1 σ
set_option maxHeartbeats 4000000 in
theorem wX2_takesPart_20 {l : Launch} {V : Nat → List (Option Value) → List Value → ST → Prop} {r : Int32} {τ : ST} {σ : ST} (hm : BM l 2 cX2_takesPart 5 (some .boolean) 3 72 (some (.int r)) τ V) (hf : fX2_takesPart_20 σ = some (r, τ)) : V 20 [none, none, none, none, none] [] σ := by
  have h := hm.bd
  unfold fX2_takesPart_20 at hf
  refine h.run (o := []) (ls' := [none, none, none, none, none]) (st' := [.int 1]) (σ' := σ) [(.iconst 1, 1, 1, 0, 0, 0), (.goto 4, 3, 0, 0, 0, 25)] (pc2 := 25) (by decide +kernel) rfl trivial ?_
  exact wX2_takesPart_25 hm hf
def fX2_takesPart (k1 : Nat) (x2 : Int32) (x3 : Int32) (x4 : Int32) (σ : ST) : Option (Int32 × ST) :=
  bI (fX2_takes k1 x3 σ) fun a1 σ1 =>
  if a1 = 0 then
    fX2_takesPart_20 σ1
  else
    bI (fX2_takesNumber k1 x2 x4 σ1) fun a2 σ2 =>
    if a2 = 0 then
      fX2_takesPart_25 0 σ2
    else
      fX2_takesPart_20 σ2
set_option maxHeartbeats 4000000 in
theorem kmX2_takesPart (l : Launch) {k1 : Nat} {x2 : Int32} {x3 : Int32} {x4 : Int32} {σ : ST} {r : Int32} {τ : ST} (hk1 : kd k1 = 3) (hf : fX2_takesPart k1 x2 x3 x4 σ = some (r, τ)) : KM l yX2_takesPart cX2_takesPart 5 (some .boolean) 3 72 [.ref 4, .ref k1, .int x2, .int x3, .int x4] σ (some (.int r)) τ := by
  refine KM.intro (ow := 2) (by decide +kernel) rfl (Nat.le_of_ble_eq_true rfl) (fun V hm => ?_)
  show V 0 [some (.ref 4), some (.ref k1), some (.int x2), some (.int x3), some (.int x4)] [] σ
  have h := hm.bd
  unfold fX2_takesPart at hf
  refine h.run (o := []) (ls' := [some (.ref 4), some (.ref k1), some (.int x2), some (.int x3), some (.int x4)]) (st' := [.int x3, .ref k1, .ref 4]) (σ' := σ) [(.aload_n 0, 1, 0, 0, 0, 0), (.aload_n 1, 1, 0, 0, 0, 0), (.iload_n 3, 1, 0, 0, 0, 0)] (pc2 := 3) (by decide +kernel) rfl trivial ?_
  obtain ⟨a1, σ1, e1, hf⟩ := bI_some hf
  refine h.callV (as := [.ref k1, .int x3]) (rest := []) (by decide +kernel) lk2_50 cwX2_takes kd_4 (kmX2_takes l hk1 e1) rfl (Nat.le_of_ble_eq_true rfl) (Nat.le_of_ble_eq_true rfl) (Nat.le_of_ble_eq_true rfl) ?_
  show V 6 [some (.ref 4), some (.ref k1), some (.int x2), some (.int x3), some (.int x4)] [.int a1] σ1
  refine h.if_eq (tgt := 20) (show decode cX2_takesPart 6 = .ok (.ifCond .eq 14, 3) by decide +kernel) (by decide) (fun c4 => ?_) (fun c4 => ?_)
  · rw [if_pos c4] at hf
    refine h.drop (ls' := [none, none, none, none, none]) trivial ?_
    exact wX2_takesPart_20 hm hf
  · rw [if_neg c4] at hf
    show V 9 [some (.ref 4), some (.ref k1), some (.int x2), some (.int x3), some (.int x4)] [] σ1
    refine h.run (o := []) (ls' := [some (.ref 4), some (.ref k1), some (.int x2), some (.int x3), some (.int x4)]) (st' := [.int x4, .int x2, .ref k1, .ref 4]) (σ' := σ1) [(.aload_n 0, 1, 0, 0, 0, 0), (.aload_n 1, 1, 0, 0, 0, 0), (.iload_n 2, 1, 0, 0, 0, 0), (.iload 4, 2, 0, 0, 0, 0)] (pc2 := 14) (by decide +kernel) rfl trivial ?_
    obtain ⟨a2, σ2, e2, hf⟩ := bI_some hf
    refine h.callV (as := [.ref k1, .int x2, .int x4]) (rest := []) (by decide +kernel) lk2_53 cwX2_takesNumber kd_4 (kmX2_takesNumber l hk1 e2) rfl (Nat.le_of_ble_eq_true rfl) (Nat.le_of_ble_eq_true rfl) (Nat.le_of_ble_eq_true rfl) ?_
    show V 17 [some (.ref 4), some (.ref k1), some (.int x2), some (.int x3), some (.int x4)] [.int a2] σ2
    refine h.if_eq (tgt := 24) (show decode cX2_takesPart 17 = .ok (.ifCond .eq 7, 3) by decide +kernel) (by decide) (fun c3 => ?_) (fun c3 => ?_)
    · rw [if_pos c3] at hf
      refine h.run (o := []) (ls' := [some (.ref 4), some (.ref k1), some (.int x2), some (.int x3), some (.int x4)]) (st' := [.int 0]) (σ' := σ2) [(.iconst 0, 1, 0, 0, 0, 0)] (pc2 := 25) (by decide +kernel) rfl trivial ?_
      refine h.drop (ls' := [none, none, none, none, none]) trivial ?_
      exact wX2_takesPart_25 hm hf
    · rw [if_neg c3] at hf
      show V 20 [some (.ref 4), some (.ref k1), some (.int x2), some (.int x3), some (.int x4)] [] σ2
      refine h.drop (ls' := [none, none, none, none, none]) trivial ?_
      exact wX2_takesPart_20 hm hf
def fX2_takesStatement_257 (t0 : Int32) (σ : ST) : Option (Int32 × ST) :=
  gd (isb t0) <|
  some (t0, σ)
set_option maxHeartbeats 4000000 in
theorem wX2_takesStatement_257 {l : Launch} {V : Nat → List (Option Value) → List Value → ST → Prop} {r : Int32} {τ : ST} {σ : ST} {t0 : Int32} (hm : BM l 2 cX2_takesStatement 6 (some .boolean) 4 96 (some (.int r)) τ V) (hf : fX2_takesStatement_257 t0 σ = some (r, τ)) : V 257 [none, none, none, none, none, none] [.int t0] σ := by
  have h := hm.bd
  unfold fX2_takesStatement_257 at hf
  obtain ⟨g1, hf⟩ := gd_some hf
  cases hf
  exact hm.zret (by decide +kernel) g1
def fX2_takesStatement_256 (σ : ST) : Option (Int32 × ST) :=
  fX2_takesStatement_257 0 σ
set_option maxHeartbeats 4000000 in
theorem wX2_takesStatement_256 {l : Launch} {V : Nat → List (Option Value) → List Value → ST → Prop} {r : Int32} {τ : ST} {σ : ST} (hm : BM l 2 cX2_takesStatement 6 (some .boolean) 4 96 (some (.int r)) τ V) (hf : fX2_takesStatement_256 σ = some (r, τ)) : V 256 [none, none, none, none, none, none] [] σ := by
  have h := hm.bd
  unfold fX2_takesStatement_256 at hf
  refine h.run (o := []) (ls' := [none, none, none, none, none, none]) (st' := [.int 0]) (σ' := σ) [(.iconst 0, 1, 0, 0, 0, 0)] (pc2 := 257) (by decide +kernel) rfl trivial ?_
  exact wX2_takesStatement_257 hm hf
def fX2_takesStatement_237 (k1 : Nat) (x5 : Int32) (σ : ST) : Option (Int32 × ST) :=
  if x5 = 0 then
    fX2_takesStatement_256 σ
  else
    bI (fX2_takes k1 59 σ) fun a1 σ1 =>
    if a1 = 0 then
      fX2_takesStatement_256 σ1
    else
      fX2_takesStatement_257 1 σ1
set_option maxHeartbeats 4000000 in
theorem wX2_takesStatement_237 {l : Launch} {V : Nat → List (Option Value) → List Value → ST → Prop} {r : Int32} {τ : ST} {σ : ST} {k1 : Nat} {x5 : Int32} (hm : BM l 2 cX2_takesStatement 6 (some .boolean) 4 96 (some (.int r)) τ V) (hk1 : kd k1 = 3) (hf : fX2_takesStatement_237 k1 x5 σ = some (r, τ)) : V 237 [some (.ref 4), some (.ref k1), none, none, none, some (.int x5)] [] σ := by
  have h := hm.bd
  unfold fX2_takesStatement_237 at hf
  refine h.run (o := []) (ls' := [some (.ref 4), some (.ref k1), none, none, none, some (.int x5)]) (st' := [.int x5]) (σ' := σ) [(.iload 5, 2, 0, 0, 0, 0)] (pc2 := 239) (by decide +kernel) rfl trivial ?_
  refine h.if_eq (tgt := 256) (show decode cX2_takesStatement 239 = .ok (.ifCond .eq 17, 3) by decide +kernel) (by decide) (fun c3 => ?_) (fun c3 => ?_)
  · rw [if_pos c3] at hf
    refine h.drop (ls' := [none, none, none, none, none, none]) trivial ?_
    exact wX2_takesStatement_256 hm hf
  · rw [if_neg c3] at hf
    show V 242 [some (.ref 4), some (.ref k1), none, none, none, some (.int x5)] [] σ
    refine h.run (o := []) (ls' := [some (.ref 4), some (.ref k1), none, none, none, some (.int x5)]) (st' := [.int 59, .ref k1, .ref 4]) (σ' := σ) [(.aload_n 0, 1, 0, 0, 0, 0), (.aload_n 1, 1, 0, 0, 0, 0), (.bipush 59, 2, 59, 0, 0, 0)] (pc2 := 246) (by decide +kernel) rfl trivial ?_
    obtain ⟨a1, σ1, e1, hf⟩ := bI_some hf
    refine h.callV (as := [.ref k1, .int 59]) (rest := []) (by decide +kernel) lk2_50 cwX2_takes kd_4 (kmX2_takes l hk1 e1) rfl (Nat.le_of_ble_eq_true rfl) (Nat.le_of_ble_eq_true rfl) (Nat.le_of_ble_eq_true rfl) ?_
    show V 249 [some (.ref 4), some (.ref k1), none, none, none, some (.int x5)] [.int a1] σ1
    refine h.if_eq (tgt := 256) (show decode cX2_takesStatement 249 = .ok (.ifCond .eq 7, 3) by decide +kernel) (by decide) (fun c2 => ?_) (fun c2 => ?_)
    · rw [if_pos c2] at hf
      refine h.drop (ls' := [none, none, none, none, none, none]) trivial ?_
      exact wX2_takesStatement_256 hm hf
    · rw [if_neg c2] at hf
      show V 252 [some (.ref 4), some (.ref k1), none, none, none, some (.int x5)] [] σ1
      refine h.run (o := []) (ls' := [some (.ref 4), some (.ref k1), none, none, none, some (.int x5)]) (st' := [.int 1]) (σ' := σ1) [(.iconst 1, 1, 1, 0, 0, 0), (.goto 4, 3, 0, 0, 0, 257)] (pc2 := 257) (by decide +kernel) rfl trivial ?_
      refine h.drop (ls' := [none, none, none, none, none, none]) trivial ?_
      exact wX2_takesStatement_257 hm hf
def fX2_takesStatement_222 (k1 : Nat) (t0 : Int32) (σ : ST) : Option (Int32 × ST) :=
  fX2_takesStatement_237 k1 t0 σ
set_option maxHeartbeats 4000000 in
theorem wX2_takesStatement_222 {l : Launch} {V : Nat → List (Option Value) → List Value → ST → Prop} {r : Int32} {τ : ST} {σ : ST} {k1 : Nat} {t0 : Int32} (hm : BM l 2 cX2_takesStatement 6 (some .boolean) 4 96 (some (.int r)) τ V) (hk1 : kd k1 = 3) (hf : fX2_takesStatement_222 k1 t0 σ = some (r, τ)) : V 222 [some (.ref 4), some (.ref k1), none, none, none, none] [.int t0] σ := by
  have h := hm.bd
  unfold fX2_takesStatement_222 at hf
  refine h.run (o := []) (ls' := [some (.ref 4), some (.ref k1), none, none, none, some (.int t0)]) (st' := []) (σ' := σ) [(.istore 5, 2, 0, 0, 0, 0), (.goto 13, 3, 0, 0, 0, 237)] (pc2 := 237) (by decide +kernel) rfl trivial ?_
  exact wX2_takesStatement_237 hm hk1 hf
def fX2_takesStatement_221 (k1 : Nat) (σ : ST) : Option (Int32 × ST) :=
  fX2_takesStatement_222 k1 0 σ
set_option maxHeartbeats 4000000 in
theorem wX2_takesStatement_221 {l : Launch} {V : Nat → List (Option Value) → List Value → ST → Prop} {r : Int32} {τ : ST} {σ : ST} {k1 : Nat} (hm : BM l 2 cX2_takesStatement 6 (some .boolean) 4 96 (some (.int r)) τ V) (hk1 : kd k1 = 3) (hf : fX2_takesStatement_221 k1 σ = some (r, τ)) : V 221 [some (.ref 4), some (.ref k1), none, none, none, none] [] σ := by
  have h := hm.bd
  unfold fX2_takesStatement_221 at hf
  refine h.run (o := []) (ls' := [some (.ref 4), some (.ref k1), none, none, none, none]) (st' := [.int 0]) (σ' := σ) [(.iconst 0, 1, 0, 0, 0, 0)] (pc2 := 222) (by decide +kernel) rfl trivial ?_
  exact wX2_takesStatement_222 hm hk1 hf
def fX2_takesStatement_167 (k1 : Nat) (x4 : Int32) (σ : ST) : Option (Int32 × ST) :=
  bI (fX2_takesNumber k1 x4 2 σ) fun a1 σ1 =>
  if a1 = 0 then
    fX2_takesStatement_221 k1 σ1
  else
    bI (fX2_takesPart k1 x4 108 3 σ1) fun a2 σ2 =>
    if a2 = 0 then
      fX2_takesStatement_221 k1 σ2
    else
      bI (fX2_takesPart k1 x4 118 4 σ2) fun a3 σ3 =>
      if a3 = 0 then
        fX2_takesStatement_221 k1 σ3
      else
        bI (fX2_takesPart k1 x4 119 5 σ3) fun a4 σ4 =>
        if a4 = 0 then
          fX2_takesStatement_221 k1 σ4
        else
          fX2_takesStatement_222 k1 1 σ4
set_option maxHeartbeats 4000000 in
theorem wX2_takesStatement_167 {l : Launch} {V : Nat → List (Option Value) → List Value → ST → Prop} {r : Int32} {τ : ST} {σ : ST} {k1 : Nat} {x4 : Int32} (hm : BM l 2 cX2_takesStatement 6 (some .boolean) 4 96 (some (.int r)) τ V) (hk1 : kd k1 = 3) (hf : fX2_takesStatement_167 k1 x4 σ = some (r, τ)) : V 167 [some (.ref 4), some (.ref k1), none, none, some (.int x4), none] [] σ := by
  have h := hm.bd
  unfold fX2_takesStatement_167 at hf
  refine h.run (o := []) (ls' := [some (.ref 4), some (.ref k1), none, none, some (.int x4), none]) (st' := [.int 2, .int x4, .ref k1, .ref 4]) (σ' := σ) [(.aload_n 0, 1, 0, 0, 0, 0), (.aload_n 1, 1, 0, 0, 0, 0), (.iload 4, 2, 0, 0, 0, 0), (.iconst 2, 1, 2, 0, 0, 0)] (pc2 := 172) (by decide +kernel) rfl trivial ?_
  obtain ⟨a1, σ1, e1, hf⟩ := bI_some hf
  refine h.callV (as := [.ref k1, .int x4, .int 2]) (rest := []) (by decide +kernel) lk2_53 cwX2_takesNumber kd_4 (kmX2_takesNumber l hk1 e1) rfl (Nat.le_of_ble_eq_true rfl) (Nat.le_of_ble_eq_true rfl) (Nat.le_of_ble_eq_true rfl) ?_
  show V 175 [some (.ref 4), some (.ref k1), none, none, some (.int x4), none] [.int a1] σ1
  refine h.if_eq (tgt := 221) (show decode cX2_takesStatement 175 = .ok (.ifCond .eq 46, 3) by decide +kernel) (by decide) (fun c8 => ?_) (fun c8 => ?_)
  · rw [if_pos c8] at hf
    refine h.drop (ls' := [some (.ref 4), some (.ref k1), none, none, none, none]) (And.intro rfl (And.intro rfl trivial)) ?_
    exact wX2_takesStatement_221 hm hk1 hf
  · rw [if_neg c8] at hf
    show V 178 [some (.ref 4), some (.ref k1), none, none, some (.int x4), none] [] σ1
    refine h.run (o := []) (ls' := [some (.ref 4), some (.ref k1), none, none, some (.int x4), none]) (st' := [.int 3, .int 108, .int x4, .ref k1, .ref 4]) (σ' := σ1) [(.aload_n 0, 1, 0, 0, 0, 0), (.aload_n 1, 1, 0, 0, 0, 0), (.iload 4, 2, 0, 0, 0, 0), (.bipush 108, 2, 108, 0, 0, 0), (.iconst 3, 1, 3, 0, 0, 0)] (pc2 := 185) (by decide +kernel) rfl trivial ?_
    obtain ⟨a2, σ2, e2, hf⟩ := bI_some hf
    refine h.callV (as := [.ref k1, .int x4, .int 108, .int 3]) (rest := []) (by decide +kernel) lk2_57 cwX2_takesPart kd_4 (kmX2_takesPart l hk1 e2) rfl (Nat.le_of_ble_eq_true rfl) (Nat.le_of_ble_eq_true rfl) (Nat.le_of_ble_eq_true rfl) ?_
    show V 188 [some (.ref 4), some (.ref k1), none, none, some (.int x4), none] [.int a2] σ2
    refine h.if_eq (tgt := 221) (show decode cX2_takesStatement 188 = .ok (.ifCond .eq 33, 3) by decide +kernel) (by decide) (fun c7 => ?_) (fun c7 => ?_)
    · rw [if_pos c7] at hf
      refine h.drop (ls' := [some (.ref 4), some (.ref k1), none, none, none, none]) (And.intro rfl (And.intro rfl trivial)) ?_
      exact wX2_takesStatement_221 hm hk1 hf
    · rw [if_neg c7] at hf
      show V 191 [some (.ref 4), some (.ref k1), none, none, some (.int x4), none] [] σ2
      refine h.run (o := []) (ls' := [some (.ref 4), some (.ref k1), none, none, some (.int x4), none]) (st' := [.int 4, .int 118, .int x4, .ref k1, .ref 4]) (σ' := σ2) [(.aload_n 0, 1, 0, 0, 0, 0), (.aload_n 1, 1, 0, 0, 0, 0), (.iload 4, 2, 0, 0, 0, 0), (.bipush 118, 2, 118, 0, 0, 0), (.iconst 4, 1, 4, 0, 0, 0)] (pc2 := 198) (by decide +kernel) rfl trivial ?_
      obtain ⟨a3, σ3, e3, hf⟩ := bI_some hf
      refine h.callV (as := [.ref k1, .int x4, .int 118, .int 4]) (rest := []) (by decide +kernel) lk2_57 cwX2_takesPart kd_4 (kmX2_takesPart l hk1 e3) rfl (Nat.le_of_ble_eq_true rfl) (Nat.le_of_ble_eq_true rfl) (Nat.le_of_ble_eq_true rfl) ?_
      show V 201 [some (.ref 4), some (.ref k1), none, none, some (.int x4), none] [.int a3] σ3
      refine h.if_eq (tgt := 221) (show decode cX2_takesStatement 201 = .ok (.ifCond .eq 20, 3) by decide +kernel) (by decide) (fun c6 => ?_) (fun c6 => ?_)
      · rw [if_pos c6] at hf
        refine h.drop (ls' := [some (.ref 4), some (.ref k1), none, none, none, none]) (And.intro rfl (And.intro rfl trivial)) ?_
        exact wX2_takesStatement_221 hm hk1 hf
      · rw [if_neg c6] at hf
        show V 204 [some (.ref 4), some (.ref k1), none, none, some (.int x4), none] [] σ3
        refine h.run (o := []) (ls' := [some (.ref 4), some (.ref k1), none, none, some (.int x4), none]) (st' := [.int 5, .int 119, .int x4, .ref k1, .ref 4]) (σ' := σ3) [(.aload_n 0, 1, 0, 0, 0, 0), (.aload_n 1, 1, 0, 0, 0, 0), (.iload 4, 2, 0, 0, 0, 0), (.bipush 119, 2, 119, 0, 0, 0), (.iconst 5, 1, 5, 0, 0, 0)] (pc2 := 211) (by decide +kernel) rfl trivial ?_
        obtain ⟨a4, σ4, e4, hf⟩ := bI_some hf
        refine h.callV (as := [.ref k1, .int x4, .int 119, .int 5]) (rest := []) (by decide +kernel) lk2_57 cwX2_takesPart kd_4 (kmX2_takesPart l hk1 e4) rfl (Nat.le_of_ble_eq_true rfl) (Nat.le_of_ble_eq_true rfl) (Nat.le_of_ble_eq_true rfl) ?_
        show V 214 [some (.ref 4), some (.ref k1), none, none, some (.int x4), none] [.int a4] σ4
        refine h.if_eq (tgt := 221) (show decode cX2_takesStatement 214 = .ok (.ifCond .eq 7, 3) by decide +kernel) (by decide) (fun c5 => ?_) (fun c5 => ?_)
        · rw [if_pos c5] at hf
          refine h.drop (ls' := [some (.ref 4), some (.ref k1), none, none, none, none]) (And.intro rfl (And.intro rfl trivial)) ?_
          exact wX2_takesStatement_221 hm hk1 hf
        · rw [if_neg c5] at hf
          show V 217 [some (.ref 4), some (.ref k1), none, none, some (.int x4), none] [] σ4
          refine h.run (o := []) (ls' := [some (.ref 4), some (.ref k1), none, none, some (.int x4), none]) (st' := [.int 1]) (σ' := σ4) [(.iconst 1, 1, 1, 0, 0, 0), (.goto 4, 3, 0, 0, 0, 222)] (pc2 := 222) (by decide +kernel) rfl trivial ?_
          refine h.drop (ls' := [some (.ref 4), some (.ref k1), none, none, none, none]) (And.intro rfl (And.intro rfl trivial)) ?_
          exact wX2_takesStatement_222 hm hk1 hf
def fX2_takesStatement_150 (k1 : Nat) (t0 : Int32) (σ : ST) : Option (Int32 × ST) :=
  fX2_takesStatement_237 k1 t0 σ
set_option maxHeartbeats 4000000 in
theorem wX2_takesStatement_150 {l : Launch} {V : Nat → List (Option Value) → List Value → ST → Prop} {r : Int32} {τ : ST} {σ : ST} {k1 : Nat} {t0 : Int32} (hm : BM l 2 cX2_takesStatement 6 (some .boolean) 4 96 (some (.int r)) τ V) (hk1 : kd k1 = 3) (hf : fX2_takesStatement_150 k1 t0 σ = some (r, τ)) : V 150 [some (.ref 4), some (.ref k1), none, none, none, none] [.int t0] σ := by
  have h := hm.bd
  unfold fX2_takesStatement_150 at hf
  refine h.run (o := []) (ls' := [some (.ref 4), some (.ref k1), none, none, none, some (.int t0)]) (st' := []) (σ' := σ) [(.istore 5, 2, 0, 0, 0, 0), (.goto 85, 3, 0, 0, 0, 237)] (pc2 := 237) (by decide +kernel) rfl trivial ?_
  exact wX2_takesStatement_237 hm hk1 hf
def fX2_takesStatement_149 (k1 : Nat) (σ : ST) : Option (Int32 × ST) :=
  fX2_takesStatement_150 k1 0 σ
set_option maxHeartbeats 4000000 in
theorem wX2_takesStatement_149 {l : Launch} {V : Nat → List (Option Value) → List Value → ST → Prop} {r : Int32} {τ : ST} {σ : ST} {k1 : Nat} (hm : BM l 2 cX2_takesStatement 6 (some .boolean) 4 96 (some (.int r)) τ V) (hk1 : kd k1 = 3) (hf : fX2_takesStatement_149 k1 σ = some (r, τ)) : V 149 [some (.ref 4), some (.ref k1), none, none, none, none] [] σ := by
  have h := hm.bd
  unfold fX2_takesStatement_149 at hf
  refine h.run (o := []) (ls' := [some (.ref 4), some (.ref k1), none, none, none, none]) (st' := [.int 0]) (σ' := σ) [(.iconst 0, 1, 0, 0, 0, 0)] (pc2 := 150) (by decide +kernel) rfl trivial ?_
  exact wX2_takesStatement_150 hm hk1 hf
def fX2_takesStatement_46 (k1 : Nat) (x2 : Int32) (x3 : Int32) (σ : ST) : Option (Int32 × ST) :=
  bI (fX4_open 18 (setI σ 4 1 ((σ.1 4 1) + 1))) fun a1 σ1 =>
  bR (fX4_write 18 a1 0 x2 σ1) fun σ2 =>
  bR (fX4_write 18 a1 1 x3 σ2) fun σ3 =>
  if x3 = 115 then
    bI (fX2_takesDigit k1 a1 σ3) fun a7 σ7 =>
    if a7 = 0 then
      fX2_takesStatement_149 k1 σ7
    else
      bI (fX2_takes k1 32 σ7) fun a8 σ8 =>
      if a8 = 0 then
        fX2_takesStatement_149 k1 σ8
      else
        bI (fX2_takesNumber k1 a1 3 σ8) fun a9 σ9 =>
        if a9 = 0 then
          fX2_takesStatement_149 k1 σ9
        else
          bI (fX2_takes k1 32 σ9) fun a10 σ10 =>
          if a10 = 0 then
            fX2_takesStatement_149 k1 σ10
          else
            bI (fX2_takesNumber k1 a1 4 σ10) fun a11 σ11 =>
            if a11 = 0 then
              fX2_takesStatement_149 k1 σ11
            else
              fX2_takesStatement_150 k1 1 σ11
  else
    if x3 = 109 then
      fX2_takesStatement_167 k1 a1 σ3
    else
      if x3 = 120 then
        fX2_takesStatement_167 k1 a1 σ3
      else
        bI (fX2_takesNumber k1 a1 2 σ3) fun a4 σ4 =>
        fX2_takesStatement_237 k1 a4 σ4
set_option maxHeartbeats 4000000 in
theorem wX2_takesStatement_46 {l : Launch} {V : Nat → List (Option Value) → List Value → ST → Prop} {r : Int32} {τ : ST} {σ : ST} {k1 : Nat} {x2 : Int32} {x3 : Int32} (hm : BM l 2 cX2_takesStatement 6 (some .boolean) 4 96 (some (.int r)) τ V) (hk1 : kd k1 = 3) (hf : fX2_takesStatement_46 k1 x2 x3 σ = some (r, τ)) : V 46 [some (.ref 4), some (.ref k1), some (.int x2), some (.int x3), none, none] [] σ := by
  have h := hm.bd
  unfold fX2_takesStatement_46 at hf
  refine h.run (o := [kd 4 = 2, kd 4 = 2, kd 4 = 2]) (ls' := [some (.ref 4), some (.ref k1), some (.int x2), some (.int x3), none, none]) (st' := [.ref 18]) (σ' := setI σ 4 1 ((σ.1 4 1) + 1)) [(.aload_n 0, 1, 0, 0, 0, 0), (.dup, 1, 0, 0, 0, 0), (.getfield 24, 3, 0, 0, 2, 1), (.iconst 1, 1, 1, 0, 0, 0), (.iadd, 1, 0, 0, 0, 0), (.putfield 24, 3, 0, 0, 2, 1), (.aload_n 0, 1, 0, 0, 0, 0), (.getfield 14, 3, 0, 0, 2, 0)] (pc2 := 60) (by decide +kernel) rfl (And.intro kd_4 (And.intro kd_4 (And.intro kd_4 trivial))) ?_
  obtain ⟨a1, σ1, e1, hf⟩ := bI_some hf
  refine h.callV (as := []) (rest := []) (by decide +kernel) lk2_38 cwX4_open kd_18 (kmX4_open l kd_18 e1) rfl (Nat.le_of_ble_eq_true rfl) (Nat.le_of_ble_eq_true rfl) (Nat.le_of_ble_eq_true rfl) ?_
  show V 63 [some (.ref 4), some (.ref k1), some (.int x2), some (.int x3), none, none] [.int a1] σ1
  refine h.run (o := [kd 4 = 2]) (ls' := [some (.ref 4), some (.ref k1), some (.int x2), some (.int x3), some (.int a1), none]) (st' := [.int x2, .int 0, .int a1, .ref 18]) (σ' := σ1) [(.istore 4, 2, 0, 0, 0, 0), (.aload_n 0, 1, 0, 0, 0, 0), (.getfield 14, 3, 0, 0, 2, 0), (.iload 4, 2, 0, 0, 0, 0), (.iconst 0, 1, 0, 0, 0, 0), (.iload_n 2, 1, 0, 0, 0, 0)] (pc2 := 73) (by decide +kernel) rfl (And.intro kd_4 trivial) ?_
  obtain ⟨σ2, e2, hf⟩ := bR_some hf
  refine h.callV (as := [.int a1, .int 0, .int x2]) (rest := []) (by decide +kernel) lk2_42 cwX4_write kd_18 (kmX4_write l kd_18 e2) rfl (Nat.le_of_ble_eq_true rfl) (Nat.le_of_ble_eq_true rfl) (Nat.le_of_ble_eq_true rfl) ?_
  show V 76 [some (.ref 4), some (.ref k1), some (.int x2), some (.int x3), some (.int a1), none] [] σ2
  refine h.run (o := [kd 4 = 2]) (ls' := [some (.ref 4), some (.ref k1), some (.int x2), some (.int x3), some (.int a1), none]) (st' := [.int x3, .int 1, .int a1, .ref 18]) (σ' := σ2) [(.aload_n 0, 1, 0, 0, 0, 0), (.getfield 14, 3, 0, 0, 2, 0), (.iload 4, 2, 0, 0, 0, 0), (.iconst 1, 1, 1, 0, 0, 0), (.iload_n 3, 1, 0, 0, 0, 0)] (pc2 := 84) (by decide +kernel) rfl (And.intro kd_4 trivial) ?_
  obtain ⟨σ3, e3, hf⟩ := bR_some hf
  refine h.callV (as := [.int a1, .int 1, .int x3]) (rest := []) (by decide +kernel) lk2_42 cwX4_write kd_18 (kmX4_write l kd_18 e3) rfl (Nat.le_of_ble_eq_true rfl) (Nat.le_of_ble_eq_true rfl) (Nat.le_of_ble_eq_true rfl) ?_
  show V 87 [some (.ref 4), some (.ref k1), some (.int x2), some (.int x3), some (.int a1), none] [] σ3
  refine h.run (o := []) (ls' := [some (.ref 4), some (.ref k1), some (.int x2), some (.int x3), some (.int a1), none]) (st' := [.int 115, .int x3]) (σ' := σ3) [(.iload_n 3, 1, 0, 0, 0, 0), (.bipush 115, 2, 115, 0, 0, 0)] (pc2 := 90) (by decide +kernel) rfl trivial ?_
  refine h.icmp_ne (tgt := 155) (show decode cX2_takesStatement 90 = .ok (.if_icmp .ne 65, 3) by decide +kernel) (by decide) (fun c17 => ?_) (fun c17 => ?_)
  · rw [if_neg c17] at hf
    refine h.run (o := []) (ls' := [some (.ref 4), some (.ref k1), some (.int x2), some (.int x3), some (.int a1), none]) (st' := [.int 109, .int x3]) (σ' := σ3) [(.iload_n 3, 1, 0, 0, 0, 0), (.bipush 109, 2, 109, 0, 0, 0)] (pc2 := 158) (by decide +kernel) rfl trivial ?_
    refine h.icmp_eq (tgt := 167) (show decode cX2_takesStatement 158 = .ok (.if_icmp .eq 9, 3) by decide +kernel) (by decide) (fun c6 => ?_) (fun c6 => ?_)
    · rw [if_pos c6] at hf
      refine h.drop (ls' := [some (.ref 4), some (.ref k1), none, none, some (.int a1), none]) (And.intro rfl (And.intro rfl (And.intro rfl trivial))) ?_
      exact wX2_takesStatement_167 hm hk1 hf
    · rw [if_neg c6] at hf
      show V 161 [some (.ref 4), some (.ref k1), some (.int x2), some (.int x3), some (.int a1), none] [] σ3
      refine h.run (o := []) (ls' := [some (.ref 4), some (.ref k1), some (.int x2), some (.int x3), some (.int a1), none]) (st' := [.int 120, .int x3]) (σ' := σ3) [(.iload_n 3, 1, 0, 0, 0, 0), (.bipush 120, 2, 120, 0, 0, 0)] (pc2 := 164) (by decide +kernel) rfl trivial ?_
      refine h.icmp_ne (tgt := 227) (show decode cX2_takesStatement 164 = .ok (.if_icmp .ne 63, 3) by decide +kernel) (by decide) (fun c5 => ?_) (fun c5 => ?_)
      · rw [if_neg c5] at hf
        refine h.run (o := []) (ls' := [some (.ref 4), some (.ref k1), some (.int x2), some (.int x3), some (.int a1), none]) (st' := [.int 2, .int a1, .ref k1, .ref 4]) (σ' := σ3) [(.aload_n 0, 1, 0, 0, 0, 0), (.aload_n 1, 1, 0, 0, 0, 0), (.iload 4, 2, 0, 0, 0, 0), (.iconst 2, 1, 2, 0, 0, 0)] (pc2 := 232) (by decide +kernel) rfl trivial ?_
        obtain ⟨a4, σ4, e4, hf⟩ := bI_some hf
        refine h.callV (as := [.ref k1, .int a1, .int 2]) (rest := []) (by decide +kernel) lk2_53 cwX2_takesNumber kd_4 (kmX2_takesNumber l hk1 e4) rfl (Nat.le_of_ble_eq_true rfl) (Nat.le_of_ble_eq_true rfl) (Nat.le_of_ble_eq_true rfl) ?_
        show V 235 [some (.ref 4), some (.ref k1), some (.int x2), some (.int x3), some (.int a1), none] [.int a4] σ4
        refine h.run (o := []) (ls' := [some (.ref 4), some (.ref k1), some (.int x2), some (.int x3), some (.int a1), some (.int a4)]) (st' := []) (σ' := σ4) [(.istore 5, 2, 0, 0, 0, 0)] (pc2 := 237) (by decide +kernel) rfl trivial ?_
        refine h.drop (ls' := [some (.ref 4), some (.ref k1), none, none, none, some (.int a4)]) (And.intro rfl (And.intro rfl (And.intro rfl trivial))) ?_
        exact wX2_takesStatement_237 hm hk1 hf
      · rw [if_pos c5] at hf
        show V 167 [some (.ref 4), some (.ref k1), some (.int x2), some (.int x3), some (.int a1), none] [] σ3
        refine h.drop (ls' := [some (.ref 4), some (.ref k1), none, none, some (.int a1), none]) (And.intro rfl (And.intro rfl (And.intro rfl trivial))) ?_
        exact wX2_takesStatement_167 hm hk1 hf
  · rw [if_pos c17] at hf
    show V 93 [some (.ref 4), some (.ref k1), some (.int x2), some (.int x3), some (.int a1), none] [] σ3
    refine h.run (o := []) (ls' := [some (.ref 4), some (.ref k1), some (.int x2), some (.int x3), some (.int a1), none]) (st' := [.int a1, .ref k1, .ref 4]) (σ' := σ3) [(.aload_n 0, 1, 0, 0, 0, 0), (.aload_n 1, 1, 0, 0, 0, 0), (.iload 4, 2, 0, 0, 0, 0)] (pc2 := 97) (by decide +kernel) rfl trivial ?_
    obtain ⟨a7, σ7, e7, hf⟩ := bI_some hf
    refine h.callV (as := [.ref k1, .int a1]) (rest := []) (by decide +kernel) lk2_46 cwX2_takesDigit kd_4 (kmX2_takesDigit l hk1 e7) rfl (Nat.le_of_ble_eq_true rfl) (Nat.le_of_ble_eq_true rfl) (Nat.le_of_ble_eq_true rfl) ?_
    show V 100 [some (.ref 4), some (.ref k1), some (.int x2), some (.int x3), some (.int a1), none] [.int a7] σ7
    refine h.if_eq (tgt := 149) (show decode cX2_takesStatement 100 = .ok (.ifCond .eq 49, 3) by decide +kernel) (by decide) (fun c16 => ?_) (fun c16 => ?_)
    · rw [if_pos c16] at hf
      refine h.drop (ls' := [some (.ref 4), some (.ref k1), none, none, none, none]) (And.intro rfl (And.intro rfl trivial)) ?_
      exact wX2_takesStatement_149 hm hk1 hf
    · rw [if_neg c16] at hf
      show V 103 [some (.ref 4), some (.ref k1), some (.int x2), some (.int x3), some (.int a1), none] [] σ7
      refine h.run (o := []) (ls' := [some (.ref 4), some (.ref k1), some (.int x2), some (.int x3), some (.int a1), none]) (st' := [.int 32, .ref k1, .ref 4]) (σ' := σ7) [(.aload_n 0, 1, 0, 0, 0, 0), (.aload_n 1, 1, 0, 0, 0, 0), (.bipush 32, 2, 32, 0, 0, 0)] (pc2 := 107) (by decide +kernel) rfl trivial ?_
      obtain ⟨a8, σ8, e8, hf⟩ := bI_some hf
      refine h.callV (as := [.ref k1, .int 32]) (rest := []) (by decide +kernel) lk2_50 cwX2_takes kd_4 (kmX2_takes l hk1 e8) rfl (Nat.le_of_ble_eq_true rfl) (Nat.le_of_ble_eq_true rfl) (Nat.le_of_ble_eq_true rfl) ?_
      show V 110 [some (.ref 4), some (.ref k1), some (.int x2), some (.int x3), some (.int a1), none] [.int a8] σ8
      refine h.if_eq (tgt := 149) (show decode cX2_takesStatement 110 = .ok (.ifCond .eq 39, 3) by decide +kernel) (by decide) (fun c15 => ?_) (fun c15 => ?_)
      · rw [if_pos c15] at hf
        refine h.drop (ls' := [some (.ref 4), some (.ref k1), none, none, none, none]) (And.intro rfl (And.intro rfl trivial)) ?_
        exact wX2_takesStatement_149 hm hk1 hf
      · rw [if_neg c15] at hf
        show V 113 [some (.ref 4), some (.ref k1), some (.int x2), some (.int x3), some (.int a1), none] [] σ8
        refine h.run (o := []) (ls' := [some (.ref 4), some (.ref k1), some (.int x2), some (.int x3), some (.int a1), none]) (st' := [.int 3, .int a1, .ref k1, .ref 4]) (σ' := σ8) [(.aload_n 0, 1, 0, 0, 0, 0), (.aload_n 1, 1, 0, 0, 0, 0), (.iload 4, 2, 0, 0, 0, 0), (.iconst 3, 1, 3, 0, 0, 0)] (pc2 := 118) (by decide +kernel) rfl trivial ?_
        obtain ⟨a9, σ9, e9, hf⟩ := bI_some hf
        refine h.callV (as := [.ref k1, .int a1, .int 3]) (rest := []) (by decide +kernel) lk2_53 cwX2_takesNumber kd_4 (kmX2_takesNumber l hk1 e9) rfl (Nat.le_of_ble_eq_true rfl) (Nat.le_of_ble_eq_true rfl) (Nat.le_of_ble_eq_true rfl) ?_
        show V 121 [some (.ref 4), some (.ref k1), some (.int x2), some (.int x3), some (.int a1), none] [.int a9] σ9
        refine h.if_eq (tgt := 149) (show decode cX2_takesStatement 121 = .ok (.ifCond .eq 28, 3) by decide +kernel) (by decide) (fun c14 => ?_) (fun c14 => ?_)
        · rw [if_pos c14] at hf
          refine h.drop (ls' := [some (.ref 4), some (.ref k1), none, none, none, none]) (And.intro rfl (And.intro rfl trivial)) ?_
          exact wX2_takesStatement_149 hm hk1 hf
        · rw [if_neg c14] at hf
          show V 124 [some (.ref 4), some (.ref k1), some (.int x2), some (.int x3), some (.int a1), none] [] σ9
          refine h.run (o := []) (ls' := [some (.ref 4), some (.ref k1), some (.int x2), some (.int x3), some (.int a1), none]) (st' := [.int 32, .ref k1, .ref 4]) (σ' := σ9) [(.aload_n 0, 1, 0, 0, 0, 0), (.aload_n 1, 1, 0, 0, 0, 0), (.bipush 32, 2, 32, 0, 0, 0)] (pc2 := 128) (by decide +kernel) rfl trivial ?_
          obtain ⟨a10, σ10, e10, hf⟩ := bI_some hf
          refine h.callV (as := [.ref k1, .int 32]) (rest := []) (by decide +kernel) lk2_50 cwX2_takes kd_4 (kmX2_takes l hk1 e10) rfl (Nat.le_of_ble_eq_true rfl) (Nat.le_of_ble_eq_true rfl) (Nat.le_of_ble_eq_true rfl) ?_
          show V 131 [some (.ref 4), some (.ref k1), some (.int x2), some (.int x3), some (.int a1), none] [.int a10] σ10
          refine h.if_eq (tgt := 149) (show decode cX2_takesStatement 131 = .ok (.ifCond .eq 18, 3) by decide +kernel) (by decide) (fun c13 => ?_) (fun c13 => ?_)
          · rw [if_pos c13] at hf
            refine h.drop (ls' := [some (.ref 4), some (.ref k1), none, none, none, none]) (And.intro rfl (And.intro rfl trivial)) ?_
            exact wX2_takesStatement_149 hm hk1 hf
          · rw [if_neg c13] at hf
            show V 134 [some (.ref 4), some (.ref k1), some (.int x2), some (.int x3), some (.int a1), none] [] σ10
            refine h.run (o := []) (ls' := [some (.ref 4), some (.ref k1), some (.int x2), some (.int x3), some (.int a1), none]) (st' := [.int 4, .int a1, .ref k1, .ref 4]) (σ' := σ10) [(.aload_n 0, 1, 0, 0, 0, 0), (.aload_n 1, 1, 0, 0, 0, 0), (.iload 4, 2, 0, 0, 0, 0), (.iconst 4, 1, 4, 0, 0, 0)] (pc2 := 139) (by decide +kernel) rfl trivial ?_
            obtain ⟨a11, σ11, e11, hf⟩ := bI_some hf
            refine h.callV (as := [.ref k1, .int a1, .int 4]) (rest := []) (by decide +kernel) lk2_53 cwX2_takesNumber kd_4 (kmX2_takesNumber l hk1 e11) rfl (Nat.le_of_ble_eq_true rfl) (Nat.le_of_ble_eq_true rfl) (Nat.le_of_ble_eq_true rfl) ?_
            show V 142 [some (.ref 4), some (.ref k1), some (.int x2), some (.int x3), some (.int a1), none] [.int a11] σ11
            refine h.if_eq (tgt := 149) (show decode cX2_takesStatement 142 = .ok (.ifCond .eq 7, 3) by decide +kernel) (by decide) (fun c12 => ?_) (fun c12 => ?_)
            · rw [if_pos c12] at hf
              refine h.drop (ls' := [some (.ref 4), some (.ref k1), none, none, none, none]) (And.intro rfl (And.intro rfl trivial)) ?_
              exact wX2_takesStatement_149 hm hk1 hf
            · rw [if_neg c12] at hf
              show V 145 [some (.ref 4), some (.ref k1), some (.int x2), some (.int x3), some (.int a1), none] [] σ11
              refine h.run (o := []) (ls' := [some (.ref 4), some (.ref k1), some (.int x2), some (.int x3), some (.int a1), none]) (st' := [.int 1]) (σ' := σ11) [(.iconst 1, 1, 1, 0, 0, 0), (.goto 4, 3, 0, 0, 0, 150)] (pc2 := 150) (by decide +kernel) rfl trivial ?_
              refine h.drop (ls' := [some (.ref 4), some (.ref k1), none, none, none, none]) (And.intro rfl (And.intro rfl trivial)) ?_
              exact wX2_takesStatement_150 hm hk1 hf
def fX2_takesStatement (k1 : Nat) (σ : ST) : Option (Int32 × ST) :=
  bR (fX3_read k1 (σ.1 4 1) σ) fun a1 =>
  if a1 = 115 then
    fX2_takesStatement_46 k1 (σ.1 4 1) a1 σ
  else
    if a1 = 109 then
      fX2_takesStatement_46 k1 (σ.1 4 1) a1 σ
    else
      if a1 = 120 then
        fX2_takesStatement_46 k1 (σ.1 4 1) a1 σ
      else
        if a1 = 99 then
          fX2_takesStatement_46 k1 (σ.1 4 1) a1 σ
        else
          if a1 = 116 then
            fX2_takesStatement_46 k1 (σ.1 4 1) a1 σ
          else
            some (0, σ)
set_option maxHeartbeats 4000000 in
theorem kmX2_takesStatement (l : Launch) {k1 : Nat} {σ : ST} {r : Int32} {τ : ST} (hk1 : kd k1 = 3) (hf : fX2_takesStatement k1 σ = some (r, τ)) : KM l yX2_takesStatement cX2_takesStatement 6 (some .boolean) 4 96 [.ref 4, .ref k1] σ (some (.int r)) τ := by
  refine KM.intro (ow := 2) (by decide +kernel) rfl (Nat.le_of_ble_eq_true rfl) (fun V hm => ?_)
  show V 0 [some (.ref 4), some (.ref k1), none, none, none, none] [] σ
  have h := hm.bd
  unfold fX2_takesStatement at hf
  refine h.run (o := [kd 4 = 2, kd 4 = 2]) (ls' := [some (.ref 4), some (.ref k1), some (.int (σ.1 4 1)), none, none, none]) (st' := [.int (σ.1 4 1), .ref k1]) (σ' := σ) [(.aload_n 0, 1, 0, 0, 0, 0), (.getfield 24, 3, 0, 0, 2, 1), (.istore_n 2, 1, 0, 0, 0, 0), (.aload_n 1, 1, 0, 0, 0, 0), (.aload_n 0, 1, 0, 0, 0, 0), (.getfield 24, 3, 0, 0, 2, 1)] (pc2 := 10) (by decide +kernel) rfl (And.intro kd_4 (And.intro kd_4 trivial)) ?_
  obtain ⟨a1, e1, hf⟩ := bR_some hf
  refine h.callV (as := [.int (σ.1 4 1)]) (rest := []) (by decide +kernel) lk2_34 cwX3_read hk1 (kmX3_read l hk1 e1) rfl (Nat.le_of_ble_eq_true rfl) (Nat.le_of_ble_eq_true rfl) (Nat.le_of_ble_eq_true rfl) ?_
  show V 13 [some (.ref 4), some (.ref k1), some (.int (σ.1 4 1)), none, none, none] [.int a1] σ
  refine h.run (o := []) (ls' := [some (.ref 4), some (.ref k1), some (.int (σ.1 4 1)), some (.int a1), none, none]) (st' := [.int 115, .int a1]) (σ' := σ) [(.istore_n 3, 1, 0, 0, 0, 0), (.iload_n 3, 1, 0, 0, 0, 0), (.bipush 115, 2, 115, 0, 0, 0)] (pc2 := 17) (by decide +kernel) rfl trivial ?_
  refine h.icmp_eq (tgt := 46) (show decode cX2_takesStatement 17 = .ok (.if_icmp .eq 29, 3) by decide +kernel) (by decide) (fun c6 => ?_) (fun c6 => ?_)
  · rw [if_pos c6] at hf
    exact wX2_takesStatement_46 hm hk1 hf
  · rw [if_neg c6] at hf
    show V 20 [some (.ref 4), some (.ref k1), some (.int (σ.1 4 1)), some (.int a1), none, none] [] σ
    refine h.run (o := []) (ls' := [some (.ref 4), some (.ref k1), some (.int (σ.1 4 1)), some (.int a1), none, none]) (st' := [.int 109, .int a1]) (σ' := σ) [(.iload_n 3, 1, 0, 0, 0, 0), (.bipush 109, 2, 109, 0, 0, 0)] (pc2 := 23) (by decide +kernel) rfl trivial ?_
    refine h.icmp_eq (tgt := 46) (show decode cX2_takesStatement 23 = .ok (.if_icmp .eq 23, 3) by decide +kernel) (by decide) (fun c5 => ?_) (fun c5 => ?_)
    · rw [if_pos c5] at hf
      exact wX2_takesStatement_46 hm hk1 hf
    · rw [if_neg c5] at hf
      show V 26 [some (.ref 4), some (.ref k1), some (.int (σ.1 4 1)), some (.int a1), none, none] [] σ
      refine h.run (o := []) (ls' := [some (.ref 4), some (.ref k1), some (.int (σ.1 4 1)), some (.int a1), none, none]) (st' := [.int 120, .int a1]) (σ' := σ) [(.iload_n 3, 1, 0, 0, 0, 0), (.bipush 120, 2, 120, 0, 0, 0)] (pc2 := 29) (by decide +kernel) rfl trivial ?_
      refine h.icmp_eq (tgt := 46) (show decode cX2_takesStatement 29 = .ok (.if_icmp .eq 17, 3) by decide +kernel) (by decide) (fun c4 => ?_) (fun c4 => ?_)
      · rw [if_pos c4] at hf
        exact wX2_takesStatement_46 hm hk1 hf
      · rw [if_neg c4] at hf
        show V 32 [some (.ref 4), some (.ref k1), some (.int (σ.1 4 1)), some (.int a1), none, none] [] σ
        refine h.run (o := []) (ls' := [some (.ref 4), some (.ref k1), some (.int (σ.1 4 1)), some (.int a1), none, none]) (st' := [.int 99, .int a1]) (σ' := σ) [(.iload_n 3, 1, 0, 0, 0, 0), (.bipush 99, 2, 99, 0, 0, 0)] (pc2 := 35) (by decide +kernel) rfl trivial ?_
        refine h.icmp_eq (tgt := 46) (show decode cX2_takesStatement 35 = .ok (.if_icmp .eq 11, 3) by decide +kernel) (by decide) (fun c3 => ?_) (fun c3 => ?_)
        · rw [if_pos c3] at hf
          exact wX2_takesStatement_46 hm hk1 hf
        · rw [if_neg c3] at hf
          show V 38 [some (.ref 4), some (.ref k1), some (.int (σ.1 4 1)), some (.int a1), none, none] [] σ
          refine h.run (o := []) (ls' := [some (.ref 4), some (.ref k1), some (.int (σ.1 4 1)), some (.int a1), none, none]) (st' := [.int 116, .int a1]) (σ' := σ) [(.iload_n 3, 1, 0, 0, 0, 0), (.bipush 116, 2, 116, 0, 0, 0)] (pc2 := 41) (by decide +kernel) rfl trivial ?_
          refine h.icmp_eq (tgt := 46) (show decode cX2_takesStatement 41 = .ok (.if_icmp .eq 5, 3) by decide +kernel) (by decide) (fun c2 => ?_) (fun c2 => ?_)
          · rw [if_pos c2] at hf
            exact wX2_takesStatement_46 hm hk1 hf
          · rw [if_neg c2] at hf
            show V 44 [some (.ref 4), some (.ref k1), some (.int (σ.1 4 1)), some (.int a1), none, none] [] σ
            refine h.run (o := []) (ls' := [some (.ref 4), some (.ref k1), some (.int (σ.1 4 1)), some (.int a1), none, none]) (st' := [.int 0]) (σ' := σ) [(.iconst 0, 1, 0, 0, 0, 0)] (pc2 := 45) (by decide +kernel) rfl trivial ?_
            cases hf
            exact hm.zret (by decide +kernel) rfl
def fX2_takesIn_61 (x2 : Int32) (σ : ST) : Option (Int32 × ST) :=
  gd (isb x2) <|
  some (x2, σ)
set_option maxHeartbeats 4000000 in
theorem wX2_takesIn_61 {l : Launch} {V : Nat → List (Option Value) → List Value → ST → Prop} {r : Int32} {τ : ST} {σ : ST} {x2 : Int32} (hm : BM l 2 cX2_takesIn 4 (some .boolean) 5 121 (some (.int r)) τ V) (hf : fX2_takesIn_61 x2 σ = some (r, τ)) : V 61 [none, none, some (.int x2), none] [] σ := by
  have h := hm.bd
  unfold fX2_takesIn_61 at hf
  refine h.run (o := []) (ls' := [none, none, some (.int x2), none]) (st' := [.int x2]) (σ' := σ) [(.iload_n 2, 1, 0, 0, 0, 0)] (pc2 := 62) (by decide +kernel) rfl trivial ?_
  obtain ⟨g1, hf⟩ := gd_some hf
  cases hf
  exact hm.zret (by decide +kernel) g1
def fX2_takesIn_28 (n : Nat) (k1 : Nat) (x2 : Int32) (x3 : Int32) (σ : ST) : Option (Int32 × ST) := match n with
  | 0 => none
  | n + 1 =>
    if 34 ≤ x3 then
      fX2_takesIn_61 x2 σ
    else
      if x2 = 0 then
        fX2_takesIn_61 x2 σ
      else
        if (σ.1 k1 6) ≤ (σ.1 4 1) then
          fX2_takesIn_61 x2 σ
        else
          bI (fX2_takesStatement k1 σ) fun a1 σ1 =>
          fX2_takesIn_28 n k1 a1 (x3 + 1) σ1
set_option maxHeartbeats 4000000 in
theorem wX2_takesIn_28 {l : Launch} {V : Nat → List (Option Value) → List Value → ST → Prop} {r : Int32} {τ : ST} (hm : BM l 2 cX2_takesIn 4 (some .boolean) 5 121 (some (.int r)) τ V) : ∀ (n : Nat) (k1 : Nat) (x2 : Int32) (x3 : Int32) (σ : ST) (hk1 : kd k1 = 3), fX2_takesIn_28 n k1 x2 x3 σ = some (r, τ) → V 28 [some (.ref 4), some (.ref k1), some (.int x2), some (.int x3)] [] σ := by
  have h := hm.bd
  intro n
  induction n with
  | zero => intro k1 x2 x3 σ hk1 hf; cases hf
  | succ n ih =>
    intro k1 x2 x3 σ hk1 hf
    rw [fX2_takesIn_28] at hf
    refine h.run (o := []) (ls' := [some (.ref 4), some (.ref k1), some (.int x2), some (.int x3)]) (st' := [.int 34, .int x3]) (σ' := σ) [(.iload_n 3, 1, 0, 0, 0, 0), (.bipush 34, 2, 34, 0, 0, 0)] (pc2 := 31) (by decide +kernel) rfl trivial ?_
    refine h.icmp_ge (tgt := 61) (show decode cX2_takesIn 31 = .ok (.if_icmp .ge 30, 3) by decide +kernel) (by decide) (fun c4 => ?_) (fun c4 => ?_)
    · rw [if_pos c4] at hf
      refine h.drop (ls' := [none, none, some (.int x2), none]) (And.intro rfl trivial) ?_
      exact wX2_takesIn_61 hm hf
    · rw [if_neg c4] at hf
      show V 34 [some (.ref 4), some (.ref k1), some (.int x2), some (.int x3)] [] σ
      refine h.run (o := []) (ls' := [some (.ref 4), some (.ref k1), some (.int x2), some (.int x3)]) (st' := [.int x2]) (σ' := σ) [(.iload_n 2, 1, 0, 0, 0, 0)] (pc2 := 35) (by decide +kernel) rfl trivial ?_
      refine h.if_eq (tgt := 61) (show decode cX2_takesIn 35 = .ok (.ifCond .eq 26, 3) by decide +kernel) (by decide) (fun c3 => ?_) (fun c3 => ?_)
      · rw [if_pos c3] at hf
        refine h.drop (ls' := [none, none, some (.int x2), none]) (And.intro rfl trivial) ?_
        exact wX2_takesIn_61 hm hf
      · rw [if_neg c3] at hf
        show V 38 [some (.ref 4), some (.ref k1), some (.int x2), some (.int x3)] [] σ
        refine h.run (o := [kd 4 = 2, kd k1 = 3]) (ls' := [some (.ref 4), some (.ref k1), some (.int x2), some (.int x3)]) (st' := [.int (σ.1 k1 6), .int (σ.1 4 1)]) (σ' := σ) [(.aload_n 0, 1, 0, 0, 0, 0), (.getfield 24, 3, 0, 0, 2, 1), (.aload_n 1, 1, 0, 0, 0, 0), (.getfield 27, 3, 0, 0, 3, 6)] (pc2 := 46) (by decide +kernel) rfl (And.intro kd_4 (And.intro hk1 trivial)) ?_
        refine h.icmp_ge (tgt := 61) (show decode cX2_takesIn 46 = .ok (.if_icmp .ge 15, 3) by decide +kernel) (by decide) (fun c2 => ?_) (fun c2 => ?_)
        · rw [if_pos c2] at hf
          refine h.drop (ls' := [none, none, some (.int x2), none]) (And.intro rfl trivial) ?_
          exact wX2_takesIn_61 hm hf
        · rw [if_neg c2] at hf
          show V 49 [some (.ref 4), some (.ref k1), some (.int x2), some (.int x3)] [] σ
          refine h.run (o := []) (ls' := [some (.ref 4), some (.ref k1), some (.int x2), some (.int x3)]) (st' := [.ref k1, .ref 4]) (σ' := σ) [(.aload_n 0, 1, 0, 0, 0, 0), (.aload_n 1, 1, 0, 0, 0, 0)] (pc2 := 51) (by decide +kernel) rfl trivial ?_
          obtain ⟨a1, σ1, e1, hf⟩ := bI_some hf
          refine h.callV (as := [.ref k1]) (rest := []) (by decide +kernel) lk2_30 cwX2_takesStatement kd_4 (kmX2_takesStatement l hk1 e1) rfl (Nat.le_of_ble_eq_true rfl) (Nat.le_of_ble_eq_true rfl) (Nat.le_of_ble_eq_true rfl) ?_
          show V 54 [some (.ref 4), some (.ref k1), some (.int x2), some (.int x3)] [.int a1] σ1
          refine h.run (o := []) (ls' := [some (.ref 4), some (.ref k1), some (.int a1), some (.int (x3 + 1))]) (st' := []) (σ' := σ1) [(.istore_n 2, 1, 0, 0, 0, 0), (.iinc 3 1, 3, 1, 0, 0, 0), (.goto (-30), 3, 0, 0, 0, 28)] (pc2 := 28) (by decide +kernel) rfl trivial ?_
          exact ih k1 a1 (x3 + 1) _ hk1 hf
def fX2_takesIn_25 (k1 : Nat) (t0 : Int32) (σ : ST) : Option (Int32 × ST) :=
  fX2_takesIn_28 FU k1 t0 0 σ
set_option maxHeartbeats 4000000 in
theorem wX2_takesIn_25 {l : Launch} {V : Nat → List (Option Value) → List Value → ST → Prop} {r : Int32} {τ : ST} {σ : ST} {k1 : Nat} {t0 : Int32} (hm : BM l 2 cX2_takesIn 4 (some .boolean) 5 121 (some (.int r)) τ V) (hk1 : kd k1 = 3) (hf : fX2_takesIn_25 k1 t0 σ = some (r, τ)) : V 25 [some (.ref 4), some (.ref k1), none, none] [.int t0] σ := by
  have h := hm.bd
  unfold fX2_takesIn_25 at hf
  refine h.run (o := []) (ls' := [some (.ref 4), some (.ref k1), some (.int t0), some (.int 0)]) (st' := []) (σ' := σ) [(.istore_n 2, 1, 0, 0, 0, 0), (.iconst 0, 1, 0, 0, 0, 0), (.istore_n 3, 1, 0, 0, 0, 0)] (pc2 := 28) (by decide +kernel) rfl trivial ?_
  exact wX2_takesIn_28 hm FU k1 t0 0 _ hk1 hf
def fX2_takesIn (k1 : Nat) (σ : ST) : Option (Int32 × ST) :=
  if ((setI (setI σ 18 3 0) 4 1 0).1 k1 6) ≤ 0 then
    fX2_takesIn_25 k1 0 (setI (setI σ 18 3 0) 4 1 0)
  else
    fX2_takesIn_25 k1 1 (setI (setI σ 18 3 0) 4 1 0)
set_option maxHeartbeats 4000000 in
theorem kmX2_takesIn (l : Launch) {k1 : Nat} {σ : ST} {r : Int32} {τ : ST} (hk1 : kd k1 = 3) (hf : fX2_takesIn k1 σ = some (r, τ)) : KM l yX2_takesIn cX2_takesIn 4 (some .boolean) 5 121 [.ref 4, .ref k1] σ (some (.int r)) τ := by
  refine KM.intro (ow := 2) (by decide +kernel) rfl (Nat.le_of_ble_eq_true rfl) (fun V hm => ?_)
  show V 0 [some (.ref 4), some (.ref k1), none, none] [] σ
  have h := hm.bd
  unfold fX2_takesIn at hf
  refine h.run (o := [kd 4 = 2, kd 18 = 4, kd 4 = 2, kd k1 = 3]) (ls' := [some (.ref 4), some (.ref k1), none, none]) (st' := [.int ((setI (setI σ 18 3 0) 4 1 0).1 k1 6)]) (σ' := setI (setI σ 18 3 0) 4 1 0) [(.aload_n 0, 1, 0, 0, 0, 0), (.getfield 14, 3, 0, 0, 2, 0), (.iconst 0, 1, 0, 0, 0, 0), (.putfield 20, 3, 0, 0, 4, 3), (.aload_n 0, 1, 0, 0, 0, 0), (.iconst 0, 1, 0, 0, 0, 0), (.putfield 24, 3, 0, 0, 2, 1), (.aload_n 1, 1, 0, 0, 0, 0), (.getfield 27, 3, 0, 0, 3, 6)] (pc2 := 17) (by decide +kernel) rfl (And.intro kd_4 (And.intro kd_18 (And.intro kd_4 (And.intro hk1 trivial)))) ?_
  refine h.if_le (tgt := 24) (show decode cX2_takesIn 17 = .ok (.ifCond .le 7, 3) by decide +kernel) (by decide) (fun c1 => ?_) (fun c1 => ?_)
  · rw [if_pos c1] at hf
    refine h.run (o := []) (ls' := [some (.ref 4), some (.ref k1), none, none]) (st' := [.int 0]) (σ' := setI (setI σ 18 3 0) 4 1 0) [(.iconst 0, 1, 0, 0, 0, 0)] (pc2 := 25) (by decide +kernel) rfl trivial ?_
    exact wX2_takesIn_25 hm hk1 hf
  · rw [if_neg c1] at hf
    show V 20 [some (.ref 4), some (.ref k1), none, none] [] (setI (setI σ 18 3 0) 4 1 0)
    refine h.run (o := []) (ls' := [some (.ref 4), some (.ref k1), none, none]) (st' := [.int 1]) (σ' := setI (setI σ 18 3 0) 4 1 0) [(.iconst 1, 1, 1, 0, 0, 0), (.goto 4, 3, 0, 0, 0, 25)] (pc2 := 25) (by decide +kernel) rfl trivial ?_
    exact wX2_takesIn_25 hm hk1 hf
end
section
/-! Printed by wip/whole/prt.py: functions and walks. -/
def fX5_shelfAt_23 (o0 : Option Nat) (σ : ST) : Option (Option Nat) :=
  some o0
set_option maxHeartbeats 4000000 in
theorem wX5_shelfAt_23 {l : Launch} {V : Nat → List (Option Value) → List Value → ST → Prop} {r : Option Nat} {σ : ST} {o0 : Option Nat} (hm : BM l 5 cX5_shelfAt 2 (some (.object "ThreeTimes$Shelf")) 0 0 (some (va_rf r)) σ V) (hf : fX5_shelfAt_23 o0 σ = some r) : V 23 [none, none] [va_rf o0] σ := by
  have h := hm.bd
  unfold fX5_shelfAt_23 at hf
  obtain rfl := Option.some.inj hf
  exact hm.aret (by decide +kernel)
def fX5_shelfAt_22 (σ : ST) : Option (Option Nat) :=
  fX5_shelfAt_23 none σ
set_option maxHeartbeats 4000000 in
theorem wX5_shelfAt_22 {l : Launch} {V : Nat → List (Option Value) → List Value → ST → Prop} {r : Option Nat} {σ : ST} (hm : BM l 5 cX5_shelfAt 2 (some (.object "ThreeTimes$Shelf")) 0 0 (some (va_rf r)) σ V) (hf : fX5_shelfAt_22 σ = some r) : V 22 [none, none] [] σ := by
  have h := hm.bd
  unfold fX5_shelfAt_22 at hf
  refine h.run (o := []) (ls' := [none, none]) (st' := [.null]) (σ' := σ) [(.aconst_null, 1, 0, 0, 0, 0)] (pc2 := 23) (by decide +kernel) rfl trivial ?_
  exact wX5_shelfAt_23 hm hf
def fX5_shelfAt (x1 : Int32) (σ : ST) : Option (Option Nat) :=
  if x1 < 0 then
    fX5_shelfAt_22 σ
  else
    if (Int32.ofNat (alen 5)) ≤ x1 then
      fX5_shelfAt_22 σ
    else
      gd (inb x1 8) <|
      fX5_shelfAt_23 (some (20 + 2 * x1.toNatClampNeg)) σ
set_option maxHeartbeats 4000000 in
theorem kmX5_shelfAt (l : Launch) {x1 : Int32} {σ : ST} {r : Option Nat} (hf : fX5_shelfAt x1 σ = some r) : KM l yX5_shelfAt cX5_shelfAt 2 (some (.object "ThreeTimes$Shelf")) 0 0 [.ref 0, .int x1] σ (some (va_rf r)) σ := by
  refine KM.intro (ow := 5) (by decide +kernel) rfl (Nat.le_of_ble_eq_true rfl) (fun V hm => ?_)
  show V 0 [some (.ref 0), some (.int x1)] [] σ
  have h := hm.bd
  unfold fX5_shelfAt at hf
  refine h.run (o := []) (ls' := [some (.ref 0), some (.int x1)]) (st' := [.int x1]) (σ' := σ) [(.iload_n 1, 1, 0, 0, 0, 0)] (pc2 := 1) (by decide +kernel) rfl trivial ?_
  refine h.if_lt (tgt := 22) (show decode cX5_shelfAt 1 = .ok (.ifCond .lt 21, 3) by decide +kernel) (by decide) (fun c3 => ?_) (fun c3 => ?_)
  · rw [if_pos c3] at hf
    refine h.drop (ls' := [none, none]) trivial ?_
    exact wX5_shelfAt_22 hm hf
  · rw [if_neg c3] at hf
    show V 4 [some (.ref 0), some (.int x1)] [] σ
    refine h.run (o := [kd 0 = 5, kd 5 = 13]) (ls' := [some (.ref 0), some (.int x1)]) (st' := [.int (Int32.ofNat (alen 5)), .int x1]) (σ' := σ) [(.iload_n 1, 1, 0, 0, 0, 0), (.aload_n 0, 1, 0, 0, 0, 0), (.getfield 39, 3, 0, 0, 5, 5), (.arraylength, 1, 0, 0, 13, 0)] (pc2 := 10) (by decide +kernel) rfl (And.intro kd_0 (And.intro kd_5 trivial)) ?_
    refine h.icmp_ge (tgt := 22) (show decode cX5_shelfAt 10 = .ok (.if_icmp .ge 12, 3) by decide +kernel) (by decide) (fun c2 => ?_) (fun c2 => ?_)
    · rw [if_pos c2] at hf
      refine h.drop (ls' := [none, none]) trivial ?_
      exact wX5_shelfAt_22 hm hf
    · rw [if_neg c2] at hf
      show V 13 [some (.ref 0), some (.int x1)] [] σ
      obtain ⟨g1, hf⟩ := gd_some hf
      refine h.run (o := [kd 0 = 5, kd 5 = 13, inb x1 8 = true]) (ls' := [some (.ref 0), some (.int x1)]) (st' := [.ref (20 + 2 * x1.toNatClampNeg)]) (σ' := σ) [(.aload_n 0, 1, 0, 0, 0, 0), (.getfield 39, 3, 0, 0, 5, 5), (.iload_n 1, 1, 0, 0, 0, 0), (.aaload, 1, 0, 0, 0, 0), (.goto 4, 3, 0, 0, 0, 23)] (pc2 := 23) (by decide +kernel) rfl (And.intro kd_0 (And.intro kd_5 (And.intro g1 trivial))) ?_
      refine h.drop (ls' := [none, none]) trivial ?_
      exact wX5_shelfAt_23 hm hf
theorem kd_sh : ∀ n, n < 8 → kd (20 + 2 * n) = 3 := by decide +kernel
theorem shelfAt_kd {x1 : Int32} {σ : ST} {k : Nat} (h : fX5_shelfAt x1 σ = some (some k)) : kd k = 3 := by
  unfold fX5_shelfAt fX5_shelfAt_22 fX5_shelfAt_23 at h
  split at h
  · cases h
  · split at h
    · cases h
    · obtain ⟨g, h⟩ := gd_some h
      cases h
      simp only [inb, Bool.and_eq_true, decide_eq_true_eq] at g
      exact kd_sh _ g.2
def fX5_isSenderAsTold_38 (t0 : Int32) (σ : ST) : Option Int32 :=
  gd (isb t0) <|
  some t0
set_option maxHeartbeats 4000000 in
theorem wX5_isSenderAsTold_38 {l : Launch} {V : Nat → List (Option Value) → List Value → ST → Prop} {r : Int32} {σ : ST} {t0 : Int32} (hm : BM l 5 cX5_isSenderAsTold 2 (some .boolean) 2 46 (some (.int r)) σ V) (hf : fX5_isSenderAsTold_38 t0 σ = some r) : V 38 [none, none] [.int t0] σ := by
  have h := hm.bd
  unfold fX5_isSenderAsTold_38 at hf
  obtain ⟨g1, hf⟩ := gd_some hf
  obtain rfl := Option.some.inj hf
  exact hm.zret (by decide +kernel) g1
def fX5_isSenderAsTold_37 (σ : ST) : Option Int32 :=
  fX5_isSenderAsTold_38 0 σ
set_option maxHeartbeats 4000000 in
theorem wX5_isSenderAsTold_37 {l : Launch} {V : Nat → List (Option Value) → List Value → ST → Prop} {r : Int32} {σ : ST} (hm : BM l 5 cX5_isSenderAsTold 2 (some .boolean) 2 46 (some (.int r)) σ V) (hf : fX5_isSenderAsTold_37 σ = some r) : V 37 [none, none] [] σ := by
  have h := hm.bd
  unfold fX5_isSenderAsTold_37 at hf
  refine h.run (o := []) (ls' := [none, none]) (st' := [.int 0]) (σ' := σ) [(.iconst 0, 1, 0, 0, 0, 0)] (pc2 := 38) (by decide +kernel) rfl trivial ?_
  exact wX5_isSenderAsTold_38 hm hf
def fX5_isSenderAsTold (k0 : Nat) (x1 : Int32) (σ : ST) : Option Int32 :=
  bR (fX4_read k0 x1 2 σ) fun a1 =>
  if 7 < a1 then
    fX5_isSenderAsTold_37 σ
  else
    bR (fX4_read k0 x1 3 σ) fun a2 =>
    if 20 < a2 then
      fX5_isSenderAsTold_37 σ
    else
      bR (fX4_read k0 x1 4 σ) fun a3 =>
      if 100 < a3 then
        fX5_isSenderAsTold_37 σ
      else
        fX5_isSenderAsTold_38 1 σ
set_option maxHeartbeats 4000000 in
theorem kmX5_isSenderAsTold (l : Launch) {k0 : Nat} {x1 : Int32} {σ : ST} {r : Int32} (hk0 : kd k0 = 4) (hf : fX5_isSenderAsTold k0 x1 σ = some r) : KM l yX5_isSenderAsTold cX5_isSenderAsTold 2 (some .boolean) 2 46 [.ref k0, .int x1] σ (some (.int r)) σ := by
  refine KM.intro (ow := 5) (by decide +kernel) rfl (Nat.le_of_ble_eq_true rfl) (fun V hm => ?_)
  show V 0 [some (.ref k0), some (.int x1)] [] σ
  have h := hm.bd
  unfold fX5_isSenderAsTold at hf
  refine h.run (o := []) (ls' := [some (.ref k0), some (.int x1)]) (st' := [.int 2, .int x1, .ref k0]) (σ' := σ) [(.aload_n 0, 1, 0, 0, 0, 0), (.iload_n 1, 1, 0, 0, 0, 0), (.iconst 2, 1, 2, 0, 0, 0)] (pc2 := 3) (by decide +kernel) rfl trivial ?_
  obtain ⟨a1, e1, hf⟩ := bR_some hf
  refine h.callV (as := [.int x1, .int 2]) (rest := []) (by decide +kernel) lk5_87 cwX4_read hk0 (kmX4_read l hk0 e1) rfl (Nat.le_of_ble_eq_true rfl) (Nat.le_of_ble_eq_true rfl) (Nat.le_of_ble_eq_true rfl) ?_
  show V 6 [some (.ref k0), some (.int x1)] [.int a1] σ
  refine h.run (o := []) (ls' := [some (.ref k0), some (.int x1)]) (st' := [.int 7, .int a1]) (σ' := σ) [(.bipush 7, 2, 7, 0, 0, 0)] (pc2 := 8) (by decide +kernel) rfl trivial ?_
  refine h.icmp_gt (tgt := 37) (show decode cX5_isSenderAsTold 8 = .ok (.if_icmp .gt 29, 3) by decide +kernel) (by decide) (fun c6 => ?_) (fun c6 => ?_)
  · rw [if_pos c6] at hf
    refine h.drop (ls' := [none, none]) trivial ?_
    exact wX5_isSenderAsTold_37 hm hf
  · rw [if_neg c6] at hf
    show V 11 [some (.ref k0), some (.int x1)] [] σ
    refine h.run (o := []) (ls' := [some (.ref k0), some (.int x1)]) (st' := [.int 3, .int x1, .ref k0]) (σ' := σ) [(.aload_n 0, 1, 0, 0, 0, 0), (.iload_n 1, 1, 0, 0, 0, 0), (.iconst 3, 1, 3, 0, 0, 0)] (pc2 := 14) (by decide +kernel) rfl trivial ?_
    obtain ⟨a2, e2, hf⟩ := bR_some hf
    refine h.callV (as := [.int x1, .int 3]) (rest := []) (by decide +kernel) lk5_87 cwX4_read hk0 (kmX4_read l hk0 e2) rfl (Nat.le_of_ble_eq_true rfl) (Nat.le_of_ble_eq_true rfl) (Nat.le_of_ble_eq_true rfl) ?_
    show V 17 [some (.ref k0), some (.int x1)] [.int a2] σ
    refine h.run (o := []) (ls' := [some (.ref k0), some (.int x1)]) (st' := [.int 20, .int a2]) (σ' := σ) [(.bipush 20, 2, 20, 0, 0, 0)] (pc2 := 19) (by decide +kernel) rfl trivial ?_
    refine h.icmp_gt (tgt := 37) (show decode cX5_isSenderAsTold 19 = .ok (.if_icmp .gt 18, 3) by decide +kernel) (by decide) (fun c5 => ?_) (fun c5 => ?_)
    · rw [if_pos c5] at hf
      refine h.drop (ls' := [none, none]) trivial ?_
      exact wX5_isSenderAsTold_37 hm hf
    · rw [if_neg c5] at hf
      show V 22 [some (.ref k0), some (.int x1)] [] σ
      refine h.run (o := []) (ls' := [some (.ref k0), some (.int x1)]) (st' := [.int 4, .int x1, .ref k0]) (σ' := σ) [(.aload_n 0, 1, 0, 0, 0, 0), (.iload_n 1, 1, 0, 0, 0, 0), (.iconst 4, 1, 4, 0, 0, 0)] (pc2 := 25) (by decide +kernel) rfl trivial ?_
      obtain ⟨a3, e3, hf⟩ := bR_some hf
      refine h.callV (as := [.int x1, .int 4]) (rest := []) (by decide +kernel) lk5_87 cwX4_read hk0 (kmX4_read l hk0 e3) rfl (Nat.le_of_ble_eq_true rfl) (Nat.le_of_ble_eq_true rfl) (Nat.le_of_ble_eq_true rfl) ?_
      show V 28 [some (.ref k0), some (.int x1)] [.int a3] σ
      refine h.run (o := []) (ls' := [some (.ref k0), some (.int x1)]) (st' := [.int 100, .int a3]) (σ' := σ) [(.bipush 100, 2, 100, 0, 0, 0)] (pc2 := 30) (by decide +kernel) rfl trivial ?_
      refine h.icmp_gt (tgt := 37) (show decode cX5_isSenderAsTold 30 = .ok (.if_icmp .gt 7, 3) by decide +kernel) (by decide) (fun c4 => ?_) (fun c4 => ?_)
      · rw [if_pos c4] at hf
        refine h.drop (ls' := [none, none]) trivial ?_
        exact wX5_isSenderAsTold_37 hm hf
      · rw [if_neg c4] at hf
        show V 33 [some (.ref k0), some (.int x1)] [] σ
        refine h.run (o := []) (ls' := [some (.ref k0), some (.int x1)]) (st' := [.int 1]) (σ' := σ) [(.iconst 1, 1, 1, 0, 0, 0), (.goto 4, 3, 0, 0, 0, 38)] (pc2 := 38) (by decide +kernel) rfl trivial ?_
        refine h.drop (ls' := [none, none]) trivial ?_
        exact wX5_isSenderAsTold_38 hm hf
def fX5_isReturnerAsTold_49 (t0 : Int32) (σ : ST) : Option Int32 :=
  gd (isb t0) <|
  some t0
set_option maxHeartbeats 4000000 in
theorem wX5_isReturnerAsTold_49 {l : Launch} {V : Nat → List (Option Value) → List Value → ST → Prop} {r : Int32} {σ : ST} {t0 : Int32} (hm : BM l 5 cX5_isReturnerAsTold 2 (some .boolean) 2 46 (some (.int r)) σ V) (hf : fX5_isReturnerAsTold_49 t0 σ = some r) : V 49 [none, none] [.int t0] σ := by
  have h := hm.bd
  unfold fX5_isReturnerAsTold_49 at hf
  obtain ⟨g1, hf⟩ := gd_some hf
  obtain rfl := Option.some.inj hf
  exact hm.zret (by decide +kernel) g1
def fX5_isReturnerAsTold_48 (σ : ST) : Option Int32 :=
  fX5_isReturnerAsTold_49 0 σ
set_option maxHeartbeats 4000000 in
theorem wX5_isReturnerAsTold_48 {l : Launch} {V : Nat → List (Option Value) → List Value → ST → Prop} {r : Int32} {σ : ST} (hm : BM l 5 cX5_isReturnerAsTold 2 (some .boolean) 2 46 (some (.int r)) σ V) (hf : fX5_isReturnerAsTold_48 σ = some r) : V 48 [none, none] [] σ := by
  have h := hm.bd
  unfold fX5_isReturnerAsTold_48 at hf
  refine h.run (o := []) (ls' := [none, none]) (st' := [.int 0]) (σ' := σ) [(.iconst 0, 1, 0, 0, 0, 0)] (pc2 := 49) (by decide +kernel) rfl trivial ?_
  exact wX5_isReturnerAsTold_49 hm hf
def fX5_isReturnerAsTold (k0 : Nat) (x1 : Int32) (σ : ST) : Option Int32 :=
  bR (fX4_read k0 x1 2 σ) fun a1 =>
  if 100 < a1 then
    fX5_isReturnerAsTold_48 σ
  else
    bR (fX4_read k0 x1 3 σ) fun a2 =>
    if 100 < a2 then
      fX5_isReturnerAsTold_48 σ
    else
      bR (fX4_read k0 x1 4 σ) fun a3 =>
      if 100 < a3 then
        fX5_isReturnerAsTold_48 σ
      else
        bR (fX4_read k0 x1 5 σ) fun a4 =>
        if 100 < a4 then
          fX5_isReturnerAsTold_48 σ
        else
          fX5_isReturnerAsTold_49 1 σ
set_option maxHeartbeats 4000000 in
theorem kmX5_isReturnerAsTold (l : Launch) {k0 : Nat} {x1 : Int32} {σ : ST} {r : Int32} (hk0 : kd k0 = 4) (hf : fX5_isReturnerAsTold k0 x1 σ = some r) : KM l yX5_isReturnerAsTold cX5_isReturnerAsTold 2 (some .boolean) 2 46 [.ref k0, .int x1] σ (some (.int r)) σ := by
  refine KM.intro (ow := 5) (by decide +kernel) rfl (Nat.le_of_ble_eq_true rfl) (fun V hm => ?_)
  show V 0 [some (.ref k0), some (.int x1)] [] σ
  have h := hm.bd
  unfold fX5_isReturnerAsTold at hf
  refine h.run (o := []) (ls' := [some (.ref k0), some (.int x1)]) (st' := [.int 2, .int x1, .ref k0]) (σ' := σ) [(.aload_n 0, 1, 0, 0, 0, 0), (.iload_n 1, 1, 0, 0, 0, 0), (.iconst 2, 1, 2, 0, 0, 0)] (pc2 := 3) (by decide +kernel) rfl trivial ?_
  obtain ⟨a1, e1, hf⟩ := bR_some hf
  refine h.callV (as := [.int x1, .int 2]) (rest := []) (by decide +kernel) lk5_87 cwX4_read hk0 (kmX4_read l hk0 e1) rfl (Nat.le_of_ble_eq_true rfl) (Nat.le_of_ble_eq_true rfl) (Nat.le_of_ble_eq_true rfl) ?_
  show V 6 [some (.ref k0), some (.int x1)] [.int a1] σ
  refine h.run (o := []) (ls' := [some (.ref k0), some (.int x1)]) (st' := [.int 100, .int a1]) (σ' := σ) [(.bipush 100, 2, 100, 0, 0, 0)] (pc2 := 8) (by decide +kernel) rfl trivial ?_
  refine h.icmp_gt (tgt := 48) (show decode cX5_isReturnerAsTold 8 = .ok (.if_icmp .gt 40, 3) by decide +kernel) (by decide) (fun c8 => ?_) (fun c8 => ?_)
  · rw [if_pos c8] at hf
    refine h.drop (ls' := [none, none]) trivial ?_
    exact wX5_isReturnerAsTold_48 hm hf
  · rw [if_neg c8] at hf
    show V 11 [some (.ref k0), some (.int x1)] [] σ
    refine h.run (o := []) (ls' := [some (.ref k0), some (.int x1)]) (st' := [.int 3, .int x1, .ref k0]) (σ' := σ) [(.aload_n 0, 1, 0, 0, 0, 0), (.iload_n 1, 1, 0, 0, 0, 0), (.iconst 3, 1, 3, 0, 0, 0)] (pc2 := 14) (by decide +kernel) rfl trivial ?_
    obtain ⟨a2, e2, hf⟩ := bR_some hf
    refine h.callV (as := [.int x1, .int 3]) (rest := []) (by decide +kernel) lk5_87 cwX4_read hk0 (kmX4_read l hk0 e2) rfl (Nat.le_of_ble_eq_true rfl) (Nat.le_of_ble_eq_true rfl) (Nat.le_of_ble_eq_true rfl) ?_
    show V 17 [some (.ref k0), some (.int x1)] [.int a2] σ
    refine h.run (o := []) (ls' := [some (.ref k0), some (.int x1)]) (st' := [.int 100, .int a2]) (σ' := σ) [(.bipush 100, 2, 100, 0, 0, 0)] (pc2 := 19) (by decide +kernel) rfl trivial ?_
    refine h.icmp_gt (tgt := 48) (show decode cX5_isReturnerAsTold 19 = .ok (.if_icmp .gt 29, 3) by decide +kernel) (by decide) (fun c7 => ?_) (fun c7 => ?_)
    · rw [if_pos c7] at hf
      refine h.drop (ls' := [none, none]) trivial ?_
      exact wX5_isReturnerAsTold_48 hm hf
    · rw [if_neg c7] at hf
      show V 22 [some (.ref k0), some (.int x1)] [] σ
      refine h.run (o := []) (ls' := [some (.ref k0), some (.int x1)]) (st' := [.int 4, .int x1, .ref k0]) (σ' := σ) [(.aload_n 0, 1, 0, 0, 0, 0), (.iload_n 1, 1, 0, 0, 0, 0), (.iconst 4, 1, 4, 0, 0, 0)] (pc2 := 25) (by decide +kernel) rfl trivial ?_
      obtain ⟨a3, e3, hf⟩ := bR_some hf
      refine h.callV (as := [.int x1, .int 4]) (rest := []) (by decide +kernel) lk5_87 cwX4_read hk0 (kmX4_read l hk0 e3) rfl (Nat.le_of_ble_eq_true rfl) (Nat.le_of_ble_eq_true rfl) (Nat.le_of_ble_eq_true rfl) ?_
      show V 28 [some (.ref k0), some (.int x1)] [.int a3] σ
      refine h.run (o := []) (ls' := [some (.ref k0), some (.int x1)]) (st' := [.int 100, .int a3]) (σ' := σ) [(.bipush 100, 2, 100, 0, 0, 0)] (pc2 := 30) (by decide +kernel) rfl trivial ?_
      refine h.icmp_gt (tgt := 48) (show decode cX5_isReturnerAsTold 30 = .ok (.if_icmp .gt 18, 3) by decide +kernel) (by decide) (fun c6 => ?_) (fun c6 => ?_)
      · rw [if_pos c6] at hf
        refine h.drop (ls' := [none, none]) trivial ?_
        exact wX5_isReturnerAsTold_48 hm hf
      · rw [if_neg c6] at hf
        show V 33 [some (.ref k0), some (.int x1)] [] σ
        refine h.run (o := []) (ls' := [some (.ref k0), some (.int x1)]) (st' := [.int 5, .int x1, .ref k0]) (σ' := σ) [(.aload_n 0, 1, 0, 0, 0, 0), (.iload_n 1, 1, 0, 0, 0, 0), (.iconst 5, 1, 5, 0, 0, 0)] (pc2 := 36) (by decide +kernel) rfl trivial ?_
        obtain ⟨a4, e4, hf⟩ := bR_some hf
        refine h.callV (as := [.int x1, .int 5]) (rest := []) (by decide +kernel) lk5_87 cwX4_read hk0 (kmX4_read l hk0 e4) rfl (Nat.le_of_ble_eq_true rfl) (Nat.le_of_ble_eq_true rfl) (Nat.le_of_ble_eq_true rfl) ?_
        show V 39 [some (.ref k0), some (.int x1)] [.int a4] σ
        refine h.run (o := []) (ls' := [some (.ref k0), some (.int x1)]) (st' := [.int 100, .int a4]) (σ' := σ) [(.bipush 100, 2, 100, 0, 0, 0)] (pc2 := 41) (by decide +kernel) rfl trivial ?_
        refine h.icmp_gt (tgt := 48) (show decode cX5_isReturnerAsTold 41 = .ok (.if_icmp .gt 7, 3) by decide +kernel) (by decide) (fun c5 => ?_) (fun c5 => ?_)
        · rw [if_pos c5] at hf
          refine h.drop (ls' := [none, none]) trivial ?_
          exact wX5_isReturnerAsTold_48 hm hf
        · rw [if_neg c5] at hf
          show V 44 [some (.ref k0), some (.int x1)] [] σ
          refine h.run (o := []) (ls' := [some (.ref k0), some (.int x1)]) (st' := [.int 1]) (σ' := σ) [(.iconst 1, 1, 1, 0, 0, 0), (.goto 4, 3, 0, 0, 0, 49)] (pc2 := 49) (by decide +kernel) rfl trivial ?_
          refine h.drop (ls' := [none, none]) trivial ?_
          exact wX5_isReturnerAsTold_49 hm hf
def fX5_placeOfUntold_177 (kt_25 : Nat → Int32 → Int32 → Int32 → Option Int32) (k1 : Nat) (x2 : Int32) (x3 : Int32) (x4 : Int32) (x6 : Int32) (σ : ST) : Option Int32 :=
  if x6 = 0 then
    bR (fX4_read k1 x4 0 σ) fun a1 =>
    some a1
  else
    kt_25 k1 x2 x3 (x4 + 1)
set_option maxHeartbeats 4000000 in
theorem wX5_placeOfUntold_177 {l : Launch} {V : Nat → List (Option Value) → List Value → ST → Prop} {r : Int32} {σ : ST} {k1 : Nat} {x2 : Int32} {x3 : Int32} {x4 : Int32} {x6 : Int32} {kt_25 : Nat → Int32 → Int32 → Int32 → Option Int32} (hm : BM l 5 cX5_placeOfUntold 9 (some .int) 3 67 (some (.int r)) σ V) (hkt_25 : ∀ (k1 : Nat) (x2 : Int32) (x3 : Int32) (x4 : Int32), kd k1 = 4 → kt_25 k1 x2 x3 x4 = some r → V 25 [some (.ref 0), some (.ref k1), some (.int x2), some (.int x3), some (.int x4), none, none, none, none] [] σ) (hk1 : kd k1 = 4) (hf : fX5_placeOfUntold_177 kt_25 k1 x2 x3 x4 x6 σ = some r) : V 177 [some (.ref 0), some (.ref k1), some (.int x2), some (.int x3), some (.int x4), none, some (.int x6), none, none] [] σ := by
  have h := hm.bd
  unfold fX5_placeOfUntold_177 at hf
  refine h.run (o := []) (ls' := [some (.ref 0), some (.ref k1), some (.int x2), some (.int x3), some (.int x4), none, some (.int x6), none, none]) (st' := [.int x6]) (σ' := σ) [(.iload 6, 2, 0, 0, 0, 0)] (pc2 := 179) (by decide +kernel) rfl trivial ?_
  refine h.if_ne (tgt := 190) (show decode cX5_placeOfUntold 179 = .ok (.ifCond .ne 11, 3) by decide +kernel) (by decide) (fun c2 => ?_) (fun c2 => ?_)
  · rw [if_neg c2] at hf
    refine h.run (o := []) (ls' := [some (.ref 0), some (.ref k1), some (.int x2), some (.int x3), some (.int (x4 + 1)), none, some (.int x6), none, none]) (st' := []) (σ' := σ) [(.iinc 4 1, 3, 1, 0, 0, 0), (.goto (-168), 3, 0, 0, 0, 25)] (pc2 := 25) (by decide +kernel) rfl trivial ?_
    refine h.drop (ls' := [some (.ref 0), some (.ref k1), some (.int x2), some (.int x3), some (.int (x4 + 1)), none, none, none, none]) (And.intro rfl (And.intro rfl (And.intro rfl (And.intro rfl (And.intro rfl trivial))))) ?_
    exact hkt_25 k1 x2 x3 (x4 + 1) hk1 hf
  · rw [if_pos c2] at hf
    show V 182 [some (.ref 0), some (.ref k1), some (.int x2), some (.int x3), some (.int x4), none, some (.int x6), none, none] [] σ
    refine h.run (o := []) (ls' := [some (.ref 0), some (.ref k1), some (.int x2), some (.int x3), some (.int x4), none, some (.int x6), none, none]) (st' := [.int 0, .int x4, .ref k1]) (σ' := σ) [(.aload_n 1, 1, 0, 0, 0, 0), (.iload 4, 2, 0, 0, 0, 0), (.iconst 0, 1, 0, 0, 0, 0)] (pc2 := 186) (by decide +kernel) rfl trivial ?_
    obtain ⟨a1, e1, hf⟩ := bR_some hf
    refine h.callV (as := [.int x4, .int 0]) (rest := []) (by decide +kernel) lk5_87 cwX4_read hk1 (kmX4_read l hk1 e1) rfl (Nat.le_of_ble_eq_true rfl) (Nat.le_of_ble_eq_true rfl) (Nat.le_of_ble_eq_true rfl) ?_
    show V 189 [some (.ref 0), some (.ref k1), some (.int x2), some (.int x3), some (.int x4), none, some (.int x6), none, none] [.int a1] σ
    obtain rfl := Option.some.inj hf
    exact hm.iret (by decide +kernel)
def fX5_placeOfUntold_112 (kt_25 : Nat → Int32 → Int32 → Int32 → Option Int32) (k1 : Nat) (x2 : Int32) (x3 : Int32) (x4 : Int32) (t0 : Int32) (σ : ST) : Option Int32 :=
  fX5_placeOfUntold_177 kt_25 k1 x2 (x3 + 1) x4 t0 σ
set_option maxHeartbeats 4000000 in
theorem wX5_placeOfUntold_112 {l : Launch} {V : Nat → List (Option Value) → List Value → ST → Prop} {r : Int32} {σ : ST} {k1 : Nat} {x2 : Int32} {x3 : Int32} {x4 : Int32} {t0 : Int32} {kt_25 : Nat → Int32 → Int32 → Int32 → Option Int32} (hm : BM l 5 cX5_placeOfUntold 9 (some .int) 3 67 (some (.int r)) σ V) (hkt_25 : ∀ (k1 : Nat) (x2 : Int32) (x3 : Int32) (x4 : Int32), kd k1 = 4 → kt_25 k1 x2 x3 x4 = some r → V 25 [some (.ref 0), some (.ref k1), some (.int x2), some (.int x3), some (.int x4), none, none, none, none] [] σ) (hk1 : kd k1 = 4) (hf : fX5_placeOfUntold_112 kt_25 k1 x2 x3 x4 t0 σ = some r) : V 112 [some (.ref 0), some (.ref k1), some (.int x2), some (.int x3), some (.int x4), none, none, none, none] [.int t0] σ := by
  have h := hm.bd
  unfold fX5_placeOfUntold_112 at hf
  refine h.run (o := []) (ls' := [some (.ref 0), some (.ref k1), some (.int x2), some (.int (x3 + 1)), some (.int x4), none, some (.int t0), none, none]) (st' := []) (σ' := σ) [(.istore 6, 2, 0, 0, 0, 0), (.iinc 3 1, 3, 1, 0, 0, 0), (.goto 60, 3, 0, 0, 0, 177)] (pc2 := 177) (by decide +kernel) rfl trivial ?_
  exact wX5_placeOfUntold_177 hm hkt_25 hk1 hf
def fX5_placeOfUntold_111 (kt_25 : Nat → Int32 → Int32 → Int32 → Option Int32) (k1 : Nat) (x2 : Int32) (x3 : Int32) (x4 : Int32) (σ : ST) : Option Int32 :=
  fX5_placeOfUntold_112 kt_25 k1 x2 x3 x4 0 σ
set_option maxHeartbeats 4000000 in
theorem wX5_placeOfUntold_111 {l : Launch} {V : Nat → List (Option Value) → List Value → ST → Prop} {r : Int32} {σ : ST} {k1 : Nat} {x2 : Int32} {x3 : Int32} {x4 : Int32} {kt_25 : Nat → Int32 → Int32 → Int32 → Option Int32} (hm : BM l 5 cX5_placeOfUntold 9 (some .int) 3 67 (some (.int r)) σ V) (hkt_25 : ∀ (k1 : Nat) (x2 : Int32) (x3 : Int32) (x4 : Int32), kd k1 = 4 → kt_25 k1 x2 x3 x4 = some r → V 25 [some (.ref 0), some (.ref k1), some (.int x2), some (.int x3), some (.int x4), none, none, none, none] [] σ) (hk1 : kd k1 = 4) (hf : fX5_placeOfUntold_111 kt_25 k1 x2 x3 x4 σ = some r) : V 111 [some (.ref 0), some (.ref k1), some (.int x2), some (.int x3), some (.int x4), none, none, none, none] [] σ := by
  have h := hm.bd
  unfold fX5_placeOfUntold_111 at hf
  refine h.run (o := []) (ls' := [some (.ref 0), some (.ref k1), some (.int x2), some (.int x3), some (.int x4), none, none, none, none]) (st' := [.int 0]) (σ' := σ) [(.iconst 0, 1, 0, 0, 0, 0)] (pc2 := 112) (by decide +kernel) rfl trivial ?_
  exact wX5_placeOfUntold_112 hm hkt_25 hk1 hf
def fX5_placeOfUntold_92 (kt_25 : Nat → Int32 → Int32 → Int32 → Option Int32) (k1 : Nat) (x2 : Int32) (x3 : Int32) (x4 : Int32) (σ : ST) : Option Int32 :=
  if 8 ≤ x3 then
    fX5_placeOfUntold_111 kt_25 k1 x2 x3 x4 σ
  else
    bR (fX5_isReturnerAsTold k1 x4 σ) fun a1 =>
    if a1 = 0 then
      fX5_placeOfUntold_111 kt_25 k1 x2 x3 x4 σ
    else
      fX5_placeOfUntold_112 kt_25 k1 x2 x3 x4 1 σ
set_option maxHeartbeats 4000000 in
theorem wX5_placeOfUntold_92 {l : Launch} {V : Nat → List (Option Value) → List Value → ST → Prop} {r : Int32} {σ : ST} {k1 : Nat} {x2 : Int32} {x3 : Int32} {x4 : Int32} {kt_25 : Nat → Int32 → Int32 → Int32 → Option Int32} (hm : BM l 5 cX5_placeOfUntold 9 (some .int) 3 67 (some (.int r)) σ V) (hkt_25 : ∀ (k1 : Nat) (x2 : Int32) (x3 : Int32) (x4 : Int32), kd k1 = 4 → kt_25 k1 x2 x3 x4 = some r → V 25 [some (.ref 0), some (.ref k1), some (.int x2), some (.int x3), some (.int x4), none, none, none, none] [] σ) (hk1 : kd k1 = 4) (hf : fX5_placeOfUntold_92 kt_25 k1 x2 x3 x4 σ = some r) : V 92 [some (.ref 0), some (.ref k1), some (.int x2), some (.int x3), some (.int x4), none, none, none, none] [] σ := by
  have h := hm.bd
  unfold fX5_placeOfUntold_92 at hf
  refine h.run (o := []) (ls' := [some (.ref 0), some (.ref k1), some (.int x2), some (.int x3), some (.int x4), none, none, none, none]) (st' := [.int 8, .int x3]) (σ' := σ) [(.iload_n 3, 1, 0, 0, 0, 0), (.bipush 8, 2, 8, 0, 0, 0)] (pc2 := 95) (by decide +kernel) rfl trivial ?_
  refine h.icmp_ge (tgt := 111) (show decode cX5_placeOfUntold 95 = .ok (.if_icmp .ge 16, 3) by decide +kernel) (by decide) (fun c3 => ?_) (fun c3 => ?_)
  · rw [if_pos c3] at hf
    exact wX5_placeOfUntold_111 hm hkt_25 hk1 hf
  · rw [if_neg c3] at hf
    show V 98 [some (.ref 0), some (.ref k1), some (.int x2), some (.int x3), some (.int x4), none, none, none, none] [] σ
    refine h.run (o := []) (ls' := [some (.ref 0), some (.ref k1), some (.int x2), some (.int x3), some (.int x4), none, none, none, none]) (st' := [.int x4, .ref k1]) (σ' := σ) [(.aload_n 1, 1, 0, 0, 0, 0), (.iload 4, 2, 0, 0, 0, 0)] (pc2 := 101) (by decide +kernel) rfl trivial ?_
    obtain ⟨a1, e1, hf⟩ := bR_some hf
    refine h.callS (as := [.ref k1, .int x4]) (rest := []) (by decide +kernel) lk5_307 cwX5_isReturnerAsTold (kmX5_isReturnerAsTold l hk1 e1) rfl (Nat.le_of_ble_eq_true rfl) (Nat.le_of_ble_eq_true rfl) (Nat.le_of_ble_eq_true rfl) ?_
    show V 104 [some (.ref 0), some (.ref k1), some (.int x2), some (.int x3), some (.int x4), none, none, none, none] [.int a1] σ
    refine h.if_eq (tgt := 111) (show decode cX5_placeOfUntold 104 = .ok (.ifCond .eq 7, 3) by decide +kernel) (by decide) (fun c2 => ?_) (fun c2 => ?_)
    · rw [if_pos c2] at hf
      exact wX5_placeOfUntold_111 hm hkt_25 hk1 hf
    · rw [if_neg c2] at hf
      show V 107 [some (.ref 0), some (.ref k1), some (.int x2), some (.int x3), some (.int x4), none, none, none, none] [] σ
      refine h.run (o := []) (ls' := [some (.ref 0), some (.ref k1), some (.int x2), some (.int x3), some (.int x4), none, none, none, none]) (st' := [.int 1]) (σ' := σ) [(.iconst 1, 1, 1, 0, 0, 0), (.goto 4, 3, 0, 0, 0, 112)] (pc2 := 112) (by decide +kernel) rfl trivial ?_
      exact wX5_placeOfUntold_112 hm hkt_25 hk1 hf
def fX5_placeOfUntold_175 (kt_25 : Nat → Int32 → Int32 → Int32 → Option Int32) (k1 : Nat) (x2 : Int32) (x3 : Int32) (x4 : Int32) (t0 : Int32) (σ : ST) : Option Int32 :=
  fX5_placeOfUntold_177 kt_25 k1 x2 x3 x4 t0 σ
set_option maxHeartbeats 4000000 in
theorem wX5_placeOfUntold_175 {l : Launch} {V : Nat → List (Option Value) → List Value → ST → Prop} {r : Int32} {σ : ST} {k1 : Nat} {x2 : Int32} {x3 : Int32} {x4 : Int32} {t0 : Int32} {kt_25 : Nat → Int32 → Int32 → Int32 → Option Int32} (hm : BM l 5 cX5_placeOfUntold 9 (some .int) 3 67 (some (.int r)) σ V) (hkt_25 : ∀ (k1 : Nat) (x2 : Int32) (x3 : Int32) (x4 : Int32), kd k1 = 4 → kt_25 k1 x2 x3 x4 = some r → V 25 [some (.ref 0), some (.ref k1), some (.int x2), some (.int x3), some (.int x4), none, none, none, none] [] σ) (hk1 : kd k1 = 4) (hf : fX5_placeOfUntold_175 kt_25 k1 x2 x3 x4 t0 σ = some r) : V 175 [some (.ref 0), some (.ref k1), some (.int x2), some (.int x3), some (.int x4), none, none, none, none] [.int t0] σ := by
  have h := hm.bd
  unfold fX5_placeOfUntold_175 at hf
  refine h.run (o := []) (ls' := [some (.ref 0), some (.ref k1), some (.int x2), some (.int x3), some (.int x4), none, some (.int t0), none, none]) (st' := []) (σ' := σ) [(.istore 6, 2, 0, 0, 0, 0)] (pc2 := 177) (by decide +kernel) rfl trivial ?_
  exact wX5_placeOfUntold_177 hm hkt_25 hk1 hf
def fX5_placeOfUntold_174 (kt_25 : Nat → Int32 → Int32 → Int32 → Option Int32) (k1 : Nat) (x2 : Int32) (x3 : Int32) (x4 : Int32) (σ : ST) : Option Int32 :=
  fX5_placeOfUntold_175 kt_25 k1 x2 x3 x4 0 σ
set_option maxHeartbeats 4000000 in
theorem wX5_placeOfUntold_174 {l : Launch} {V : Nat → List (Option Value) → List Value → ST → Prop} {r : Int32} {σ : ST} {k1 : Nat} {x2 : Int32} {x3 : Int32} {x4 : Int32} {kt_25 : Nat → Int32 → Int32 → Int32 → Option Int32} (hm : BM l 5 cX5_placeOfUntold 9 (some .int) 3 67 (some (.int r)) σ V) (hkt_25 : ∀ (k1 : Nat) (x2 : Int32) (x3 : Int32) (x4 : Int32), kd k1 = 4 → kt_25 k1 x2 x3 x4 = some r → V 25 [some (.ref 0), some (.ref k1), some (.int x2), some (.int x3), some (.int x4), none, none, none, none] [] σ) (hk1 : kd k1 = 4) (hf : fX5_placeOfUntold_174 kt_25 k1 x2 x3 x4 σ = some r) : V 174 [some (.ref 0), some (.ref k1), some (.int x2), some (.int x3), some (.int x4), none, none, none, none] [] σ := by
  have h := hm.bd
  unfold fX5_placeOfUntold_174 at hf
  refine h.run (o := []) (ls' := [some (.ref 0), some (.ref k1), some (.int x2), some (.int x3), some (.int x4), none, none, none, none]) (st' := [.int 0]) (σ' := σ) [(.iconst 0, 1, 0, 0, 0, 0)] (pc2 := 175) (by decide +kernel) rfl trivial ?_
  exact wX5_placeOfUntold_175 hm hkt_25 hk1 hf
def fX5_placeOfUntold_133 (kt_25 : Nat → Int32 → Int32 → Int32 → Option Int32) (k1 : Nat) (x2 : Int32) (x3 : Int32) (x4 : Int32) (t0 : Int32) (σ : ST) : Option Int32 :=
  bR (fX4_read k1 x4 2 σ) fun a1 =>
  if (σ.1 10 3) = 0 then
    if a1 < 1 then
      fX5_placeOfUntold_174 kt_25 k1 x2 x3 x4 σ
    else
      if t0 < a1 then
        fX5_placeOfUntold_174 kt_25 k1 x2 x3 x4 σ
      else
        fX5_placeOfUntold_175 kt_25 k1 x2 x3 x4 1 σ
  else
    fX5_placeOfUntold_174 kt_25 k1 x2 x3 x4 σ
set_option maxHeartbeats 4000000 in
theorem wX5_placeOfUntold_133 {l : Launch} {V : Nat → List (Option Value) → List Value → ST → Prop} {r : Int32} {σ : ST} {k1 : Nat} {x2 : Int32} {x3 : Int32} {x4 : Int32} {t0 : Int32} {kt_25 : Nat → Int32 → Int32 → Int32 → Option Int32} (hm : BM l 5 cX5_placeOfUntold 9 (some .int) 3 67 (some (.int r)) σ V) (hkt_25 : ∀ (k1 : Nat) (x2 : Int32) (x3 : Int32) (x4 : Int32), kd k1 = 4 → kt_25 k1 x2 x3 x4 = some r → V 25 [some (.ref 0), some (.ref k1), some (.int x2), some (.int x3), some (.int x4), none, none, none, none] [] σ) (hk1 : kd k1 = 4) (hf : fX5_placeOfUntold_133 kt_25 k1 x2 x3 x4 t0 σ = some r) : V 133 [some (.ref 0), some (.ref k1), some (.int x2), some (.int x3), some (.int x4), none, none, none, none] [.int t0] σ := by
  have h := hm.bd
  unfold fX5_placeOfUntold_133 at hf
  refine h.run (o := []) (ls' := [some (.ref 0), some (.ref k1), some (.int x2), some (.int x3), some (.int x4), none, none, some (.int t0), none]) (st' := [.int 2, .int x4, .ref k1]) (σ' := σ) [(.istore 7, 2, 0, 0, 0, 0), (.aload_n 1, 1, 0, 0, 0, 0), (.iload 4, 2, 0, 0, 0, 0), (.iconst 2, 1, 2, 0, 0, 0)] (pc2 := 139) (by decide +kernel) rfl trivial ?_
  obtain ⟨a1, e1, hf⟩ := bR_some hf
  refine h.callV (as := [.int x4, .int 2]) (rest := []) (by decide +kernel) lk5_87 cwX4_read hk1 (kmX4_read l hk1 e1) rfl (Nat.le_of_ble_eq_true rfl) (Nat.le_of_ble_eq_true rfl) (Nat.le_of_ble_eq_true rfl) ?_
  show V 142 [some (.ref 0), some (.ref k1), some (.int x2), some (.int x3), some (.int x4), none, none, some (.int t0), none] [.int a1] σ
  refine h.run (o := [kd 0 = 5, kd 1 = 0, kd 10 = 4]) (ls' := [some (.ref 0), some (.ref k1), some (.int x2), some (.int x3), some (.int x4), none, none, some (.int t0), some (.int a1)]) (st' := [.int (σ.1 10 3)]) (σ' := σ) [(.istore 8, 2, 0, 0, 0, 0), (.aload_n 0, 1, 0, 0, 0, 0), (.getfield 10, 3, 0, 0, 5, 0), (.getfield 104, 3, 0, 0, 0, 5), (.getfield 71, 3, 0, 0, 4, 3)] (pc2 := 154) (by decide +kernel) rfl (And.intro kd_0 (And.intro kd_1 (And.intro kd_10 trivial))) ?_
  refine h.if_ne (tgt := 174) (show decode cX5_placeOfUntold 154 = .ok (.ifCond .ne 20, 3) by decide +kernel) (by decide) (fun c4 => ?_) (fun c4 => ?_)
  · rw [if_neg c4] at hf
    refine h.drop (ls' := [some (.ref 0), some (.ref k1), some (.int x2), some (.int x3), some (.int x4), none, none, none, none]) (And.intro rfl (And.intro rfl (And.intro rfl (And.intro rfl (And.intro rfl trivial))))) ?_
    exact wX5_placeOfUntold_174 hm hkt_25 hk1 hf
  · rw [if_pos c4] at hf
    show V 157 [some (.ref 0), some (.ref k1), some (.int x2), some (.int x3), some (.int x4), none, none, some (.int t0), some (.int a1)] [] σ
    refine h.run (o := []) (ls' := [some (.ref 0), some (.ref k1), some (.int x2), some (.int x3), some (.int x4), none, none, some (.int t0), some (.int a1)]) (st' := [.int 1, .int a1]) (σ' := σ) [(.iload 8, 2, 0, 0, 0, 0), (.iconst 1, 1, 1, 0, 0, 0)] (pc2 := 160) (by decide +kernel) rfl trivial ?_
    refine h.icmp_lt (tgt := 174) (show decode cX5_placeOfUntold 160 = .ok (.if_icmp .lt 14, 3) by decide +kernel) (by decide) (fun c3 => ?_) (fun c3 => ?_)
    · rw [if_pos c3] at hf
      refine h.drop (ls' := [some (.ref 0), some (.ref k1), some (.int x2), some (.int x3), some (.int x4), none, none, none, none]) (And.intro rfl (And.intro rfl (And.intro rfl (And.intro rfl (And.intro rfl trivial))))) ?_
      exact wX5_placeOfUntold_174 hm hkt_25 hk1 hf
    · rw [if_neg c3] at hf
      show V 163 [some (.ref 0), some (.ref k1), some (.int x2), some (.int x3), some (.int x4), none, none, some (.int t0), some (.int a1)] [] σ
      refine h.run (o := []) (ls' := [some (.ref 0), some (.ref k1), some (.int x2), some (.int x3), some (.int x4), none, none, some (.int t0), some (.int a1)]) (st' := [.int t0, .int a1]) (σ' := σ) [(.iload 8, 2, 0, 0, 0, 0), (.iload 7, 2, 0, 0, 0, 0)] (pc2 := 167) (by decide +kernel) rfl trivial ?_
      refine h.icmp_gt (tgt := 174) (show decode cX5_placeOfUntold 167 = .ok (.if_icmp .gt 7, 3) by decide +kernel) (by decide) (fun c2 => ?_) (fun c2 => ?_)
      · rw [if_pos c2] at hf
        refine h.drop (ls' := [some (.ref 0), some (.ref k1), some (.int x2), some (.int x3), some (.int x4), none, none, none, none]) (And.intro rfl (And.intro rfl (And.intro rfl (And.intro rfl (And.intro rfl trivial))))) ?_
        exact wX5_placeOfUntold_174 hm hkt_25 hk1 hf
      · rw [if_neg c2] at hf
        show V 170 [some (.ref 0), some (.ref k1), some (.int x2), some (.int x3), some (.int x4), none, none, some (.int t0), some (.int a1)] [] σ
        refine h.run (o := []) (ls' := [some (.ref 0), some (.ref k1), some (.int x2), some (.int x3), some (.int x4), none, none, some (.int t0), some (.int a1)]) (st' := [.int 1]) (σ' := σ) [(.iconst 1, 1, 1, 0, 0, 0), (.goto 4, 3, 0, 0, 0, 175)] (pc2 := 175) (by decide +kernel) rfl trivial ?_
        refine h.drop (ls' := [some (.ref 0), some (.ref k1), some (.int x2), some (.int x3), some (.int x4), none, none, none, none]) (And.intro rfl (And.intro rfl (And.intro rfl (And.intro rfl (And.intro rfl trivial))))) ?_
        exact wX5_placeOfUntold_175 hm hkt_25 hk1 hf
def fX5_placeOfUntold_70 (kt_25 : Nat → Int32 → Int32 → Int32 → Option Int32) (k1 : Nat) (x2 : Int32) (x3 : Int32) (x4 : Int32) (t0 : Int32) (σ : ST) : Option Int32 :=
  fX5_placeOfUntold_177 kt_25 k1 (x2 + 1) x3 x4 t0 σ
set_option maxHeartbeats 4000000 in
theorem wX5_placeOfUntold_70 {l : Launch} {V : Nat → List (Option Value) → List Value → ST → Prop} {r : Int32} {σ : ST} {k1 : Nat} {x2 : Int32} {x3 : Int32} {x4 : Int32} {t0 : Int32} {kt_25 : Nat → Int32 → Int32 → Int32 → Option Int32} (hm : BM l 5 cX5_placeOfUntold 9 (some .int) 3 67 (some (.int r)) σ V) (hkt_25 : ∀ (k1 : Nat) (x2 : Int32) (x3 : Int32) (x4 : Int32), kd k1 = 4 → kt_25 k1 x2 x3 x4 = some r → V 25 [some (.ref 0), some (.ref k1), some (.int x2), some (.int x3), some (.int x4), none, none, none, none] [] σ) (hk1 : kd k1 = 4) (hf : fX5_placeOfUntold_70 kt_25 k1 x2 x3 x4 t0 σ = some r) : V 70 [some (.ref 0), some (.ref k1), some (.int x2), some (.int x3), some (.int x4), none, none, none, none] [.int t0] σ := by
  have h := hm.bd
  unfold fX5_placeOfUntold_70 at hf
  refine h.run (o := []) (ls' := [some (.ref 0), some (.ref k1), some (.int (x2 + 1)), some (.int x3), some (.int x4), none, some (.int t0), none, none]) (st' := []) (σ' := σ) [(.istore 6, 2, 0, 0, 0, 0), (.iinc 2 1, 3, 1, 0, 0, 0), (.goto 102, 3, 0, 0, 0, 177)] (pc2 := 177) (by decide +kernel) rfl trivial ?_
  exact wX5_placeOfUntold_177 hm hkt_25 hk1 hf
def fX5_placeOfUntold_69 (kt_25 : Nat → Int32 → Int32 → Int32 → Option Int32) (k1 : Nat) (x2 : Int32) (x3 : Int32) (x4 : Int32) (σ : ST) : Option Int32 :=
  fX5_placeOfUntold_70 kt_25 k1 x2 x3 x4 0 σ
set_option maxHeartbeats 4000000 in
theorem wX5_placeOfUntold_69 {l : Launch} {V : Nat → List (Option Value) → List Value → ST → Prop} {r : Int32} {σ : ST} {k1 : Nat} {x2 : Int32} {x3 : Int32} {x4 : Int32} {kt_25 : Nat → Int32 → Int32 → Int32 → Option Int32} (hm : BM l 5 cX5_placeOfUntold 9 (some .int) 3 67 (some (.int r)) σ V) (hkt_25 : ∀ (k1 : Nat) (x2 : Int32) (x3 : Int32) (x4 : Int32), kd k1 = 4 → kt_25 k1 x2 x3 x4 = some r → V 25 [some (.ref 0), some (.ref k1), some (.int x2), some (.int x3), some (.int x4), none, none, none, none] [] σ) (hk1 : kd k1 = 4) (hf : fX5_placeOfUntold_69 kt_25 k1 x2 x3 x4 σ = some r) : V 69 [some (.ref 0), some (.ref k1), some (.int x2), some (.int x3), some (.int x4), none, none, none, none] [] σ := by
  have h := hm.bd
  unfold fX5_placeOfUntold_69 at hf
  refine h.run (o := []) (ls' := [some (.ref 0), some (.ref k1), some (.int x2), some (.int x3), some (.int x4), none, none, none, none]) (st' := [.int 0]) (σ' := σ) [(.iconst 0, 1, 0, 0, 0, 0)] (pc2 := 70) (by decide +kernel) rfl trivial ?_
  exact wX5_placeOfUntold_70 hm hkt_25 hk1 hf
def fX5_placeOfUntold_25 (σ : ST) (n : Nat) (k1 : Nat) (x2 : Int32) (x3 : Int32) (x4 : Int32) : Option Int32 := match n with
  | 0 => none
  | n + 1 =>
    if (σ.1 k1 3) ≤ x4 then
      some (-1)
    else
      bR (fX4_read k1 x4 1 σ) fun a1 =>
      if a1 = 115 then
        if 8 ≤ x2 then
          fX5_placeOfUntold_69 (fX5_placeOfUntold_25 σ n) k1 x2 x3 x4 σ
        else
          bR (fX5_isSenderAsTold k1 x4 σ) fun a5 =>
          if a5 = 0 then
            fX5_placeOfUntold_69 (fX5_placeOfUntold_25 σ n) k1 x2 x3 x4 σ
          else
            fX5_placeOfUntold_70 (fX5_placeOfUntold_25 σ n) k1 x2 x3 x4 1 σ
      else
        if a1 = 109 then
          fX5_placeOfUntold_92 (fX5_placeOfUntold_25 σ n) k1 x2 x3 x4 σ
        else
          if a1 = 120 then
            fX5_placeOfUntold_92 (fX5_placeOfUntold_25 σ n) k1 x2 x3 x4 σ
          else
            if a1 = 99 then
              fX5_placeOfUntold_133 (fX5_placeOfUntold_25 σ n) k1 x2 x3 x4 20 σ
            else
              fX5_placeOfUntold_133 (fX5_placeOfUntold_25 σ n) k1 x2 x3 x4 5 σ
set_option maxHeartbeats 4000000 in
theorem wX5_placeOfUntold_25 {l : Launch} {V : Nat → List (Option Value) → List Value → ST → Prop} {r : Int32} {σ : ST} (hm : BM l 5 cX5_placeOfUntold 9 (some .int) 3 67 (some (.int r)) σ V) : ∀ (n : Nat) (k1 : Nat) (x2 : Int32) (x3 : Int32) (x4 : Int32) (hk1 : kd k1 = 4), fX5_placeOfUntold_25 σ n k1 x2 x3 x4 = some r → V 25 [some (.ref 0), some (.ref k1), some (.int x2), some (.int x3), some (.int x4), none, none, none, none] [] σ := by
  have h := hm.bd
  intro n
  induction n with
  | zero => intro k1 x2 x3 x4 hk1 hf; cases hf
  | succ n ih =>
    intro k1 x2 x3 x4 hk1 hf
    rw [fX5_placeOfUntold_25] at hf
    refine h.run (o := [kd k1 = 4]) (ls' := [some (.ref 0), some (.ref k1), some (.int x2), some (.int x3), some (.int x4), none, none, none, none]) (st' := [.int (σ.1 k1 3), .int x4]) (σ' := σ) [(.iload 4, 2, 0, 0, 0, 0), (.aload_n 1, 1, 0, 0, 0, 0), (.getfield 71, 3, 0, 0, 4, 3)] (pc2 := 31) (by decide +kernel) rfl (And.intro hk1 trivial) ?_
    refine h.icmp_ge (tgt := 196) (show decode cX5_placeOfUntold 31 = .ok (.if_icmp .ge 165, 3) by decide +kernel) (by decide) (fun c9 => ?_) (fun c9 => ?_)
    · rw [if_pos c9] at hf
      refine h.run (o := []) (ls' := [some (.ref 0), some (.ref k1), some (.int x2), some (.int x3), some (.int x4), none, none, none, none]) (st' := [.int (-1)]) (σ' := σ) [(.iconst (-1), 1, (-1), 0, 0, 0)] (pc2 := 197) (by decide +kernel) rfl trivial ?_
      obtain rfl := Option.some.inj hf
      exact hm.iret (by decide +kernel)
    · rw [if_neg c9] at hf
      show V 34 [some (.ref 0), some (.ref k1), some (.int x2), some (.int x3), some (.int x4), none, none, none, none] [] σ
      refine h.run (o := []) (ls' := [some (.ref 0), some (.ref k1), some (.int x2), some (.int x3), some (.int x4), none, none, none, none]) (st' := [.int 1, .int x4, .ref k1]) (σ' := σ) [(.aload_n 1, 1, 0, 0, 0, 0), (.iload 4, 2, 0, 0, 0, 0), (.iconst 1, 1, 1, 0, 0, 0)] (pc2 := 38) (by decide +kernel) rfl trivial ?_
      obtain ⟨a1, e1, hf⟩ := bR_some hf
      refine h.callV (as := [.int x4, .int 1]) (rest := []) (by decide +kernel) lk5_87 cwX4_read hk1 (kmX4_read l hk1 e1) rfl (Nat.le_of_ble_eq_true rfl) (Nat.le_of_ble_eq_true rfl) (Nat.le_of_ble_eq_true rfl) ?_
      show V 41 [some (.ref 0), some (.ref k1), some (.int x2), some (.int x3), some (.int x4), none, none, none, none] [.int a1] σ
      refine h.run (o := []) (ls' := [some (.ref 0), some (.ref k1), some (.int x2), some (.int x3), some (.int x4), some (.int a1), none, none, none]) (st' := [.int 115, .int a1]) (σ' := σ) [(.istore 5, 2, 0, 0, 0, 0), (.iload 5, 2, 0, 0, 0, 0), (.bipush 115, 2, 115, 0, 0, 0)] (pc2 := 47) (by decide +kernel) rfl trivial ?_
      refine h.icmp_ne (tgt := 78) (show decode cX5_placeOfUntold 47 = .ok (.if_icmp .ne 31, 3) by decide +kernel) (by decide) (fun c8 => ?_) (fun c8 => ?_)
      · rw [if_neg c8] at hf
        refine h.run (o := []) (ls' := [some (.ref 0), some (.ref k1), some (.int x2), some (.int x3), some (.int x4), some (.int a1), none, none, none]) (st' := [.int 109, .int a1]) (σ' := σ) [(.iload 5, 2, 0, 0, 0, 0), (.bipush 109, 2, 109, 0, 0, 0)] (pc2 := 82) (by decide +kernel) rfl trivial ?_
        refine h.icmp_eq (tgt := 92) (show decode cX5_placeOfUntold 82 = .ok (.if_icmp .eq 10, 3) by decide +kernel) (by decide) (fun c4 => ?_) (fun c4 => ?_)
        · rw [if_pos c4] at hf
          refine h.drop (ls' := [some (.ref 0), some (.ref k1), some (.int x2), some (.int x3), some (.int x4), none, none, none, none]) (And.intro rfl (And.intro rfl (And.intro rfl (And.intro rfl (And.intro rfl trivial))))) ?_
          exact wX5_placeOfUntold_92 hm ih hk1 hf
        · rw [if_neg c4] at hf
          show V 85 [some (.ref 0), some (.ref k1), some (.int x2), some (.int x3), some (.int x4), some (.int a1), none, none, none] [] σ
          refine h.run (o := []) (ls' := [some (.ref 0), some (.ref k1), some (.int x2), some (.int x3), some (.int x4), some (.int a1), none, none, none]) (st' := [.int 120, .int a1]) (σ' := σ) [(.iload 5, 2, 0, 0, 0, 0), (.bipush 120, 2, 120, 0, 0, 0)] (pc2 := 89) (by decide +kernel) rfl trivial ?_
          refine h.icmp_ne (tgt := 120) (show decode cX5_placeOfUntold 89 = .ok (.if_icmp .ne 31, 3) by decide +kernel) (by decide) (fun c3 => ?_) (fun c3 => ?_)
          · rw [if_neg c3] at hf
            refine h.run (o := []) (ls' := [some (.ref 0), some (.ref k1), some (.int x2), some (.int x3), some (.int x4), some (.int a1), none, none, none]) (st' := [.int 99, .int a1]) (σ' := σ) [(.iload 5, 2, 0, 0, 0, 0), (.bipush 99, 2, 99, 0, 0, 0)] (pc2 := 124) (by decide +kernel) rfl trivial ?_
            refine h.icmp_ne (tgt := 132) (show decode cX5_placeOfUntold 124 = .ok (.if_icmp .ne 8, 3) by decide +kernel) (by decide) (fun c2 => ?_) (fun c2 => ?_)
            · rw [if_neg c2] at hf
              refine h.run (o := []) (ls' := [some (.ref 0), some (.ref k1), some (.int x2), some (.int x3), some (.int x4), some (.int a1), none, none, none]) (st' := [.int 5]) (σ' := σ) [(.iconst 5, 1, 5, 0, 0, 0)] (pc2 := 133) (by decide +kernel) rfl trivial ?_
              refine h.drop (ls' := [some (.ref 0), some (.ref k1), some (.int x2), some (.int x3), some (.int x4), none, none, none, none]) (And.intro rfl (And.intro rfl (And.intro rfl (And.intro rfl (And.intro rfl trivial))))) ?_
              exact wX5_placeOfUntold_133 hm ih hk1 hf
            · rw [if_pos c2] at hf
              show V 127 [some (.ref 0), some (.ref k1), some (.int x2), some (.int x3), some (.int x4), some (.int a1), none, none, none] [] σ
              refine h.run (o := []) (ls' := [some (.ref 0), some (.ref k1), some (.int x2), some (.int x3), some (.int x4), some (.int a1), none, none, none]) (st' := [.int 20]) (σ' := σ) [(.bipush 20, 2, 20, 0, 0, 0), (.goto 4, 3, 0, 0, 0, 133)] (pc2 := 133) (by decide +kernel) rfl trivial ?_
              refine h.drop (ls' := [some (.ref 0), some (.ref k1), some (.int x2), some (.int x3), some (.int x4), none, none, none, none]) (And.intro rfl (And.intro rfl (And.intro rfl (And.intro rfl (And.intro rfl trivial))))) ?_
              exact wX5_placeOfUntold_133 hm ih hk1 hf
          · rw [if_pos c3] at hf
            show V 92 [some (.ref 0), some (.ref k1), some (.int x2), some (.int x3), some (.int x4), some (.int a1), none, none, none] [] σ
            refine h.drop (ls' := [some (.ref 0), some (.ref k1), some (.int x2), some (.int x3), some (.int x4), none, none, none, none]) (And.intro rfl (And.intro rfl (And.intro rfl (And.intro rfl (And.intro rfl trivial))))) ?_
            exact wX5_placeOfUntold_92 hm ih hk1 hf
      · rw [if_pos c8] at hf
        show V 50 [some (.ref 0), some (.ref k1), some (.int x2), some (.int x3), some (.int x4), some (.int a1), none, none, none] [] σ
        refine h.run (o := []) (ls' := [some (.ref 0), some (.ref k1), some (.int x2), some (.int x3), some (.int x4), some (.int a1), none, none, none]) (st' := [.int 8, .int x2]) (σ' := σ) [(.iload_n 2, 1, 0, 0, 0, 0), (.bipush 8, 2, 8, 0, 0, 0)] (pc2 := 53) (by decide +kernel) rfl trivial ?_
        refine h.icmp_ge (tgt := 69) (show decode cX5_placeOfUntold 53 = .ok (.if_icmp .ge 16, 3) by decide +kernel) (by decide) (fun c7 => ?_) (fun c7 => ?_)
        · rw [if_pos c7] at hf
          refine h.drop (ls' := [some (.ref 0), some (.ref k1), some (.int x2), some (.int x3), some (.int x4), none, none, none, none]) (And.intro rfl (And.intro rfl (And.intro rfl (And.intro rfl (And.intro rfl trivial))))) ?_
          exact wX5_placeOfUntold_69 hm ih hk1 hf
        · rw [if_neg c7] at hf
          show V 56 [some (.ref 0), some (.ref k1), some (.int x2), some (.int x3), some (.int x4), some (.int a1), none, none, none] [] σ
          refine h.run (o := []) (ls' := [some (.ref 0), some (.ref k1), some (.int x2), some (.int x3), some (.int x4), some (.int a1), none, none, none]) (st' := [.int x4, .ref k1]) (σ' := σ) [(.aload_n 1, 1, 0, 0, 0, 0), (.iload 4, 2, 0, 0, 0, 0)] (pc2 := 59) (by decide +kernel) rfl trivial ?_
          obtain ⟨a5, e5, hf⟩ := bR_some hf
          refine h.callS (as := [.ref k1, .int x4]) (rest := []) (by decide +kernel) lk5_303 cwX5_isSenderAsTold (kmX5_isSenderAsTold l hk1 e5) rfl (Nat.le_of_ble_eq_true rfl) (Nat.le_of_ble_eq_true rfl) (Nat.le_of_ble_eq_true rfl) ?_
          show V 62 [some (.ref 0), some (.ref k1), some (.int x2), some (.int x3), some (.int x4), some (.int a1), none, none, none] [.int a5] σ
          refine h.if_eq (tgt := 69) (show decode cX5_placeOfUntold 62 = .ok (.ifCond .eq 7, 3) by decide +kernel) (by decide) (fun c6 => ?_) (fun c6 => ?_)
          · rw [if_pos c6] at hf
            refine h.drop (ls' := [some (.ref 0), some (.ref k1), some (.int x2), some (.int x3), some (.int x4), none, none, none, none]) (And.intro rfl (And.intro rfl (And.intro rfl (And.intro rfl (And.intro rfl trivial))))) ?_
            exact wX5_placeOfUntold_69 hm ih hk1 hf
          · rw [if_neg c6] at hf
            show V 65 [some (.ref 0), some (.ref k1), some (.int x2), some (.int x3), some (.int x4), some (.int a1), none, none, none] [] σ
            refine h.run (o := []) (ls' := [some (.ref 0), some (.ref k1), some (.int x2), some (.int x3), some (.int x4), some (.int a1), none, none, none]) (st' := [.int 1]) (σ' := σ) [(.iconst 1, 1, 1, 0, 0, 0), (.goto 4, 3, 0, 0, 0, 70)] (pc2 := 70) (by decide +kernel) rfl trivial ?_
            refine h.drop (ls' := [some (.ref 0), some (.ref k1), some (.int x2), some (.int x3), some (.int x4), none, none, none, none]) (And.intro rfl (And.intro rfl (And.intro rfl (And.intro rfl (And.intro rfl trivial))))) ?_
            exact wX5_placeOfUntold_70 hm ih hk1 hf
def fX5_placeOfUntold (k1 : Nat) (σ : ST) : Option Int32 :=
  fX5_placeOfUntold_25 σ FU k1 (σ.1 6 3) (σ.1 8 3) 0
set_option maxHeartbeats 4000000 in
theorem kmX5_placeOfUntold (l : Launch) {k1 : Nat} {σ : ST} {r : Int32} (hk1 : kd k1 = 4) (hf : fX5_placeOfUntold k1 σ = some r) : KM l yX5_placeOfUntold cX5_placeOfUntold 9 (some .int) 3 67 [.ref 0, .ref k1] σ (some (.int r)) σ := by
  refine KM.intro (ow := 5) (by decide +kernel) rfl (Nat.le_of_ble_eq_true rfl) (fun V hm => ?_)
  show V 0 [some (.ref 0), some (.ref k1), none, none, none, none, none, none, none] [] σ
  have h := hm.bd
  unfold fX5_placeOfUntold at hf
  refine h.run (o := [kd 0 = 5, kd 1 = 0, kd 6 = 4, kd 0 = 5, kd 1 = 0, kd 8 = 4]) (ls' := [some (.ref 0), some (.ref k1), some (.int (σ.1 6 3)), some (.int (σ.1 8 3)), some (.int 0), none, none, none, none]) (st' := []) (σ' := σ) [(.aload_n 0, 1, 0, 0, 0, 0), (.getfield 10, 3, 0, 0, 5, 0), (.getfield 80, 3, 0, 0, 0, 3), (.getfield 71, 3, 0, 0, 4, 3), (.istore_n 2, 1, 0, 0, 0, 0), (.aload_n 0, 1, 0, 0, 0, 0), (.getfield 10, 3, 0, 0, 5, 0), (.getfield 91, 3, 0, 0, 0, 4), (.getfield 71, 3, 0, 0, 4, 3), (.istore_n 3, 1, 0, 0, 0, 0), (.iconst 0, 1, 0, 0, 0, 0), (.istore 4, 2, 0, 0, 0, 0)] (pc2 := 25) (by decide +kernel) rfl (And.intro kd_0 (And.intro kd_1 (And.intro kd_6 (And.intro kd_0 (And.intro kd_1 (And.intro kd_8 trivial)))))) ?_
  exact wX5_placeOfUntold_25 hm FU k1 (σ.1 6 3) (σ.1 8 3) 0 hk1 hf
def fX5_carryOut_241 (σ : ST) : Option ST :=
  some σ
set_option maxHeartbeats 4000000 in
theorem wX5_carryOut_241 {l : Launch} {V : Nat → List (Option Value) → List Value → ST → Prop} {τ : ST} {σ : ST} (hm : BM l 5 cX5_carryOut 5 none 3 68 none τ V) (hf : fX5_carryOut_241 σ = some τ) : V 241 [none, none, none, none, none] [] σ := by
  have h := hm.bd
  unfold fX5_carryOut_241 at hf
  obtain rfl := Option.some.inj hf
  exact hm.vret (by decide +kernel)
def fX5_carryOut_162 (k1 : Nat) (x2 : Int32) (x4 : Int32) (t1 : Int32) (t2 : Int32) (t3 : Int32) (σ : ST) : Option ST :=
  bR (fX4_write 8 t1 t2 t3 σ) fun σ1 =>
  bR (fX4_read k1 x2 2 σ1) fun a2 =>
  bR (fX4_write 8 x4 1 a2 σ1) fun σ3 =>
  bR (fX4_read k1 x2 3 σ3) fun a4 =>
  bR (fX4_write 8 x4 2 a4 σ3) fun σ5 =>
  bR (fX4_read k1 x2 4 σ5) fun a6 =>
  bR (fX4_write 8 x4 3 a6 σ5) fun σ7 =>
  bR (fX4_read k1 x2 5 σ7) fun a8 =>
  bR (fX4_write 8 x4 4 a8 σ7) fun σ9 =>
  fX5_carryOut_241 σ9
set_option maxHeartbeats 4000000 in
theorem wX5_carryOut_162 {l : Launch} {V : Nat → List (Option Value) → List Value → ST → Prop} {τ : ST} {σ : ST} {k1 : Nat} {x2 : Int32} {x4 : Int32} {t1 : Int32} {t2 : Int32} {t3 : Int32} (hm : BM l 5 cX5_carryOut 5 none 3 68 none τ V) (hk1 : kd k1 = 4) (hf : fX5_carryOut_162 k1 x2 x4 t1 t2 t3 σ = some τ) : V 162 [some (.ref 0), some (.ref k1), some (.int x2), none, some (.int x4)] [.int t3, .int t2, .int t1, .ref 8] σ := by
  have h := hm.bd
  unfold fX5_carryOut_162 at hf
  obtain ⟨σ1, e1, hf⟩ := bR_some hf
  refine h.callV (as := [.int t1, .int t2, .int t3]) (rest := []) (by decide +kernel) lk5_113 cwX4_write kd_8 (kmX4_write l kd_8 e1) rfl (Nat.le_of_ble_eq_true rfl) (Nat.le_of_ble_eq_true rfl) (Nat.le_of_ble_eq_true rfl) ?_
  show V 165 [some (.ref 0), some (.ref k1), some (.int x2), none, some (.int x4)] [] σ1
  refine h.run (o := [kd 0 = 5, kd 1 = 0]) (ls' := [some (.ref 0), some (.ref k1), some (.int x2), none, some (.int x4)]) (st' := [.int 2, .int x2, .ref k1, .int 1, .int x4, .ref 8]) (σ' := σ1) [(.aload_n 0, 1, 0, 0, 0, 0), (.getfield 10, 3, 0, 0, 5, 0), (.getfield 91, 3, 0, 0, 0, 4), (.iload 4, 2, 0, 0, 0, 0), (.iconst 1, 1, 1, 0, 0, 0), (.aload_n 1, 1, 0, 0, 0, 0), (.iload_n 2, 1, 0, 0, 0, 0), (.iconst 2, 1, 2, 0, 0, 0)] (pc2 := 178) (by decide +kernel) rfl (And.intro kd_0 (And.intro kd_1 trivial)) ?_
  obtain ⟨a2, e2, hf⟩ := bR_some hf
  refine h.callV (as := [.int x2, .int 2]) (rest := [.int 1, .int x4, .ref 8]) (by decide +kernel) lk5_87 cwX4_read hk1 (kmX4_read l hk1 e2) rfl (Nat.le_of_ble_eq_true rfl) (Nat.le_of_ble_eq_true rfl) (Nat.le_of_ble_eq_true rfl) ?_
  show V 181 [some (.ref 0), some (.ref k1), some (.int x2), none, some (.int x4)] [.int a2, .int 1, .int x4, .ref 8] σ1
  obtain ⟨σ3, e3, hf⟩ := bR_some hf
  refine h.callV (as := [.int x4, .int 1, .int a2]) (rest := []) (by decide +kernel) lk5_113 cwX4_write kd_8 (kmX4_write l kd_8 e3) rfl (Nat.le_of_ble_eq_true rfl) (Nat.le_of_ble_eq_true rfl) (Nat.le_of_ble_eq_true rfl) ?_
  show V 184 [some (.ref 0), some (.ref k1), some (.int x2), none, some (.int x4)] [] σ3
  refine h.run (o := [kd 0 = 5, kd 1 = 0]) (ls' := [some (.ref 0), some (.ref k1), some (.int x2), none, some (.int x4)]) (st' := [.int 3, .int x2, .ref k1, .int 2, .int x4, .ref 8]) (σ' := σ3) [(.aload_n 0, 1, 0, 0, 0, 0), (.getfield 10, 3, 0, 0, 5, 0), (.getfield 91, 3, 0, 0, 0, 4), (.iload 4, 2, 0, 0, 0, 0), (.iconst 2, 1, 2, 0, 0, 0), (.aload_n 1, 1, 0, 0, 0, 0), (.iload_n 2, 1, 0, 0, 0, 0), (.iconst 3, 1, 3, 0, 0, 0)] (pc2 := 197) (by decide +kernel) rfl (And.intro kd_0 (And.intro kd_1 trivial)) ?_
  obtain ⟨a4, e4, hf⟩ := bR_some hf
  refine h.callV (as := [.int x2, .int 3]) (rest := [.int 2, .int x4, .ref 8]) (by decide +kernel) lk5_87 cwX4_read hk1 (kmX4_read l hk1 e4) rfl (Nat.le_of_ble_eq_true rfl) (Nat.le_of_ble_eq_true rfl) (Nat.le_of_ble_eq_true rfl) ?_
  show V 200 [some (.ref 0), some (.ref k1), some (.int x2), none, some (.int x4)] [.int a4, .int 2, .int x4, .ref 8] σ3
  obtain ⟨σ5, e5, hf⟩ := bR_some hf
  refine h.callV (as := [.int x4, .int 2, .int a4]) (rest := []) (by decide +kernel) lk5_113 cwX4_write kd_8 (kmX4_write l kd_8 e5) rfl (Nat.le_of_ble_eq_true rfl) (Nat.le_of_ble_eq_true rfl) (Nat.le_of_ble_eq_true rfl) ?_
  show V 203 [some (.ref 0), some (.ref k1), some (.int x2), none, some (.int x4)] [] σ5
  refine h.run (o := [kd 0 = 5, kd 1 = 0]) (ls' := [some (.ref 0), some (.ref k1), some (.int x2), none, some (.int x4)]) (st' := [.int 4, .int x2, .ref k1, .int 3, .int x4, .ref 8]) (σ' := σ5) [(.aload_n 0, 1, 0, 0, 0, 0), (.getfield 10, 3, 0, 0, 5, 0), (.getfield 91, 3, 0, 0, 0, 4), (.iload 4, 2, 0, 0, 0, 0), (.iconst 3, 1, 3, 0, 0, 0), (.aload_n 1, 1, 0, 0, 0, 0), (.iload_n 2, 1, 0, 0, 0, 0), (.iconst 4, 1, 4, 0, 0, 0)] (pc2 := 216) (by decide +kernel) rfl (And.intro kd_0 (And.intro kd_1 trivial)) ?_
  obtain ⟨a6, e6, hf⟩ := bR_some hf
  refine h.callV (as := [.int x2, .int 4]) (rest := [.int 3, .int x4, .ref 8]) (by decide +kernel) lk5_87 cwX4_read hk1 (kmX4_read l hk1 e6) rfl (Nat.le_of_ble_eq_true rfl) (Nat.le_of_ble_eq_true rfl) (Nat.le_of_ble_eq_true rfl) ?_
  show V 219 [some (.ref 0), some (.ref k1), some (.int x2), none, some (.int x4)] [.int a6, .int 3, .int x4, .ref 8] σ5
  obtain ⟨σ7, e7, hf⟩ := bR_some hf
  refine h.callV (as := [.int x4, .int 3, .int a6]) (rest := []) (by decide +kernel) lk5_113 cwX4_write kd_8 (kmX4_write l kd_8 e7) rfl (Nat.le_of_ble_eq_true rfl) (Nat.le_of_ble_eq_true rfl) (Nat.le_of_ble_eq_true rfl) ?_
  show V 222 [some (.ref 0), some (.ref k1), some (.int x2), none, some (.int x4)] [] σ7
  refine h.run (o := [kd 0 = 5, kd 1 = 0]) (ls' := [some (.ref 0), some (.ref k1), some (.int x2), none, some (.int x4)]) (st' := [.int 5, .int x2, .ref k1, .int 4, .int x4, .ref 8]) (σ' := σ7) [(.aload_n 0, 1, 0, 0, 0, 0), (.getfield 10, 3, 0, 0, 5, 0), (.getfield 91, 3, 0, 0, 0, 4), (.iload 4, 2, 0, 0, 0, 0), (.iconst 4, 1, 4, 0, 0, 0), (.aload_n 1, 1, 0, 0, 0, 0), (.iload_n 2, 1, 0, 0, 0, 0), (.iconst 5, 1, 5, 0, 0, 0)] (pc2 := 235) (by decide +kernel) rfl (And.intro kd_0 (And.intro kd_1 trivial)) ?_
  obtain ⟨a8, e8, hf⟩ := bR_some hf
  refine h.callV (as := [.int x2, .int 5]) (rest := [.int 4, .int x4, .ref 8]) (by decide +kernel) lk5_87 cwX4_read hk1 (kmX4_read l hk1 e8) rfl (Nat.le_of_ble_eq_true rfl) (Nat.le_of_ble_eq_true rfl) (Nat.le_of_ble_eq_true rfl) ?_
  show V 238 [some (.ref 0), some (.ref k1), some (.int x2), none, some (.int x4)] [.int a8, .int 4, .int x4, .ref 8] σ7
  obtain ⟨σ9, e9, hf⟩ := bR_some hf
  refine h.callV (as := [.int x4, .int 4, .int a8]) (rest := []) (by decide +kernel) lk5_113 cwX4_write kd_8 (kmX4_write l kd_8 e9) rfl (Nat.le_of_ble_eq_true rfl) (Nat.le_of_ble_eq_true rfl) (Nat.le_of_ble_eq_true rfl) ?_
  show V 241 [some (.ref 0), some (.ref k1), some (.int x2), none, some (.int x4)] [] σ9
  refine h.drop (ls' := [none, none, none, none, none]) trivial ?_
  exact wX5_carryOut_241 hm hf
def fX5_carryOut (k1 : Nat) (x2 : Int32) (σ : ST) : Option ST :=
  bR (fX4_read k1 x2 1 σ) fun a1 =>
  if a1 = 115 then
    bI (fX4_open 6 σ) fun a8 σ8 =>
    bR (fX4_read k1 x2 2 σ8) fun a9 =>
    bR (fX4_write 6 a8 0 a9 σ8) fun σ10 =>
    bR (fX4_read k1 x2 3 σ10) fun a11 =>
    bR (fX4_write 6 a8 1 a11 σ10) fun σ12 =>
    bR (fX4_read k1 x2 4 σ12) fun a13 =>
    bR (fX4_write 6 a8 2 a13 σ12) fun σ14 =>
    fX5_carryOut_241 σ14
  else
    if a1 = 99 then
      bR (fX4_read k1 x2 2 σ) fun a6 =>
      fX5_carryOut_241 (setI σ 1 0 a6)
    else
      if a1 = 116 then
        bR (fX4_read k1 x2 2 σ) fun a4 =>
        fX5_carryOut_241 (setI σ 1 1 a4)
      else
        bI (fX4_open 8 σ) fun a2 σ2 =>
        if a1 = 120 then
          fX5_carryOut_162 k1 x2 a2 a2 0 1 σ2
        else
          fX5_carryOut_162 k1 x2 a2 a2 0 0 σ2
set_option maxHeartbeats 4000000 in
theorem kmX5_carryOut (l : Launch) {k1 : Nat} {x2 : Int32} {σ : ST} {τ : ST} (hk1 : kd k1 = 4) (hf : fX5_carryOut k1 x2 σ = some τ) : KM l yX5_carryOut cX5_carryOut 5 none 3 68 [.ref 0, .ref k1, .int x2] σ none τ := by
  refine KM.intro (ow := 5) (by decide +kernel) rfl (Nat.le_of_ble_eq_true rfl) (fun V hm => ?_)
  show V 0 [some (.ref 0), some (.ref k1), some (.int x2), none, none] [] σ
  have h := hm.bd
  unfold fX5_carryOut at hf
  refine h.run (o := []) (ls' := [some (.ref 0), some (.ref k1), some (.int x2), none, none]) (st' := [.int 1, .int x2, .ref k1]) (σ' := σ) [(.aload_n 1, 1, 0, 0, 0, 0), (.iload_n 2, 1, 0, 0, 0, 0), (.iconst 1, 1, 1, 0, 0, 0)] (pc2 := 3) (by decide +kernel) rfl trivial ?_
  obtain ⟨a1, e1, hf⟩ := bR_some hf
  refine h.callV (as := [.int x2, .int 1]) (rest := []) (by decide +kernel) lk5_87 cwX4_read hk1 (kmX4_read l hk1 e1) rfl (Nat.le_of_ble_eq_true rfl) (Nat.le_of_ble_eq_true rfl) (Nat.le_of_ble_eq_true rfl) ?_
  show V 6 [some (.ref 0), some (.ref k1), some (.int x2), none, none] [.int a1] σ
  refine h.run (o := []) (ls' := [some (.ref 0), some (.ref k1), some (.int x2), some (.int a1), none]) (st' := [.int 115, .int a1]) (σ' := σ) [(.istore_n 3, 1, 0, 0, 0, 0), (.iload_n 3, 1, 0, 0, 0, 0), (.bipush 115, 2, 115, 0, 0, 0)] (pc2 := 10) (by decide +kernel) rfl trivial ?_
  refine h.icmp_ne (tgt := 85) (show decode cX5_carryOut 10 = .ok (.if_icmp .ne 75, 3) by decide +kernel) (by decide) (fun c15 => ?_) (fun c15 => ?_)
  · rw [if_neg c15] at hf
    refine h.run (o := []) (ls' := [some (.ref 0), some (.ref k1), some (.int x2), some (.int a1), none]) (st' := [.int 99, .int a1]) (σ' := σ) [(.iload_n 3, 1, 0, 0, 0, 0), (.bipush 99, 2, 99, 0, 0, 0)] (pc2 := 88) (by decide +kernel) rfl trivial ?_
    refine h.icmp_ne (tgt := 107) (show decode cX5_carryOut 88 = .ok (.if_icmp .ne 19, 3) by decide +kernel) (by decide) (fun c7 => ?_) (fun c7 => ?_)
    · rw [if_neg c7] at hf
      refine h.run (o := []) (ls' := [some (.ref 0), some (.ref k1), some (.int x2), some (.int a1), none]) (st' := [.int 116, .int a1]) (σ' := σ) [(.iload_n 3, 1, 0, 0, 0, 0), (.bipush 116, 2, 116, 0, 0, 0)] (pc2 := 110) (by decide +kernel) rfl trivial ?_
      refine h.icmp_ne (tgt := 129) (show decode cX5_carryOut 110 = .ok (.if_icmp .ne 19, 3) by decide +kernel) (by decide) (fun c5 => ?_) (fun c5 => ?_)
      · rw [if_neg c5] at hf
        refine h.run (o := [kd 0 = 5, kd 1 = 0]) (ls' := [some (.ref 0), some (.ref k1), some (.int x2), some (.int a1), none]) (st' := [.ref 8]) (σ' := σ) [(.aload_n 0, 1, 0, 0, 0, 0), (.getfield 10, 3, 0, 0, 5, 0), (.getfield 91, 3, 0, 0, 0, 4)] (pc2 := 136) (by decide +kernel) rfl (And.intro kd_0 (And.intro kd_1 trivial)) ?_
        obtain ⟨a2, σ2, e2, hf⟩ := bI_some hf
        refine h.callV (as := []) (rest := []) (by decide +kernel) lk5_289 cwX4_open kd_8 (kmX4_open l kd_8 e2) rfl (Nat.le_of_ble_eq_true rfl) (Nat.le_of_ble_eq_true rfl) (Nat.le_of_ble_eq_true rfl) ?_
        show V 139 [some (.ref 0), some (.ref k1), some (.int x2), some (.int a1), none] [.int a2] σ2
        refine h.run (o := [kd 0 = 5, kd 1 = 0]) (ls' := [some (.ref 0), some (.ref k1), some (.int x2), some (.int a1), some (.int a2)]) (st' := [.int 120, .int a1, .int 0, .int a2, .ref 8]) (σ' := σ2) [(.istore 4, 2, 0, 0, 0, 0), (.aload_n 0, 1, 0, 0, 0, 0), (.getfield 10, 3, 0, 0, 5, 0), (.getfield 91, 3, 0, 0, 0, 4), (.iload 4, 2, 0, 0, 0, 0), (.iconst 0, 1, 0, 0, 0, 0), (.iload_n 3, 1, 0, 0, 0, 0), (.bipush 120, 2, 120, 0, 0, 0)] (pc2 := 154) (by decide +kernel) rfl (And.intro kd_0 (And.intro kd_1 trivial)) ?_
        refine h.icmp_ne (tgt := 161) (show decode cX5_carryOut 154 = .ok (.if_icmp .ne 7, 3) by decide +kernel) (by decide) (fun c3 => ?_) (fun c3 => ?_)
        · rw [if_neg c3] at hf
          refine h.run (o := []) (ls' := [some (.ref 0), some (.ref k1), some (.int x2), some (.int a1), some (.int a2)]) (st' := [.int 0, .int 0, .int a2, .ref 8]) (σ' := σ2) [(.iconst 0, 1, 0, 0, 0, 0)] (pc2 := 162) (by decide +kernel) rfl trivial ?_
          refine h.drop (ls' := [some (.ref 0), some (.ref k1), some (.int x2), none, some (.int a2)]) (And.intro rfl (And.intro rfl (And.intro rfl (And.intro rfl trivial)))) ?_
          exact wX5_carryOut_162 hm hk1 hf
        · rw [if_pos c3] at hf
          show V 157 [some (.ref 0), some (.ref k1), some (.int x2), some (.int a1), some (.int a2)] [.int 0, .int a2, .ref 8] σ2
          refine h.run (o := []) (ls' := [some (.ref 0), some (.ref k1), some (.int x2), some (.int a1), some (.int a2)]) (st' := [.int 1, .int 0, .int a2, .ref 8]) (σ' := σ2) [(.iconst 1, 1, 1, 0, 0, 0), (.goto 4, 3, 0, 0, 0, 162)] (pc2 := 162) (by decide +kernel) rfl trivial ?_
          refine h.drop (ls' := [some (.ref 0), some (.ref k1), some (.int x2), none, some (.int a2)]) (And.intro rfl (And.intro rfl (And.intro rfl (And.intro rfl trivial)))) ?_
          exact wX5_carryOut_162 hm hk1 hf
      · rw [if_pos c5] at hf
        show V 113 [some (.ref 0), some (.ref k1), some (.int x2), some (.int a1), none] [] σ
        refine h.run (o := [kd 0 = 5]) (ls' := [some (.ref 0), some (.ref k1), some (.int x2), some (.int a1), none]) (st' := [.int 2, .int x2, .ref k1, .ref 1]) (σ' := σ) [(.aload_n 0, 1, 0, 0, 0, 0), (.getfield 10, 3, 0, 0, 5, 0), (.aload_n 1, 1, 0, 0, 0, 0), (.iload_n 2, 1, 0, 0, 0, 0), (.iconst 2, 1, 2, 0, 0, 0)] (pc2 := 120) (by decide +kernel) rfl (And.intro kd_0 trivial) ?_
        obtain ⟨a4, e4, hf⟩ := bR_some hf
        refine h.callV (as := [.int x2, .int 2]) (rest := [.ref 1]) (by decide +kernel) lk5_87 cwX4_read hk1 (kmX4_read l hk1 e4) rfl (Nat.le_of_ble_eq_true rfl) (Nat.le_of_ble_eq_true rfl) (Nat.le_of_ble_eq_true rfl) ?_
        show V 123 [some (.ref 0), some (.ref k1), some (.int x2), some (.int a1), none] [.int a4, .ref 1] σ
        refine h.run (o := [kd 1 = 0]) (ls' := [some (.ref 0), some (.ref k1), some (.int x2), some (.int a1), none]) (st' := []) (σ' := setI σ 1 1 a4) [(.putfield 110, 3, 0, 0, 0, 1), (.goto 115, 3, 0, 0, 0, 241)] (pc2 := 241) (by decide +kernel) rfl (And.intro kd_1 trivial) ?_
        refine h.drop (ls' := [none, none, none, none, none]) trivial ?_
        exact wX5_carryOut_241 hm hf
    · rw [if_pos c7] at hf
      show V 91 [some (.ref 0), some (.ref k1), some (.int x2), some (.int a1), none] [] σ
      refine h.run (o := [kd 0 = 5]) (ls' := [some (.ref 0), some (.ref k1), some (.int x2), some (.int a1), none]) (st' := [.int 2, .int x2, .ref k1, .ref 1]) (σ' := σ) [(.aload_n 0, 1, 0, 0, 0, 0), (.getfield 10, 3, 0, 0, 5, 0), (.aload_n 1, 1, 0, 0, 0, 0), (.iload_n 2, 1, 0, 0, 0, 0), (.iconst 2, 1, 2, 0, 0, 0)] (pc2 := 98) (by decide +kernel) rfl (And.intro kd_0 trivial) ?_
      obtain ⟨a6, e6, hf⟩ := bR_some hf
      refine h.callV (as := [.int x2, .int 2]) (rest := [.ref 1]) (by decide +kernel) lk5_87 cwX4_read hk1 (kmX4_read l hk1 e6) rfl (Nat.le_of_ble_eq_true rfl) (Nat.le_of_ble_eq_true rfl) (Nat.le_of_ble_eq_true rfl) ?_
      show V 101 [some (.ref 0), some (.ref k1), some (.int x2), some (.int a1), none] [.int a6, .ref 1] σ
      refine h.run (o := [kd 1 = 0]) (ls' := [some (.ref 0), some (.ref k1), some (.int x2), some (.int a1), none]) (st' := []) (σ' := setI σ 1 0 a6) [(.putfield 107, 3, 0, 0, 0, 0), (.goto 137, 3, 0, 0, 0, 241)] (pc2 := 241) (by decide +kernel) rfl (And.intro kd_1 trivial) ?_
      refine h.drop (ls' := [none, none, none, none, none]) trivial ?_
      exact wX5_carryOut_241 hm hf
  · rw [if_pos c15] at hf
    show V 13 [some (.ref 0), some (.ref k1), some (.int x2), some (.int a1), none] [] σ
    refine h.run (o := [kd 0 = 5, kd 1 = 0]) (ls' := [some (.ref 0), some (.ref k1), some (.int x2), some (.int a1), none]) (st' := [.ref 6]) (σ' := σ) [(.aload_n 0, 1, 0, 0, 0, 0), (.getfield 10, 3, 0, 0, 5, 0), (.getfield 80, 3, 0, 0, 0, 3)] (pc2 := 20) (by decide +kernel) rfl (And.intro kd_0 (And.intro kd_1 trivial)) ?_
    obtain ⟨a8, σ8, e8, hf⟩ := bI_some hf
    refine h.callV (as := []) (rest := []) (by decide +kernel) lk5_289 cwX4_open kd_6 (kmX4_open l kd_6 e8) rfl (Nat.le_of_ble_eq_true rfl) (Nat.le_of_ble_eq_true rfl) (Nat.le_of_ble_eq_true rfl) ?_
    show V 23 [some (.ref 0), some (.ref k1), some (.int x2), some (.int a1), none] [.int a8] σ8
    refine h.run (o := [kd 0 = 5, kd 1 = 0]) (ls' := [some (.ref 0), some (.ref k1), some (.int x2), some (.int a1), some (.int a8)]) (st' := [.int 2, .int x2, .ref k1, .int 0, .int a8, .ref 6]) (σ' := σ8) [(.istore 4, 2, 0, 0, 0, 0), (.aload_n 0, 1, 0, 0, 0, 0), (.getfield 10, 3, 0, 0, 5, 0), (.getfield 80, 3, 0, 0, 0, 3), (.iload 4, 2, 0, 0, 0, 0), (.iconst 0, 1, 0, 0, 0, 0), (.aload_n 1, 1, 0, 0, 0, 0), (.iload_n 2, 1, 0, 0, 0, 0), (.iconst 2, 1, 2, 0, 0, 0)] (pc2 := 38) (by decide +kernel) rfl (And.intro kd_0 (And.intro kd_1 trivial)) ?_
    obtain ⟨a9, e9, hf⟩ := bR_some hf
    refine h.callV (as := [.int x2, .int 2]) (rest := [.int 0, .int a8, .ref 6]) (by decide +kernel) lk5_87 cwX4_read hk1 (kmX4_read l hk1 e9) rfl (Nat.le_of_ble_eq_true rfl) (Nat.le_of_ble_eq_true rfl) (Nat.le_of_ble_eq_true rfl) ?_
    show V 41 [some (.ref 0), some (.ref k1), some (.int x2), some (.int a1), some (.int a8)] [.int a9, .int 0, .int a8, .ref 6] σ8
    obtain ⟨σ10, e10, hf⟩ := bR_some hf
    refine h.callV (as := [.int a8, .int 0, .int a9]) (rest := []) (by decide +kernel) lk5_113 cwX4_write kd_6 (kmX4_write l kd_6 e10) rfl (Nat.le_of_ble_eq_true rfl) (Nat.le_of_ble_eq_true rfl) (Nat.le_of_ble_eq_true rfl) ?_
    show V 44 [some (.ref 0), some (.ref k1), some (.int x2), some (.int a1), some (.int a8)] [] σ10
    refine h.run (o := [kd 0 = 5, kd 1 = 0]) (ls' := [some (.ref 0), some (.ref k1), some (.int x2), some (.int a1), some (.int a8)]) (st' := [.int 3, .int x2, .ref k1, .int 1, .int a8, .ref 6]) (σ' := σ10) [(.aload_n 0, 1, 0, 0, 0, 0), (.getfield 10, 3, 0, 0, 5, 0), (.getfield 80, 3, 0, 0, 0, 3), (.iload 4, 2, 0, 0, 0, 0), (.iconst 1, 1, 1, 0, 0, 0), (.aload_n 1, 1, 0, 0, 0, 0), (.iload_n 2, 1, 0, 0, 0, 0), (.iconst 3, 1, 3, 0, 0, 0)] (pc2 := 57) (by decide +kernel) rfl (And.intro kd_0 (And.intro kd_1 trivial)) ?_
    obtain ⟨a11, e11, hf⟩ := bR_some hf
    refine h.callV (as := [.int x2, .int 3]) (rest := [.int 1, .int a8, .ref 6]) (by decide +kernel) lk5_87 cwX4_read hk1 (kmX4_read l hk1 e11) rfl (Nat.le_of_ble_eq_true rfl) (Nat.le_of_ble_eq_true rfl) (Nat.le_of_ble_eq_true rfl) ?_
    show V 60 [some (.ref 0), some (.ref k1), some (.int x2), some (.int a1), some (.int a8)] [.int a11, .int 1, .int a8, .ref 6] σ10
    obtain ⟨σ12, e12, hf⟩ := bR_some hf
    refine h.callV (as := [.int a8, .int 1, .int a11]) (rest := []) (by decide +kernel) lk5_113 cwX4_write kd_6 (kmX4_write l kd_6 e12) rfl (Nat.le_of_ble_eq_true rfl) (Nat.le_of_ble_eq_true rfl) (Nat.le_of_ble_eq_true rfl) ?_
    show V 63 [some (.ref 0), some (.ref k1), some (.int x2), some (.int a1), some (.int a8)] [] σ12
    refine h.run (o := [kd 0 = 5, kd 1 = 0]) (ls' := [some (.ref 0), some (.ref k1), some (.int x2), some (.int a1), some (.int a8)]) (st' := [.int 4, .int x2, .ref k1, .int 2, .int a8, .ref 6]) (σ' := σ12) [(.aload_n 0, 1, 0, 0, 0, 0), (.getfield 10, 3, 0, 0, 5, 0), (.getfield 80, 3, 0, 0, 0, 3), (.iload 4, 2, 0, 0, 0, 0), (.iconst 2, 1, 2, 0, 0, 0), (.aload_n 1, 1, 0, 0, 0, 0), (.iload_n 2, 1, 0, 0, 0, 0), (.iconst 4, 1, 4, 0, 0, 0)] (pc2 := 76) (by decide +kernel) rfl (And.intro kd_0 (And.intro kd_1 trivial)) ?_
    obtain ⟨a13, e13, hf⟩ := bR_some hf
    refine h.callV (as := [.int x2, .int 4]) (rest := [.int 2, .int a8, .ref 6]) (by decide +kernel) lk5_87 cwX4_read hk1 (kmX4_read l hk1 e13) rfl (Nat.le_of_ble_eq_true rfl) (Nat.le_of_ble_eq_true rfl) (Nat.le_of_ble_eq_true rfl) ?_
    show V 79 [some (.ref 0), some (.ref k1), some (.int x2), some (.int a1), some (.int a8)] [.int a13, .int 2, .int a8, .ref 6] σ12
    obtain ⟨σ14, e14, hf⟩ := bR_some hf
    refine h.callV (as := [.int a8, .int 2, .int a13]) (rest := []) (by decide +kernel) lk5_113 cwX4_write kd_6 (kmX4_write l kd_6 e14) rfl (Nat.le_of_ble_eq_true rfl) (Nat.le_of_ble_eq_true rfl) (Nat.le_of_ble_eq_true rfl) ?_
    show V 82 [some (.ref 0), some (.ref k1), some (.int x2), some (.int a1), some (.int a8)] [] σ14
    refine h.run (o := []) (ls' := [some (.ref 0), some (.ref k1), some (.int x2), some (.int a1), some (.int a8)]) (st' := []) (σ' := σ14) [(.goto 159, 3, 0, 0, 0, 241)] (pc2 := 241) (by decide +kernel) rfl trivial ?_
    refine h.drop (ls' := [none, none, none, none, none]) trivial ?_
    exact wX5_carryOut_241 hm hf
def fX5_room_84 (n : Nat) (x5 : Int32) (σ : ST) : Option (Int32 × ST) := match n with
  | 0 => none
  | n + 1 =>
    if (σ.1 18 3) ≤ x5 then
      some (σ.1 18 3, σ)
    else
      bR (fX5_carryOut 18 x5 σ) fun σ1 =>
      fX5_room_84 n (x5 + 1) σ1
set_option maxHeartbeats 4000000 in
theorem wX5_room_84 {l : Launch} {V : Nat → List (Option Value) → List Value → ST → Prop} {r : Int32} {τ : ST} (hm : BM l 5 cX5_room 6 (some .int) 6 144 (some (.int r)) τ V) : ∀ (n : Nat) (x5 : Int32) (σ : ST), fX5_room_84 n x5 σ = some (r, τ) → V 84 [some (.ref 0), none, none, none, none, some (.int x5)] [] σ := by
  have h := hm.bd
  intro n
  induction n with
  | zero => intro x5 σ hf; cases hf
  | succ n ih =>
    intro x5 σ hf
    rw [fX5_room_84] at hf
    refine h.run (o := [kd 0 = 5, kd 4 = 2, kd 18 = 4]) (ls' := [some (.ref 0), none, none, none, none, some (.int x5)]) (st' := [.int (σ.1 18 3), .int x5]) (σ' := σ) [(.iload 5, 2, 0, 0, 0, 0), (.aload_n 0, 1, 0, 0, 0, 0), (.getfield 33, 3, 0, 0, 5, 4), (.getfield 63, 3, 0, 0, 2, 0), (.getfield 71, 3, 0, 0, 4, 3)] (pc2 := 96) (by decide +kernel) rfl (And.intro kd_0 (And.intro kd_4 (And.intro kd_18 trivial))) ?_
    refine h.icmp_ge (tgt := 118) (show decode cX5_room 96 = .ok (.if_icmp .ge 22, 3) by decide +kernel) (by decide) (fun c2 => ?_) (fun c2 => ?_)
    · rw [if_pos c2] at hf
      refine h.run (o := [kd 0 = 5, kd 4 = 2, kd 18 = 4]) (ls' := [some (.ref 0), none, none, none, none, some (.int x5)]) (st' := [.int (σ.1 18 3)]) (σ' := σ) [(.aload_n 0, 1, 0, 0, 0, 0), (.getfield 33, 3, 0, 0, 5, 4), (.getfield 63, 3, 0, 0, 2, 0), (.getfield 71, 3, 0, 0, 4, 3)] (pc2 := 128) (by decide +kernel) rfl (And.intro kd_0 (And.intro kd_4 (And.intro kd_18 trivial))) ?_
      obtain ⟨rfl, rfl⟩ := Prod.mk.inj (Option.some.inj hf)
      exact hm.iret (by decide +kernel)
    · rw [if_neg c2] at hf
      show V 99 [some (.ref 0), none, none, none, none, some (.int x5)] [] σ
      refine h.run (o := [kd 0 = 5, kd 4 = 2]) (ls' := [some (.ref 0), none, none, none, none, some (.int x5)]) (st' := [.int x5, .ref 18, .ref 0]) (σ' := σ) [(.aload_n 0, 1, 0, 0, 0, 0), (.aload_n 0, 1, 0, 0, 0, 0), (.getfield 33, 3, 0, 0, 5, 4), (.getfield 63, 3, 0, 0, 2, 0), (.iload 5, 2, 0, 0, 0, 0)] (pc2 := 109) (by decide +kernel) rfl (And.intro kd_0 (And.intro kd_4 trivial)) ?_
      obtain ⟨σ1, e1, hf⟩ := bR_some hf
      refine h.callV (as := [.ref 18, .int x5]) (rest := []) (by decide +kernel) lk5_76 cwX5_carryOut kd_0 (kmX5_carryOut l kd_18 e1) rfl (Nat.le_of_ble_eq_true rfl) (Nat.le_of_ble_eq_true rfl) (Nat.le_of_ble_eq_true rfl) ?_
      show V 112 [some (.ref 0), none, none, none, none, some (.int x5)] [] σ1
      refine h.run (o := []) (ls' := [some (.ref 0), none, none, none, none, some (.int (x5 + 1))]) (st' := []) (σ' := σ1) [(.iinc 5 1, 3, 1, 0, 0, 0), (.goto (-31), 3, 0, 0, 0, 84)] (pc2 := 84) (by decide +kernel) rfl trivial ?_
      exact ih (x5 + 1) _ hf
def fX5_room (x1 : Int32) (σ : ST) : Option (Int32 × ST) :=
  bR (fX5_shelfAt x1 σ) fun o1 =>
  match o1 with
  | none =>
    some ((-1), σ)
  | some s1 =>
    bR (fX3_refusalAsRow s1 σ) fun a2 =>
    if a2 = 0 then
      if (σ.1 s1 5) = 0 then
        bI (fX2_takesIn s1 σ) fun a3 σ3 =>
        if a3 = 0 then
          some ((-1000) - (σ3.1 4 1), σ3)
        else
          bR (fX5_placeOfUntold 18 σ3) fun a4 =>
          if a4 < 0 then
            fX5_room_84 FU 0 σ3
          else
            some ((-2000) - a4, σ3)
      else
        some ((-12), σ)
    else
      some (a2, σ)
set_option maxHeartbeats 4000000 in
theorem kmX5_room (l : Launch) {x1 : Int32} {σ : ST} {r : Int32} {τ : ST} (hf : fX5_room x1 σ = some (r, τ)) : KM l yX5_room cX5_room 6 (some .int) 6 144 [.ref 0, .int x1] σ (some (.int r)) τ := by
  refine KM.intro (ow := 5) (by decide +kernel) rfl (Nat.le_of_ble_eq_true rfl) (fun V hm => ?_)
  show V 0 [some (.ref 0), some (.int x1), none, none, none, none] [] σ
  have h := hm.bd
  unfold fX5_room at hf
  refine h.run (o := []) (ls' := [some (.ref 0), some (.int x1), none, none, none, none]) (st' := [.int x1, .ref 0]) (σ' := σ) [(.aload_n 0, 1, 0, 0, 0, 0), (.iload_n 1, 1, 0, 0, 0, 0)] (pc2 := 2) (by decide +kernel) rfl trivial ?_
  obtain ⟨o1, e1, hf⟩ := bR_some hf
  refine h.callV (as := [.int x1]) (rest := []) (by decide +kernel) lk5_44 cwX5_shelfAt kd_0 (kmX5_shelfAt l e1) rfl (Nat.le_of_ble_eq_true rfl) (Nat.le_of_ble_eq_true rfl) (Nat.le_of_ble_eq_true rfl) ?_
  cases o1 with
  | none =>
    dsimp only at hf
    show V 5 [some (.ref 0), some (.int x1), none, none, none, none] [.null] σ
    refine h.run (o := []) (ls' := [some (.ref 0), some (.int x1), some (.null), none, none, none]) (st' := [.null]) (σ' := σ) [(.astore_n 2, 1, 0, 0, 0, 0), (.aload_n 2, 1, 0, 0, 0, 0)] (pc2 := 7) (by decide +kernel) rfl trivial ?_
    refine h.ifnonnullN (show decode cX5_room 7 = .ok (.ifnonnull 5, 3) by decide +kernel) ?_
    show V 10 [some (.ref 0), some (.int x1), some (.null), none, none, none] [] σ
    refine h.run (o := []) (ls' := [some (.ref 0), some (.int x1), some (.null), none, none, none]) (st' := [.int (-1)]) (σ' := σ) [(.iconst (-1), 1, (-1), 0, 0, 0)] (pc2 := 11) (by decide +kernel) rfl trivial ?_
    obtain ⟨rfl, rfl⟩ := Prod.mk.inj (Option.some.inj hf)
    exact hm.iret (by decide +kernel)
  | some s1 =>
    dsimp only at hf
    have hs1 : kd s1 = 3 := shelfAt_kd e1
    show V 5 [some (.ref 0), some (.int x1), none, none, none, none] [.ref s1] σ
    refine h.run (o := []) (ls' := [some (.ref 0), some (.int x1), some (.ref s1), none, none, none]) (st' := [.ref s1]) (σ' := σ) [(.astore_n 2, 1, 0, 0, 0, 0), (.aload_n 2, 1, 0, 0, 0, 0)] (pc2 := 7) (by decide +kernel) rfl trivial ?_
    refine h.ifnonnull (show decode cX5_room 7 = .ok (.ifnonnull 5, 3) by decide +kernel) (tgt := 12) (by decide) ?_
    refine h.run (o := []) (ls' := [some (.ref 0), some (.int x1), some (.ref s1), none, none, none]) (st' := [.ref s1]) (σ' := σ) [(.aload_n 2, 1, 0, 0, 0, 0)] (pc2 := 13) (by decide +kernel) rfl trivial ?_
    obtain ⟨a2, e2, hf⟩ := bR_some hf
    refine h.callV (as := []) (rest := []) (by decide +kernel) lk5_48 cwX3_refusalAsRow hs1 (kmX3_refusalAsRow l hs1 e2) rfl (Nat.le_of_ble_eq_true rfl) (Nat.le_of_ble_eq_true rfl) (Nat.le_of_ble_eq_true rfl) ?_
    show V 16 [some (.ref 0), some (.int x1), some (.ref s1), none, none, none] [.int a2] σ
    refine h.run (o := []) (ls' := [some (.ref 0), some (.int x1), some (.ref s1), some (.int a2), none, none]) (st' := [.int a2]) (σ' := σ) [(.istore_n 3, 1, 0, 0, 0, 0), (.iload_n 3, 1, 0, 0, 0, 0)] (pc2 := 18) (by decide +kernel) rfl trivial ?_
    refine h.if_eq (tgt := 23) (show decode cX5_room 18 = .ok (.ifCond .eq 5, 3) by decide +kernel) (by decide) (fun c8 => ?_) (fun c8 => ?_)
    · rw [if_pos c8] at hf
      refine h.run (o := [kd s1 = 3]) (ls' := [some (.ref 0), some (.int x1), some (.ref s1), some (.int a2), none, none]) (st' := [.int (σ.1 s1 5)]) (σ' := σ) [(.aload_n 2, 1, 0, 0, 0, 0), (.getfield 52, 3, 0, 0, 3, 5)] (pc2 := 27) (by decide +kernel) rfl (And.intro hs1 trivial) ?_
      refine h.if_eq (tgt := 33) (show decode cX5_room 27 = .ok (.ifCond .eq 6, 3) by decide +kernel) (by decide) (fun c7 => ?_) (fun c7 => ?_)
      · rw [if_pos c7] at hf
        refine h.run (o := [kd 0 = 5]) (ls' := [some (.ref 0), some (.int x1), some (.ref s1), some (.int a2), none, none]) (st' := [.ref s1, .ref 4]) (σ' := σ) [(.aload_n 0, 1, 0, 0, 0, 0), (.getfield 33, 3, 0, 0, 5, 4), (.aload_n 2, 1, 0, 0, 0, 0)] (pc2 := 38) (by decide +kernel) rfl (And.intro kd_0 trivial) ?_
        obtain ⟨a3, σ3, e3, hf⟩ := bI_some hf
        refine h.callV (as := [.ref s1]) (rest := []) (by decide +kernel) lk5_56 cwX2_takesIn kd_4 (kmX2_takesIn l hs1 e3) rfl (Nat.le_of_ble_eq_true rfl) (Nat.le_of_ble_eq_true rfl) (Nat.le_of_ble_eq_true rfl) ?_
        show V 41 [some (.ref 0), some (.int x1), some (.ref s1), some (.int a2), none, none] [.int a3] σ3
        refine h.if_ne (tgt := 56) (show decode cX5_room 41 = .ok (.ifCond .ne 15, 3) by decide +kernel) (by decide) (fun c6 => ?_) (fun c6 => ?_)
        · rw [if_neg c6] at hf
          refine h.run (o := [kd 0 = 5, kd 4 = 2]) (ls' := [some (.ref 0), some (.int x1), some (.ref s1), some (.int a2), none, none]) (st' := [.ref 18, .ref 0]) (σ' := σ3) [(.aload_n 0, 1, 0, 0, 0, 0), (.aload_n 0, 1, 0, 0, 0, 0), (.getfield 33, 3, 0, 0, 5, 4), (.getfield 63, 3, 0, 0, 2, 0)] (pc2 := 64) (by decide +kernel) rfl (And.intro kd_0 (And.intro kd_4 trivial)) ?_
          obtain ⟨a4, e4, hf⟩ := bR_some hf
          refine h.callV (as := [.ref 18]) (rest := []) (by decide +kernel) lk5_67 cwX5_placeOfUntold kd_0 (kmX5_placeOfUntold l kd_18 e4) rfl (Nat.le_of_ble_eq_true rfl) (Nat.le_of_ble_eq_true rfl) (Nat.le_of_ble_eq_true rfl) ?_
          show V 67 [some (.ref 0), some (.int x1), some (.ref s1), some (.int a2), none, none] [.int a4] σ3
          refine h.run (o := []) (ls' := [some (.ref 0), some (.int x1), some (.ref s1), some (.int a2), some (.int a4), none]) (st' := [.int a4]) (σ' := σ3) [(.istore 4, 2, 0, 0, 0, 0), (.iload 4, 2, 0, 0, 0, 0)] (pc2 := 71) (by decide +kernel) rfl trivial ?_
          refine h.if_lt (tgt := 81) (show decode cX5_room 71 = .ok (.ifCond .lt 10, 3) by decide +kernel) (by decide) (fun c5 => ?_) (fun c5 => ?_)
          · rw [if_pos c5] at hf
            refine h.run (o := []) (ls' := [some (.ref 0), some (.int x1), some (.ref s1), some (.int a2), some (.int a4), some (.int 0)]) (st' := []) (σ' := σ3) [(.iconst 0, 1, 0, 0, 0, 0), (.istore 5, 2, 0, 0, 0, 0)] (pc2 := 84) (by decide +kernel) rfl trivial ?_
            refine h.drop (ls' := [some (.ref 0), none, none, none, none, some (.int 0)]) (And.intro rfl (And.intro rfl trivial)) ?_
            exact wX5_room_84 hm FU 0 _ hf
          · rw [if_neg c5] at hf
            show V 74 [some (.ref 0), some (.int x1), some (.ref s1), some (.int a2), some (.int a4), none] [] σ3
            refine h.run (o := []) (ls' := [some (.ref 0), some (.int x1), some (.ref s1), some (.int a2), some (.int a4), none]) (st' := [.int ((-2000) - a4)]) (σ' := σ3) [(.sipush (-2000), 3, (-2000), 0, 0, 0), (.iload 4, 2, 0, 0, 0, 0), (.isub, 1, 0, 0, 0, 0)] (pc2 := 80) (by decide +kernel) rfl trivial ?_
            obtain ⟨rfl, rfl⟩ := Prod.mk.inj (Option.some.inj hf)
            exact hm.iret (by decide +kernel)
        · rw [if_pos c6] at hf
          show V 44 [some (.ref 0), some (.int x1), some (.ref s1), some (.int a2), none, none] [] σ3
          refine h.run (o := [kd 0 = 5, kd 4 = 2]) (ls' := [some (.ref 0), some (.int x1), some (.ref s1), some (.int a2), none, none]) (st' := [.int ((-1000) - (σ3.1 4 1))]) (σ' := σ3) [(.sipush (-1000), 3, (-1000), 0, 0, 0), (.aload_n 0, 1, 0, 0, 0, 0), (.getfield 33, 3, 0, 0, 5, 4), (.getfield 60, 3, 0, 0, 2, 1), (.isub, 1, 0, 0, 0, 0)] (pc2 := 55) (by decide +kernel) rfl (And.intro kd_0 (And.intro kd_4 trivial)) ?_
          obtain ⟨rfl, rfl⟩ := Prod.mk.inj (Option.some.inj hf)
          exact hm.iret (by decide +kernel)
      · rw [if_neg c7] at hf
        show V 30 [some (.ref 0), some (.int x1), some (.ref s1), some (.int a2), none, none] [] σ
        refine h.run (o := []) (ls' := [some (.ref 0), some (.int x1), some (.ref s1), some (.int a2), none, none]) (st' := [.int (-12)]) (σ' := σ) [(.bipush (-12), 2, (-12), 0, 0, 0)] (pc2 := 32) (by decide +kernel) rfl trivial ?_
        obtain ⟨rfl, rfl⟩ := Prod.mk.inj (Option.some.inj hf)
        exact hm.iret (by decide +kernel)
    · rw [if_neg c8] at hf
      show V 21 [some (.ref 0), some (.int x1), some (.ref s1), some (.int a2), none, none] [] σ
      refine h.run (o := []) (ls' := [some (.ref 0), some (.int x1), some (.ref s1), some (.int a2), none, none]) (st' := [.int a2]) (σ' := σ) [(.iload_n 3, 1, 0, 0, 0, 0)] (pc2 := 22) (by decide +kernel) rfl trivial ?_
      obtain ⟨rfl, rfl⟩ := Prod.mk.inj (Option.some.inj hf)
      exact hm.iret (by decide +kernel)
def fX5_sender_23 (σ : ST) : Option Int32 :=
  some (-1)
set_option maxHeartbeats 4000000 in
theorem wX5_sender_23 {l : Launch} {V : Nat → List (Option Value) → List Value → ST → Prop} {r : Int32} {σ : ST} (hm : BM l 5 cX5_sender 3 (some .int) 2 46 (some (.int r)) σ V) (hf : fX5_sender_23 σ = some r) : V 23 [none, none, none] [] σ := by
  have h := hm.bd
  unfold fX5_sender_23 at hf
  refine h.run (o := []) (ls' := [none, none, none]) (st' := [.int (-1)]) (σ' := σ) [(.iconst (-1), 1, (-1), 0, 0, 0)] (pc2 := 24) (by decide +kernel) rfl trivial ?_
  obtain rfl := Option.some.inj hf
  exact hm.iret (by decide +kernel)
def fX5_sender (x1 : Int32) (x2 : Int32) (σ : ST) : Option Int32 :=
  bR (fX4_has 6 x1 σ) fun a1 =>
  if a1 = 0 then
    fX5_sender_23 σ
  else
    if x2 < 0 then
      fX5_sender_23 σ
    else
      if x2 < 3 then
        bR (fX4_read 6 x1 x2 σ) fun a2 =>
        some a2
      else
        fX5_sender_23 σ
set_option maxHeartbeats 4000000 in
theorem kmX5_sender (l : Launch) {x1 : Int32} {x2 : Int32} {σ : ST} {r : Int32} (hf : fX5_sender x1 x2 σ = some r) : KM l yX5_sender cX5_sender 3 (some .int) 2 46 [.ref 0, .int x1, .int x2] σ (some (.int r)) σ := by
  refine KM.intro (ow := 5) (by decide +kernel) rfl (Nat.le_of_ble_eq_true rfl) (fun V hm => ?_)
  show V 0 [some (.ref 0), some (.int x1), some (.int x2)] [] σ
  have h := hm.bd
  unfold fX5_sender at hf
  refine h.run (o := [kd 0 = 5, kd 1 = 0]) (ls' := [some (.ref 0), some (.int x1), some (.int x2)]) (st' := [.int x1, .ref 6]) (σ' := σ) [(.aload_n 0, 1, 0, 0, 0, 0), (.getfield 10, 3, 0, 0, 5, 0), (.getfield 80, 3, 0, 0, 0, 3), (.iload_n 1, 1, 0, 0, 0, 0)] (pc2 := 8) (by decide +kernel) rfl (And.intro kd_0 (And.intro kd_1 trivial)) ?_
  obtain ⟨a1, e1, hf⟩ := bR_some hf
  refine h.callV (as := [.int x1]) (rest := []) (by decide +kernel) lk5_83 cwX4_has kd_6 (kmX4_has l kd_6 e1) rfl (Nat.le_of_ble_eq_true rfl) (Nat.le_of_ble_eq_true rfl) (Nat.le_of_ble_eq_true rfl) ?_
  show V 11 [some (.ref 0), some (.int x1), some (.int x2)] [.int a1] σ
  refine h.if_eq (tgt := 23) (show decode cX5_sender 11 = .ok (.ifCond .eq 12, 3) by decide +kernel) (by decide) (fun c5 => ?_) (fun c5 => ?_)
  · rw [if_pos c5] at hf
    refine h.drop (ls' := [none, none, none]) trivial ?_
    exact wX5_sender_23 hm hf
  · rw [if_neg c5] at hf
    show V 14 [some (.ref 0), some (.int x1), some (.int x2)] [] σ
    refine h.run (o := []) (ls' := [some (.ref 0), some (.int x1), some (.int x2)]) (st' := [.int x2]) (σ' := σ) [(.iload_n 2, 1, 0, 0, 0, 0)] (pc2 := 15) (by decide +kernel) rfl trivial ?_
    refine h.if_lt (tgt := 23) (show decode cX5_sender 15 = .ok (.ifCond .lt 8, 3) by decide +kernel) (by decide) (fun c4 => ?_) (fun c4 => ?_)
    · rw [if_pos c4] at hf
      refine h.drop (ls' := [none, none, none]) trivial ?_
      exact wX5_sender_23 hm hf
    · rw [if_neg c4] at hf
      show V 18 [some (.ref 0), some (.int x1), some (.int x2)] [] σ
      refine h.run (o := []) (ls' := [some (.ref 0), some (.int x1), some (.int x2)]) (st' := [.int 3, .int x2]) (σ' := σ) [(.iload_n 2, 1, 0, 0, 0, 0), (.iconst 3, 1, 3, 0, 0, 0)] (pc2 := 20) (by decide +kernel) rfl trivial ?_
      refine h.icmp_lt (tgt := 25) (show decode cX5_sender 20 = .ok (.if_icmp .lt 5, 3) by decide +kernel) (by decide) (fun c3 => ?_) (fun c3 => ?_)
      · rw [if_pos c3] at hf
        refine h.run (o := [kd 0 = 5, kd 1 = 0]) (ls' := [some (.ref 0), some (.int x1), some (.int x2)]) (st' := [.int x2, .int x1, .ref 6]) (σ' := σ) [(.aload_n 0, 1, 0, 0, 0, 0), (.getfield 10, 3, 0, 0, 5, 0), (.getfield 80, 3, 0, 0, 0, 3), (.iload_n 1, 1, 0, 0, 0, 0), (.iload_n 2, 1, 0, 0, 0, 0)] (pc2 := 34) (by decide +kernel) rfl (And.intro kd_0 (And.intro kd_1 trivial)) ?_
        obtain ⟨a2, e2, hf⟩ := bR_some hf
        refine h.callV (as := [.int x1, .int x2]) (rest := []) (by decide +kernel) lk5_87 cwX4_read kd_6 (kmX4_read l kd_6 e2) rfl (Nat.le_of_ble_eq_true rfl) (Nat.le_of_ble_eq_true rfl) (Nat.le_of_ble_eq_true rfl) ?_
        show V 37 [some (.ref 0), some (.int x1), some (.int x2)] [.int a2] σ
        obtain rfl := Option.some.inj hf
        exact hm.iret (by decide +kernel)
      · rw [if_neg c3] at hf
        show V 23 [some (.ref 0), some (.int x1), some (.int x2)] [] σ
        refine h.drop (ls' := [none, none, none]) trivial ?_
        exact wX5_sender_23 hm hf
def fX5_bringPastOf (x1 : Int32) (σ : ST) : Option ST :=
  bR (fX4_sumWhere 10 1 x1 3 σ) fun a1 =>
  bR (fX4_sumWhere 10 1 x1 4 (setI σ 3 11 a1)) fun a2 =>
  some (setI (setI σ 3 11 a1) 3 12 a2)
set_option maxHeartbeats 4000000 in
theorem kmX5_bringPastOf (l : Launch) {x1 : Int32} {σ : ST} {τ : ST} (hf : fX5_bringPastOf x1 σ = some τ) : KM l yX5_bringPastOf cX5_bringPastOf 2 none 3 71 [.ref 0, .int x1] σ none τ := by
  refine KM.intro (ow := 5) (by decide +kernel) rfl (Nat.le_of_ble_eq_true rfl) (fun V hm => ?_)
  show V 0 [some (.ref 0), some (.int x1)] [] σ
  have h := hm.bd
  unfold fX5_bringPastOf at hf
  refine h.run (o := [kd 0 = 5, kd 0 = 5, kd 1 = 0]) (ls' := [some (.ref 0), some (.int x1)]) (st' := [.int 3, .int x1, .int 1, .ref 10, .ref 3]) (σ' := σ) [(.aload_n 0, 1, 0, 0, 0, 0), (.getfield 26, 3, 0, 0, 5, 3), (.aload_n 0, 1, 0, 0, 0, 0), (.getfield 10, 3, 0, 0, 5, 0), (.getfield 104, 3, 0, 0, 0, 5), (.iconst 1, 1, 1, 0, 0, 0), (.iload_n 1, 1, 0, 0, 0, 0), (.iconst 3, 1, 3, 0, 0, 0)] (pc2 := 14) (by decide +kernel) rfl (And.intro kd_0 (And.intro kd_0 (And.intro kd_1 trivial))) ?_
  obtain ⟨a1, e1, hf⟩ := bR_some hf
  refine h.callV (as := [.int 1, .int x1, .int 3]) (rest := [.ref 3]) (by decide +kernel) lk5_125 cwX4_sumWhere kd_10 (kmX4_sumWhere l kd_10 e1) rfl (Nat.le_of_ble_eq_true rfl) (Nat.le_of_ble_eq_true rfl) (Nat.le_of_ble_eq_true rfl) ?_
  show V 17 [some (.ref 0), some (.int x1)] [.int a1, .ref 3] σ
  refine h.run (o := [kd 3 = 1, kd 0 = 5, kd 0 = 5, kd 1 = 0]) (ls' := [some (.ref 0), some (.int x1)]) (st' := [.int 4, .int x1, .int 1, .ref 10, .ref 3]) (σ' := setI σ 3 11 a1) [(.putfield 276, 3, 0, 0, 1, 11), (.aload_n 0, 1, 0, 0, 0, 0), (.getfield 26, 3, 0, 0, 5, 3), (.aload_n 0, 1, 0, 0, 0, 0), (.getfield 10, 3, 0, 0, 5, 0), (.getfield 104, 3, 0, 0, 0, 5), (.iconst 1, 1, 1, 0, 0, 0), (.iload_n 1, 1, 0, 0, 0, 0), (.iconst 4, 1, 4, 0, 0, 0)] (pc2 := 34) (by decide +kernel) rfl (And.intro kd_3 (And.intro kd_0 (And.intro kd_0 (And.intro kd_1 trivial)))) ?_
  obtain ⟨a2, e2, hf⟩ := bR_some hf
  refine h.callV (as := [.int 1, .int x1, .int 4]) (rest := [.ref 3]) (by decide +kernel) lk5_125 cwX4_sumWhere kd_10 (kmX4_sumWhere l kd_10 e2) rfl (Nat.le_of_ble_eq_true rfl) (Nat.le_of_ble_eq_true rfl) (Nat.le_of_ble_eq_true rfl) ?_
  show V 37 [some (.ref 0), some (.int x1)] [.int a2, .ref 3] (setI σ 3 11 a1)
  refine h.run (o := [kd 3 = 1]) (ls' := [some (.ref 0), some (.int x1)]) (st' := []) (σ' := setI (setI σ 3 11 a1) 3 12 a2) [(.putfield 279, 3, 0, 0, 1, 12)] (pc2 := 40) (by decide +kernel) rfl (And.intro kd_3 trivial) ?_
  obtain rfl := Option.some.inj hf
  exact hm.vret (by decide +kernel)
end
section
/-! Printed by wip/whole/prt.py: functions and walks. -/
def fX5_returner_23 (σ : ST) : Option (Int32 × ST) :=
  some ((-1), σ)
set_option maxHeartbeats 4000000 in
theorem wX5_returner_23 {l : Launch} {V : Nat → List (Option Value) → List Value → ST → Prop} {r : Int32} {τ : ST} {σ : ST} (hm : BM l 5 cX5_returner 4 (some .int) 4 92 (some (.int r)) τ V) (hf : fX5_returner_23 σ = some (r, τ)) : V 23 [none, none, none, none] [] σ := by
  have h := hm.bd
  unfold fX5_returner_23 at hf
  refine h.run (o := []) (ls' := [none, none, none, none]) (st' := [.int (-1)]) (σ' := σ) [(.iconst (-1), 1, (-1), 0, 0, 0)] (pc2 := 24) (by decide +kernel) rfl trivial ?_
  obtain ⟨rfl, rfl⟩ := Prod.mk.inj (Option.some.inj hf)
  exact hm.iret (by decide +kernel)
def fX5_returner_67 (t0 : Int32) (σ : ST) : Option (Int32 × ST) :=
  some (t0, σ)
set_option maxHeartbeats 4000000 in
theorem wX5_returner_67 {l : Launch} {V : Nat → List (Option Value) → List Value → ST → Prop} {r : Int32} {τ : ST} {σ : ST} {t0 : Int32} (hm : BM l 5 cX5_returner 4 (some .int) 4 92 (some (.int r)) τ V) (hf : fX5_returner_67 t0 σ = some (r, τ)) : V 67 [none, none, none, none] [.int t0] σ := by
  have h := hm.bd
  unfold fX5_returner_67 at hf
  obtain ⟨rfl, rfl⟩ := Prod.mk.inj (Option.some.inj hf)
  exact hm.iret (by decide +kernel)
def fX5_returner (x1 : Int32) (x2 : Int32) (σ : ST) : Option (Int32 × ST) :=
  bR (fX4_has 8 x1 σ) fun a1 =>
  if a1 = 0 then
    fX5_returner_23 σ
  else
    if x2 < 0 then
      fX5_returner_23 σ
    else
      if x2 ≤ 5 then
        if 5 ≤ x2 then
          bR (fX5_bringPastOf x1 σ) fun σ2 =>
          bR (fX1_nameOfReturner σ2) fun a3 =>
          if a3 = (-1) then
            fX5_returner_67 (-4) σ2
          else
            fX5_returner_67 a3 σ2
        else
          bR (fX4_read 8 x1 x2 σ) fun a5 =>
          some (a5, σ)
      else
        fX5_returner_23 σ
set_option maxHeartbeats 4000000 in
theorem kmX5_returner (l : Launch) {x1 : Int32} {x2 : Int32} {σ : ST} {r : Int32} {τ : ST} (hf : fX5_returner x1 x2 σ = some (r, τ)) : KM l yX5_returner cX5_returner 4 (some .int) 4 92 [.ref 0, .int x1, .int x2] σ (some (.int r)) τ := by
  refine KM.intro (ow := 5) (by decide +kernel) rfl (Nat.le_of_ble_eq_true rfl) (fun V hm => ?_)
  show V 0 [some (.ref 0), some (.int x1), some (.int x2), none] [] σ
  have h := hm.bd
  unfold fX5_returner at hf
  refine h.run (o := [kd 0 = 5, kd 1 = 0]) (ls' := [some (.ref 0), some (.int x1), some (.int x2), none]) (st' := [.int x1, .ref 8]) (σ' := σ) [(.aload_n 0, 1, 0, 0, 0, 0), (.getfield 10, 3, 0, 0, 5, 0), (.getfield 91, 3, 0, 0, 0, 4), (.iload_n 1, 1, 0, 0, 0, 0)] (pc2 := 8) (by decide +kernel) rfl (And.intro kd_0 (And.intro kd_1 trivial)) ?_
  obtain ⟨a1, e1, hf⟩ := bR_some hf
  refine h.callV (as := [.int x1]) (rest := []) (by decide +kernel) lk5_83 cwX4_has kd_8 (kmX4_has l kd_8 e1) rfl (Nat.le_of_ble_eq_true rfl) (Nat.le_of_ble_eq_true rfl) (Nat.le_of_ble_eq_true rfl) ?_
  show V 11 [some (.ref 0), some (.int x1), some (.int x2), none] [.int a1] σ
  refine h.if_eq (tgt := 23) (show decode cX5_returner 11 = .ok (.ifCond .eq 12, 3) by decide +kernel) (by decide) (fun c9 => ?_) (fun c9 => ?_)
  · rw [if_pos c9] at hf
    refine h.drop (ls' := [none, none, none, none]) trivial ?_
    exact wX5_returner_23 hm hf
  · rw [if_neg c9] at hf
    show V 14 [some (.ref 0), some (.int x1), some (.int x2), none] [] σ
    refine h.run (o := []) (ls' := [some (.ref 0), some (.int x1), some (.int x2), none]) (st' := [.int x2]) (σ' := σ) [(.iload_n 2, 1, 0, 0, 0, 0)] (pc2 := 15) (by decide +kernel) rfl trivial ?_
    refine h.if_lt (tgt := 23) (show decode cX5_returner 15 = .ok (.ifCond .lt 8, 3) by decide +kernel) (by decide) (fun c8 => ?_) (fun c8 => ?_)
    · rw [if_pos c8] at hf
      refine h.drop (ls' := [none, none, none, none]) trivial ?_
      exact wX5_returner_23 hm hf
    · rw [if_neg c8] at hf
      show V 18 [some (.ref 0), some (.int x1), some (.int x2), none] [] σ
      refine h.run (o := []) (ls' := [some (.ref 0), some (.int x1), some (.int x2), none]) (st' := [.int 5, .int x2]) (σ' := σ) [(.iload_n 2, 1, 0, 0, 0, 0), (.iconst 5, 1, 5, 0, 0, 0)] (pc2 := 20) (by decide +kernel) rfl trivial ?_
      refine h.icmp_le (tgt := 25) (show decode cX5_returner 20 = .ok (.if_icmp .le 5, 3) by decide +kernel) (by decide) (fun c7 => ?_) (fun c7 => ?_)
      · rw [if_pos c7] at hf
        refine h.run (o := []) (ls' := [some (.ref 0), some (.int x1), some (.int x2), none]) (st' := [.int 5, .int x2]) (σ' := σ) [(.iload_n 2, 1, 0, 0, 0, 0), (.iconst 5, 1, 5, 0, 0, 0)] (pc2 := 27) (by decide +kernel) rfl trivial ?_
        refine h.icmp_ge (tgt := 43) (show decode cX5_returner 27 = .ok (.if_icmp .ge 16, 3) by decide +kernel) (by decide) (fun c6 => ?_) (fun c6 => ?_)
        · rw [if_pos c6] at hf
          refine h.run (o := []) (ls' := [some (.ref 0), some (.int x1), some (.int x2), none]) (st' := [.int x1, .ref 0]) (σ' := σ) [(.aload_n 0, 1, 0, 0, 0, 0), (.iload_n 1, 1, 0, 0, 0, 0)] (pc2 := 45) (by decide +kernel) rfl trivial ?_
          obtain ⟨σ2, e2, hf⟩ := bR_some hf
          refine h.callV (as := [.int x1]) (rest := []) (by decide +kernel) lk5_94 cwX5_bringPastOf kd_0 (kmX5_bringPastOf l e2) rfl (Nat.le_of_ble_eq_true rfl) (Nat.le_of_ble_eq_true rfl) (Nat.le_of_ble_eq_true rfl) ?_
          show V 48 [some (.ref 0), some (.int x1), some (.int x2), none] [] σ2
          refine h.run (o := [kd 0 = 5]) (ls' := [some (.ref 0), some (.int x1), some (.int x2), none]) (st' := [.ref 3]) (σ' := σ2) [(.aload_n 0, 1, 0, 0, 0, 0), (.getfield 26, 3, 0, 0, 5, 3)] (pc2 := 52) (by decide +kernel) rfl (And.intro kd_0 trivial) ?_
          obtain ⟨a3, e3, hf⟩ := bR_some hf
          refine h.callV (as := []) (rest := []) (by decide +kernel) lk5_98 cwX1_nameOfReturner kd_3 (kmX1_nameOfReturner l e3) rfl (Nat.le_of_ble_eq_true rfl) (Nat.le_of_ble_eq_true rfl) (Nat.le_of_ble_eq_true rfl) ?_
          show V 55 [some (.ref 0), some (.int x1), some (.int x2), none] [.int a3] σ2
          refine h.run (o := []) (ls' := [some (.ref 0), some (.int x1), some (.int x2), some (.int a3)]) (st' := [.int (-1), .int a3]) (σ' := σ2) [(.istore_n 3, 1, 0, 0, 0, 0), (.iload_n 3, 1, 0, 0, 0, 0), (.iconst (-1), 1, (-1), 0, 0, 0)] (pc2 := 58) (by decide +kernel) rfl trivial ?_
          refine h.icmp_ne (tgt := 66) (show decode cX5_returner 58 = .ok (.if_icmp .ne 8, 3) by decide +kernel) (by decide) (fun c4 => ?_) (fun c4 => ?_)
          · rw [if_neg c4] at hf
            refine h.run (o := []) (ls' := [some (.ref 0), some (.int x1), some (.int x2), some (.int a3)]) (st' := [.int a3]) (σ' := σ2) [(.iload_n 3, 1, 0, 0, 0, 0)] (pc2 := 67) (by decide +kernel) rfl trivial ?_
            refine h.drop (ls' := [none, none, none, none]) trivial ?_
            exact wX5_returner_67 hm hf
          · rw [if_pos c4] at hf
            show V 61 [some (.ref 0), some (.int x1), some (.int x2), some (.int a3)] [] σ2
            refine h.run (o := []) (ls' := [some (.ref 0), some (.int x1), some (.int x2), some (.int a3)]) (st' := [.int (-4)]) (σ' := σ2) [(.bipush (-4), 2, (-4), 0, 0, 0), (.goto 4, 3, 0, 0, 0, 67)] (pc2 := 67) (by decide +kernel) rfl trivial ?_
            refine h.drop (ls' := [none, none, none, none]) trivial ?_
            exact wX5_returner_67 hm hf
        · rw [if_neg c6] at hf
          show V 30 [some (.ref 0), some (.int x1), some (.int x2), none] [] σ
          refine h.run (o := [kd 0 = 5, kd 1 = 0]) (ls' := [some (.ref 0), some (.int x1), some (.int x2), none]) (st' := [.int x2, .int x1, .ref 8]) (σ' := σ) [(.aload_n 0, 1, 0, 0, 0, 0), (.getfield 10, 3, 0, 0, 5, 0), (.getfield 91, 3, 0, 0, 0, 4), (.iload_n 1, 1, 0, 0, 0, 0), (.iload_n 2, 1, 0, 0, 0, 0)] (pc2 := 39) (by decide +kernel) rfl (And.intro kd_0 (And.intro kd_1 trivial)) ?_
          obtain ⟨a5, e5, hf⟩ := bR_some hf
          refine h.callV (as := [.int x1, .int x2]) (rest := []) (by decide +kernel) lk5_87 cwX4_read kd_8 (kmX4_read l kd_8 e5) rfl (Nat.le_of_ble_eq_true rfl) (Nat.le_of_ble_eq_true rfl) (Nat.le_of_ble_eq_true rfl) ?_
          show V 42 [some (.ref 0), some (.int x1), some (.int x2), none] [.int a5] σ
          obtain ⟨rfl, rfl⟩ := Prod.mk.inj (Option.some.inj hf)
          exact hm.iret (by decide +kernel)
      · rw [if_neg c7] at hf
        show V 23 [some (.ref 0), some (.int x1), some (.int x2), none] [] σ
        refine h.drop (ls' := [none, none, none, none]) trivial ?_
        exact wX5_returner_23 hm hf
def fX5_set_53 (σ : ST) : Option (Int32 × ST) :=
  some ((-1), σ)
set_option maxHeartbeats 4000000 in
theorem wX5_set_53 {l : Launch} {V : Nat → List (Option Value) → List Value → ST → Prop} {r : Int32} {τ : ST} {σ : ST} (hm : BM l 5 cX5_set 5 (some .int) 0 0 (some (.int r)) τ V) (hf : fX5_set_53 σ = some (r, τ)) : V 53 [none, none, none, none, none] [] σ := by
  have h := hm.bd
  unfold fX5_set_53 at hf
  refine h.run (o := []) (ls' := [none, none, none, none, none]) (st' := [.int (-1)]) (σ' := σ) [(.iconst (-1), 1, (-1), 0, 0, 0)] (pc2 := 54) (by decide +kernel) rfl trivial ?_
  obtain ⟨rfl, rfl⟩ := Prod.mk.inj (Option.some.inj hf)
  exact hm.iret (by decide +kernel)
def fX5_set_117 (x4 : Int32) (σ : ST) : Option (Int32 × ST) :=
  some (x4, σ)
set_option maxHeartbeats 4000000 in
theorem wX5_set_117 {l : Launch} {V : Nat → List (Option Value) → List Value → ST → Prop} {r : Int32} {τ : ST} {σ : ST} {x4 : Int32} (hm : BM l 5 cX5_set 5 (some .int) 0 0 (some (.int r)) τ V) (hf : fX5_set_117 x4 σ = some (r, τ)) : V 117 [none, none, none, none, some (.int x4)] [] σ := by
  have h := hm.bd
  unfold fX5_set_117 at hf
  refine h.run (o := []) (ls' := [none, none, none, none, some (.int x4)]) (st' := [.int x4]) (σ' := σ) [(.iload 4, 2, 0, 0, 0, 0)] (pc2 := 119) (by decide +kernel) rfl trivial ?_
  obtain ⟨rfl, rfl⟩ := Prod.mk.inj (Option.some.inj hf)
  exact hm.iret (by decide +kernel)
def fX5_set_92 (x1 : Int32) (x2 : Int32) (t0 : Int32) (σ : ST) : Option (Int32 × ST) :=
  if x1 = 0 then
    fX5_set_117 t0 (setI σ 1 0 x2)
  else
    fX5_set_117 t0 (setI σ 1 1 x2)
set_option maxHeartbeats 4000000 in
theorem wX5_set_92 {l : Launch} {V : Nat → List (Option Value) → List Value → ST → Prop} {r : Int32} {τ : ST} {σ : ST} {x1 : Int32} {x2 : Int32} {t0 : Int32} (hm : BM l 5 cX5_set 5 (some .int) 0 0 (some (.int r)) τ V) (hf : fX5_set_92 x1 x2 t0 σ = some (r, τ)) : V 92 [some (.ref 0), some (.int x1), some (.int x2), none, none] [.int t0] σ := by
  have h := hm.bd
  unfold fX5_set_92 at hf
  refine h.run (o := []) (ls' := [some (.ref 0), some (.int x1), some (.int x2), none, some (.int t0)]) (st' := [.int x1]) (σ' := σ) [(.istore 4, 2, 0, 0, 0, 0), (.iload_n 1, 1, 0, 0, 0, 0)] (pc2 := 95) (by decide +kernel) rfl trivial ?_
  refine h.if_ne (tgt := 109) (show decode cX5_set 95 = .ok (.ifCond .ne 14, 3) by decide +kernel) (by decide) (fun c1 => ?_) (fun c1 => ?_)
  · rw [if_neg c1] at hf
    refine h.run (o := [kd 0 = 5, kd 1 = 0]) (ls' := [some (.ref 0), some (.int x1), some (.int x2), none, some (.int t0)]) (st' := []) (σ' := setI σ 1 1 x2) [(.aload_n 0, 1, 0, 0, 0, 0), (.getfield 10, 3, 0, 0, 5, 0), (.iload_n 2, 1, 0, 0, 0, 0), (.putfield 110, 3, 0, 0, 0, 1)] (pc2 := 117) (by decide +kernel) rfl (And.intro kd_0 (And.intro kd_1 trivial)) ?_
    refine h.drop (ls' := [none, none, none, none, some (.int t0)]) (And.intro rfl trivial) ?_
    exact wX5_set_117 hm hf
  · rw [if_pos c1] at hf
    show V 98 [some (.ref 0), some (.int x1), some (.int x2), none, some (.int t0)] [] σ
    refine h.run (o := [kd 0 = 5, kd 1 = 0]) (ls' := [some (.ref 0), some (.int x1), some (.int x2), none, some (.int t0)]) (st' := []) (σ' := setI σ 1 0 x2) [(.aload_n 0, 1, 0, 0, 0, 0), (.getfield 10, 3, 0, 0, 5, 0), (.iload_n 2, 1, 0, 0, 0, 0), (.putfield 107, 3, 0, 0, 0, 0), (.goto 11, 3, 0, 0, 0, 117)] (pc2 := 117) (by decide +kernel) rfl (And.intro kd_0 (And.intro kd_1 trivial)) ?_
    refine h.drop (ls' := [none, none, none, none, some (.int t0)]) (And.intro rfl trivial) ?_
    exact wX5_set_117 hm hf
def fX5_set_33 (x1 : Int32) (x2 : Int32) (t0 : Int32) (σ : ST) : Option (Int32 × ST) :=
  if x1 < 0 then
    fX5_set_53 σ
  else
    if 1 < x1 then
      fX5_set_53 σ
    else
      if x2 < 1 then
        fX5_set_53 σ
      else
        if x2 ≤ t0 then
          if (σ.1 10 3) ≤ 0 then
            if x1 = 0 then
              fX5_set_92 x1 x2 (σ.1 1 0) σ
            else
              fX5_set_92 x1 x2 (σ.1 1 1) σ
          else
            some ((-3), σ)
        else
          fX5_set_53 σ
set_option maxHeartbeats 4000000 in
theorem wX5_set_33 {l : Launch} {V : Nat → List (Option Value) → List Value → ST → Prop} {r : Int32} {τ : ST} {σ : ST} {x1 : Int32} {x2 : Int32} {t0 : Int32} (hm : BM l 5 cX5_set 5 (some .int) 0 0 (some (.int r)) τ V) (hf : fX5_set_33 x1 x2 t0 σ = some (r, τ)) : V 33 [some (.ref 0), some (.int x1), some (.int x2), none, none] [.int t0] σ := by
  have h := hm.bd
  unfold fX5_set_33 at hf
  refine h.run (o := []) (ls' := [some (.ref 0), some (.int x1), some (.int x2), some (.int t0), none]) (st' := [.int x1]) (σ' := σ) [(.istore_n 3, 1, 0, 0, 0, 0), (.iload_n 1, 1, 0, 0, 0, 0)] (pc2 := 35) (by decide +kernel) rfl trivial ?_
  refine h.if_lt (tgt := 53) (show decode cX5_set 35 = .ok (.ifCond .lt 18, 3) by decide +kernel) (by decide) (fun c6 => ?_) (fun c6 => ?_)
  · rw [if_pos c6] at hf
    refine h.drop (ls' := [none, none, none, none, none]) trivial ?_
    exact wX5_set_53 hm hf
  · rw [if_neg c6] at hf
    show V 38 [some (.ref 0), some (.int x1), some (.int x2), some (.int t0), none] [] σ
    refine h.run (o := []) (ls' := [some (.ref 0), some (.int x1), some (.int x2), some (.int t0), none]) (st' := [.int 1, .int x1]) (σ' := σ) [(.iload_n 1, 1, 0, 0, 0, 0), (.iconst 1, 1, 1, 0, 0, 0)] (pc2 := 40) (by decide +kernel) rfl trivial ?_
    refine h.icmp_gt (tgt := 53) (show decode cX5_set 40 = .ok (.if_icmp .gt 13, 3) by decide +kernel) (by decide) (fun c5 => ?_) (fun c5 => ?_)
    · rw [if_pos c5] at hf
      refine h.drop (ls' := [none, none, none, none, none]) trivial ?_
      exact wX5_set_53 hm hf
    · rw [if_neg c5] at hf
      show V 43 [some (.ref 0), some (.int x1), some (.int x2), some (.int t0), none] [] σ
      refine h.run (o := []) (ls' := [some (.ref 0), some (.int x1), some (.int x2), some (.int t0), none]) (st' := [.int 1, .int x2]) (σ' := σ) [(.iload_n 2, 1, 0, 0, 0, 0), (.iconst 1, 1, 1, 0, 0, 0)] (pc2 := 45) (by decide +kernel) rfl trivial ?_
      refine h.icmp_lt (tgt := 53) (show decode cX5_set 45 = .ok (.if_icmp .lt 8, 3) by decide +kernel) (by decide) (fun c4 => ?_) (fun c4 => ?_)
      · rw [if_pos c4] at hf
        refine h.drop (ls' := [none, none, none, none, none]) trivial ?_
        exact wX5_set_53 hm hf
      · rw [if_neg c4] at hf
        show V 48 [some (.ref 0), some (.int x1), some (.int x2), some (.int t0), none] [] σ
        refine h.run (o := []) (ls' := [some (.ref 0), some (.int x1), some (.int x2), some (.int t0), none]) (st' := [.int t0, .int x2]) (σ' := σ) [(.iload_n 2, 1, 0, 0, 0, 0), (.iload_n 3, 1, 0, 0, 0, 0)] (pc2 := 50) (by decide +kernel) rfl trivial ?_
        refine h.icmp_le (tgt := 55) (show decode cX5_set 50 = .ok (.if_icmp .le 5, 3) by decide +kernel) (by decide) (fun c3 => ?_) (fun c3 => ?_)
        · rw [if_pos c3] at hf
          refine h.run (o := [kd 0 = 5, kd 1 = 0, kd 10 = 4]) (ls' := [some (.ref 0), some (.int x1), some (.int x2), some (.int t0), none]) (st' := [.int (σ.1 10 3)]) (σ' := σ) [(.aload_n 0, 1, 0, 0, 0, 0), (.getfield 10, 3, 0, 0, 5, 0), (.getfield 104, 3, 0, 0, 0, 5), (.getfield 71, 3, 0, 0, 4, 3)] (pc2 := 65) (by decide +kernel) rfl (And.intro kd_0 (And.intro kd_1 (And.intro kd_10 trivial))) ?_
          refine h.if_le (tgt := 71) (show decode cX5_set 65 = .ok (.ifCond .le 6, 3) by decide +kernel) (by decide) (fun c2 => ?_) (fun c2 => ?_)
          · rw [if_pos c2] at hf
            refine h.run (o := []) (ls' := [some (.ref 0), some (.int x1), some (.int x2), some (.int t0), none]) (st' := [.int x1]) (σ' := σ) [(.iload_n 1, 1, 0, 0, 0, 0)] (pc2 := 72) (by decide +kernel) rfl trivial ?_
            refine h.if_ne (tgt := 85) (show decode cX5_set 72 = .ok (.ifCond .ne 13, 3) by decide +kernel) (by decide) (fun c1 => ?_) (fun c1 => ?_)
            · rw [if_neg c1] at hf
              refine h.run (o := [kd 0 = 5, kd 1 = 0]) (ls' := [some (.ref 0), some (.int x1), some (.int x2), some (.int t0), none]) (st' := [.int (σ.1 1 1)]) (σ' := σ) [(.aload_n 0, 1, 0, 0, 0, 0), (.getfield 10, 3, 0, 0, 5, 0), (.getfield 110, 3, 0, 0, 0, 1)] (pc2 := 92) (by decide +kernel) rfl (And.intro kd_0 (And.intro kd_1 trivial)) ?_
              refine h.drop (ls' := [some (.ref 0), some (.int x1), some (.int x2), none, none]) (And.intro rfl (And.intro rfl (And.intro rfl trivial))) ?_
              exact wX5_set_92 hm hf
            · rw [if_pos c1] at hf
              show V 75 [some (.ref 0), some (.int x1), some (.int x2), some (.int t0), none] [] σ
              refine h.run (o := [kd 0 = 5, kd 1 = 0]) (ls' := [some (.ref 0), some (.int x1), some (.int x2), some (.int t0), none]) (st' := [.int (σ.1 1 0)]) (σ' := σ) [(.aload_n 0, 1, 0, 0, 0, 0), (.getfield 10, 3, 0, 0, 5, 0), (.getfield 107, 3, 0, 0, 0, 0), (.goto 10, 3, 0, 0, 0, 92)] (pc2 := 92) (by decide +kernel) rfl (And.intro kd_0 (And.intro kd_1 trivial)) ?_
              refine h.drop (ls' := [some (.ref 0), some (.int x1), some (.int x2), none, none]) (And.intro rfl (And.intro rfl (And.intro rfl trivial))) ?_
              exact wX5_set_92 hm hf
          · rw [if_neg c2] at hf
            show V 68 [some (.ref 0), some (.int x1), some (.int x2), some (.int t0), none] [] σ
            refine h.run (o := []) (ls' := [some (.ref 0), some (.int x1), some (.int x2), some (.int t0), none]) (st' := [.int (-3)]) (σ' := σ) [(.bipush (-3), 2, (-3), 0, 0, 0)] (pc2 := 70) (by decide +kernel) rfl trivial ?_
            obtain ⟨rfl, rfl⟩ := Prod.mk.inj (Option.some.inj hf)
            exact hm.iret (by decide +kernel)
        · rw [if_neg c3] at hf
          show V 53 [some (.ref 0), some (.int x1), some (.int x2), some (.int t0), none] [] σ
          refine h.drop (ls' := [none, none, none, none, none]) trivial ?_
          exact wX5_set_53 hm hf
def fX5_set (x1 : Int32) (x2 : Int32) (σ : ST) : Option (Int32 × ST) :=
  if x1 = 2 then
    some (σ.1 1 2, setI σ 1 2 x2)
  else
    if x1 = 0 then
      fX5_set_33 x1 x2 20 σ
    else
      fX5_set_33 x1 x2 5 σ
set_option maxHeartbeats 4000000 in
theorem kmX5_set (l : Launch) {x1 : Int32} {x2 : Int32} {σ : ST} {r : Int32} {τ : ST} (hf : fX5_set x1 x2 σ = some (r, τ)) : KM l yX5_set cX5_set 5 (some .int) 0 0 [.ref 0, .int x1, .int x2] σ (some (.int r)) τ := by
  refine KM.intro (ow := 5) (by decide +kernel) rfl (Nat.le_of_ble_eq_true rfl) (fun V hm => ?_)
  show V 0 [some (.ref 0), some (.int x1), some (.int x2), none, none] [] σ
  have h := hm.bd
  unfold fX5_set at hf
  refine h.run (o := []) (ls' := [some (.ref 0), some (.int x1), some (.int x2), none, none]) (st' := [.int 2, .int x1]) (σ' := σ) [(.iload_n 1, 1, 0, 0, 0, 0), (.iconst 2, 1, 2, 0, 0, 0)] (pc2 := 2) (by decide +kernel) rfl trivial ?_
  refine h.icmp_ne (tgt := 23) (show decode cX5_set 2 = .ok (.if_icmp .ne 21, 3) by decide +kernel) (by decide) (fun c2 => ?_) (fun c2 => ?_)
  · rw [if_neg c2] at hf
    refine h.run (o := []) (ls' := [some (.ref 0), some (.int x1), some (.int x2), none, none]) (st' := [.int x1]) (σ' := σ) [(.iload_n 1, 1, 0, 0, 0, 0)] (pc2 := 24) (by decide +kernel) rfl trivial ?_
    refine h.if_ne (tgt := 32) (show decode cX5_set 24 = .ok (.ifCond .ne 8, 3) by decide +kernel) (by decide) (fun c1 => ?_) (fun c1 => ?_)
    · rw [if_neg c1] at hf
      refine h.run (o := []) (ls' := [some (.ref 0), some (.int x1), some (.int x2), none, none]) (st' := [.int 5]) (σ' := σ) [(.iconst 5, 1, 5, 0, 0, 0)] (pc2 := 33) (by decide +kernel) rfl trivial ?_
      exact wX5_set_33 hm hf
    · rw [if_pos c1] at hf
      show V 27 [some (.ref 0), some (.int x1), some (.int x2), none, none] [] σ
      refine h.run (o := []) (ls' := [some (.ref 0), some (.int x1), some (.int x2), none, none]) (st' := [.int 20]) (σ' := σ) [(.bipush 20, 2, 20, 0, 0, 0), (.goto 4, 3, 0, 0, 0, 33)] (pc2 := 33) (by decide +kernel) rfl trivial ?_
      exact wX5_set_33 hm hf
  · rw [if_pos c2] at hf
    show V 5 [some (.ref 0), some (.int x1), some (.int x2), none, none] [] σ
    refine h.run (o := [kd 0 = 5, kd 1 = 0, kd 0 = 5, kd 1 = 0]) (ls' := [some (.ref 0), some (.int x1), some (.int x2), some (.int (σ.1 1 2)), none]) (st' := [.int (σ.1 1 2)]) (σ' := setI σ 1 2 x2) [(.aload_n 0, 1, 0, 0, 0, 0), (.getfield 10, 3, 0, 0, 5, 0), (.getfield 101, 3, 0, 0, 0, 2), (.istore_n 3, 1, 0, 0, 0, 0), (.aload_n 0, 1, 0, 0, 0, 0), (.getfield 10, 3, 0, 0, 5, 0), (.iload_n 2, 1, 0, 0, 0, 0), (.putfield 101, 3, 0, 0, 0, 2), (.iload_n 3, 1, 0, 0, 0, 0)] (pc2 := 22) (by decide +kernel) rfl (And.intro kd_0 (And.intro kd_1 (And.intro kd_0 (And.intro kd_1 trivial)))) ?_
    obtain ⟨rfl, rfl⟩ := Prod.mk.inj (Option.some.inj hf)
    exact hm.iret (by decide +kernel)
def fX5_holds_24 (σ : ST) : Option (Int32 × ST) :=
  some ((-1), σ)
set_option maxHeartbeats 4000000 in
theorem wX5_holds_24 {l : Launch} {V : Nat → List (Option Value) → List Value → ST → Prop} {r : Int32} {τ : ST} {σ : ST} (hm : BM l 5 cX5_holds 4 (some .int) 2 47 (some (.int r)) τ V) (hf : fX5_holds_24 σ = some (r, τ)) : V 24 [none, none, none, none] [] σ := by
  have h := hm.bd
  unfold fX5_holds_24 at hf
  refine h.run (o := []) (ls' := [none, none, none, none]) (st' := [.int (-1)]) (σ' := σ) [(.iconst (-1), 1, (-1), 0, 0, 0)] (pc2 := 25) (by decide +kernel) rfl trivial ?_
  obtain ⟨rfl, rfl⟩ := Prod.mk.inj (Option.some.inj hf)
  exact hm.iret (by decide +kernel)
def fX5_holds (x1 : Int32) (x2 : Int32) (σ : ST) : Option (Int32 × ST) :=
  bR (fX4_has 6 x1 σ) fun a1 =>
  if a1 = 0 then
    fX5_holds_24 σ
  else
    if x2 < 0 then
      fX5_holds_24 σ
    else
      if x2 ≤ 100 then
        bR (fX4_read 6 x1 2 σ) fun a2 =>
        bR (fX4_write 6 x1 2 x2 σ) fun σ3 =>
        some (a2, σ3)
      else
        fX5_holds_24 σ
set_option maxHeartbeats 4000000 in
theorem kmX5_holds (l : Launch) {x1 : Int32} {x2 : Int32} {σ : ST} {r : Int32} {τ : ST} (hf : fX5_holds x1 x2 σ = some (r, τ)) : KM l yX5_holds cX5_holds 4 (some .int) 2 47 [.ref 0, .int x1, .int x2] σ (some (.int r)) τ := by
  refine KM.intro (ow := 5) (by decide +kernel) rfl (Nat.le_of_ble_eq_true rfl) (fun V hm => ?_)
  show V 0 [some (.ref 0), some (.int x1), some (.int x2), none] [] σ
  have h := hm.bd
  unfold fX5_holds at hf
  refine h.run (o := [kd 0 = 5, kd 1 = 0]) (ls' := [some (.ref 0), some (.int x1), some (.int x2), none]) (st' := [.int x1, .ref 6]) (σ' := σ) [(.aload_n 0, 1, 0, 0, 0, 0), (.getfield 10, 3, 0, 0, 5, 0), (.getfield 80, 3, 0, 0, 0, 3), (.iload_n 1, 1, 0, 0, 0, 0)] (pc2 := 8) (by decide +kernel) rfl (And.intro kd_0 (And.intro kd_1 trivial)) ?_
  obtain ⟨a1, e1, hf⟩ := bR_some hf
  refine h.callV (as := [.int x1]) (rest := []) (by decide +kernel) lk5_83 cwX4_has kd_6 (kmX4_has l kd_6 e1) rfl (Nat.le_of_ble_eq_true rfl) (Nat.le_of_ble_eq_true rfl) (Nat.le_of_ble_eq_true rfl) ?_
  show V 11 [some (.ref 0), some (.int x1), some (.int x2), none] [.int a1] σ
  refine h.if_eq (tgt := 24) (show decode cX5_holds 11 = .ok (.ifCond .eq 13, 3) by decide +kernel) (by decide) (fun c6 => ?_) (fun c6 => ?_)
  · rw [if_pos c6] at hf
    refine h.drop (ls' := [none, none, none, none]) trivial ?_
    exact wX5_holds_24 hm hf
  · rw [if_neg c6] at hf
    show V 14 [some (.ref 0), some (.int x1), some (.int x2), none] [] σ
    refine h.run (o := []) (ls' := [some (.ref 0), some (.int x1), some (.int x2), none]) (st' := [.int x2]) (σ' := σ) [(.iload_n 2, 1, 0, 0, 0, 0)] (pc2 := 15) (by decide +kernel) rfl trivial ?_
    refine h.if_lt (tgt := 24) (show decode cX5_holds 15 = .ok (.ifCond .lt 9, 3) by decide +kernel) (by decide) (fun c5 => ?_) (fun c5 => ?_)
    · rw [if_pos c5] at hf
      refine h.drop (ls' := [none, none, none, none]) trivial ?_
      exact wX5_holds_24 hm hf
    · rw [if_neg c5] at hf
      show V 18 [some (.ref 0), some (.int x1), some (.int x2), none] [] σ
      refine h.run (o := []) (ls' := [some (.ref 0), some (.int x1), some (.int x2), none]) (st' := [.int 100, .int x2]) (σ' := σ) [(.iload_n 2, 1, 0, 0, 0, 0), (.bipush 100, 2, 100, 0, 0, 0)] (pc2 := 21) (by decide +kernel) rfl trivial ?_
      refine h.icmp_le (tgt := 26) (show decode cX5_holds 21 = .ok (.if_icmp .le 5, 3) by decide +kernel) (by decide) (fun c4 => ?_) (fun c4 => ?_)
      · rw [if_pos c4] at hf
        refine h.run (o := [kd 0 = 5, kd 1 = 0]) (ls' := [some (.ref 0), some (.int x1), some (.int x2), none]) (st' := [.int 2, .int x1, .ref 6]) (σ' := σ) [(.aload_n 0, 1, 0, 0, 0, 0), (.getfield 10, 3, 0, 0, 5, 0), (.getfield 80, 3, 0, 0, 0, 3), (.iload_n 1, 1, 0, 0, 0, 0), (.iconst 2, 1, 2, 0, 0, 0)] (pc2 := 35) (by decide +kernel) rfl (And.intro kd_0 (And.intro kd_1 trivial)) ?_
        obtain ⟨a2, e2, hf⟩ := bR_some hf
        refine h.callV (as := [.int x1, .int 2]) (rest := []) (by decide +kernel) lk5_87 cwX4_read kd_6 (kmX4_read l kd_6 e2) rfl (Nat.le_of_ble_eq_true rfl) (Nat.le_of_ble_eq_true rfl) (Nat.le_of_ble_eq_true rfl) ?_
        show V 38 [some (.ref 0), some (.int x1), some (.int x2), none] [.int a2] σ
        refine h.run (o := [kd 0 = 5, kd 1 = 0]) (ls' := [some (.ref 0), some (.int x1), some (.int x2), some (.int a2)]) (st' := [.int x2, .int 2, .int x1, .ref 6]) (σ' := σ) [(.istore_n 3, 1, 0, 0, 0, 0), (.aload_n 0, 1, 0, 0, 0, 0), (.getfield 10, 3, 0, 0, 5, 0), (.getfield 80, 3, 0, 0, 0, 3), (.iload_n 1, 1, 0, 0, 0, 0), (.iconst 2, 1, 2, 0, 0, 0), (.iload_n 2, 1, 0, 0, 0, 0)] (pc2 := 49) (by decide +kernel) rfl (And.intro kd_0 (And.intro kd_1 trivial)) ?_
        obtain ⟨σ3, e3, hf⟩ := bR_some hf
        refine h.callV (as := [.int x1, .int 2, .int x2]) (rest := []) (by decide +kernel) lk5_113 cwX4_write kd_6 (kmX4_write l kd_6 e3) rfl (Nat.le_of_ble_eq_true rfl) (Nat.le_of_ble_eq_true rfl) (Nat.le_of_ble_eq_true rfl) ?_
        show V 52 [some (.ref 0), some (.int x1), some (.int x2), some (.int a2)] [] σ3
        refine h.run (o := []) (ls' := [some (.ref 0), some (.int x1), some (.int x2), some (.int a2)]) (st' := [.int a2]) (σ' := σ3) [(.iload_n 3, 1, 0, 0, 0, 0)] (pc2 := 53) (by decide +kernel) rfl trivial ?_
        obtain ⟨rfl, rfl⟩ := Prod.mk.inj (Option.some.inj hf)
        exact hm.iret (by decide +kernel)
      · rw [if_neg c4] at hf
        show V 24 [some (.ref 0), some (.int x1), some (.int x2), none] [] σ
        refine h.drop (ls' := [none, none, none, none]) trivial ?_
        exact wX5_holds_24 hm hf
def fX5_areThere_33 (t0 : Int32) (σ : ST) : Option Int32 :=
  gd (isb t0) <|
  some t0
set_option maxHeartbeats 4000000 in
theorem wX5_areThere_33 {l : Launch} {V : Nat → List (Option Value) → List Value → ST → Prop} {r : Int32} {σ : ST} {t0 : Int32} (hm : BM l 5 cX5_areThere 3 (some .boolean) 1 21 (some (.int r)) σ V) (hf : fX5_areThere_33 t0 σ = some r) : V 33 [none, none, none] [.int t0] σ := by
  have h := hm.bd
  unfold fX5_areThere_33 at hf
  obtain ⟨g1, hf⟩ := gd_some hf
  obtain rfl := Option.some.inj hf
  exact hm.zret (by decide +kernel) g1
def fX5_areThere_32 (σ : ST) : Option Int32 :=
  fX5_areThere_33 0 σ
set_option maxHeartbeats 4000000 in
theorem wX5_areThere_32 {l : Launch} {V : Nat → List (Option Value) → List Value → ST → Prop} {r : Int32} {σ : ST} (hm : BM l 5 cX5_areThere 3 (some .boolean) 1 21 (some (.int r)) σ V) (hf : fX5_areThere_32 σ = some r) : V 32 [none, none, none] [] σ := by
  have h := hm.bd
  unfold fX5_areThere_32 at hf
  refine h.run (o := []) (ls' := [none, none, none]) (st' := [.int 0]) (σ' := σ) [(.iconst 0, 1, 0, 0, 0, 0)] (pc2 := 33) (by decide +kernel) rfl trivial ?_
  exact wX5_areThere_33 hm hf
def fX5_areThere (x1 : Int32) (x2 : Int32) (σ : ST) : Option Int32 :=
  bR (fX4_has 6 x1 σ) fun a1 =>
  if a1 = 0 then
    fX5_areThere_32 σ
  else
    bR (fX4_has 8 x2 σ) fun a2 =>
    if a2 = 0 then
      fX5_areThere_32 σ
    else
      fX5_areThere_33 1 σ
set_option maxHeartbeats 4000000 in
theorem kmX5_areThere (l : Launch) {x1 : Int32} {x2 : Int32} {σ : ST} {r : Int32} (hf : fX5_areThere x1 x2 σ = some r) : KM l yX5_areThere cX5_areThere 3 (some .boolean) 1 21 [.ref 0, .int x1, .int x2] σ (some (.int r)) σ := by
  refine KM.intro (ow := 5) (by decide +kernel) rfl (Nat.le_of_ble_eq_true rfl) (fun V hm => ?_)
  show V 0 [some (.ref 0), some (.int x1), some (.int x2)] [] σ
  have h := hm.bd
  unfold fX5_areThere at hf
  refine h.run (o := [kd 0 = 5, kd 1 = 0]) (ls' := [some (.ref 0), some (.int x1), some (.int x2)]) (st' := [.int x1, .ref 6]) (σ' := σ) [(.aload_n 0, 1, 0, 0, 0, 0), (.getfield 10, 3, 0, 0, 5, 0), (.getfield 80, 3, 0, 0, 0, 3), (.iload_n 1, 1, 0, 0, 0, 0)] (pc2 := 8) (by decide +kernel) rfl (And.intro kd_0 (And.intro kd_1 trivial)) ?_
  obtain ⟨a1, e1, hf⟩ := bR_some hf
  refine h.callV (as := [.int x1]) (rest := []) (by decide +kernel) lk5_83 cwX4_has kd_6 (kmX4_has l kd_6 e1) rfl (Nat.le_of_ble_eq_true rfl) (Nat.le_of_ble_eq_true rfl) (Nat.le_of_ble_eq_true rfl) ?_
  show V 11 [some (.ref 0), some (.int x1), some (.int x2)] [.int a1] σ
  refine h.if_eq (tgt := 32) (show decode cX5_areThere 11 = .ok (.ifCond .eq 21, 3) by decide +kernel) (by decide) (fun c4 => ?_) (fun c4 => ?_)
  · rw [if_pos c4] at hf
    refine h.drop (ls' := [none, none, none]) trivial ?_
    exact wX5_areThere_32 hm hf
  · rw [if_neg c4] at hf
    show V 14 [some (.ref 0), some (.int x1), some (.int x2)] [] σ
    refine h.run (o := [kd 0 = 5, kd 1 = 0]) (ls' := [some (.ref 0), some (.int x1), some (.int x2)]) (st' := [.int x2, .ref 8]) (σ' := σ) [(.aload_n 0, 1, 0, 0, 0, 0), (.getfield 10, 3, 0, 0, 5, 0), (.getfield 91, 3, 0, 0, 0, 4), (.iload_n 2, 1, 0, 0, 0, 0)] (pc2 := 22) (by decide +kernel) rfl (And.intro kd_0 (And.intro kd_1 trivial)) ?_
    obtain ⟨a2, e2, hf⟩ := bR_some hf
    refine h.callV (as := [.int x2]) (rest := []) (by decide +kernel) lk5_83 cwX4_has kd_8 (kmX4_has l kd_8 e2) rfl (Nat.le_of_ble_eq_true rfl) (Nat.le_of_ble_eq_true rfl) (Nat.le_of_ble_eq_true rfl) ?_
    show V 25 [some (.ref 0), some (.int x1), some (.int x2)] [.int a2] σ
    refine h.if_eq (tgt := 32) (show decode cX5_areThere 25 = .ok (.ifCond .eq 7, 3) by decide +kernel) (by decide) (fun c3 => ?_) (fun c3 => ?_)
    · rw [if_pos c3] at hf
      refine h.drop (ls' := [none, none, none]) trivial ?_
      exact wX5_areThere_32 hm hf
    · rw [if_neg c3] at hf
      show V 28 [some (.ref 0), some (.int x1), some (.int x2)] [] σ
      refine h.run (o := []) (ls' := [some (.ref 0), some (.int x1), some (.int x2)]) (st' := [.int 1]) (σ' := σ) [(.iconst 1, 1, 1, 0, 0, 0), (.goto 4, 3, 0, 0, 0, 33)] (pc2 := 33) (by decide +kernel) rfl trivial ?_
      refine h.drop (ls' := [none, none, none]) trivial ?_
      exact wX5_areThere_33 hm hf
def fX5_bringSettings (σ : ST) : Option ST :=
  some (setI (setI (setI σ 3 0 (σ.1 1 0)) 3 1 ((setI σ 3 0 (σ.1 1 0)).1 1 1)) 3 2 ((setI (setI σ 3 0 (σ.1 1 0)) 3 1 ((setI σ 3 0 (σ.1 1 0)).1 1 1)).1 1 2))
set_option maxHeartbeats 4000000 in
theorem kmX5_bringSettings (l : Launch) {σ : ST} {τ : ST} (hf : fX5_bringSettings σ = some τ) : KM l yX5_bringSettings cX5_bringSettings 1 none 0 0 [.ref 0] σ none τ := by
  refine KM.intro (ow := 5) (by decide +kernel) rfl (Nat.le_of_ble_eq_true rfl) (fun V hm => ?_)
  show V 0 [some (.ref 0)] [] σ
  have h := hm.bd
  unfold fX5_bringSettings at hf
  refine h.run (o := [kd 0 = 5, kd 0 = 5, kd 1 = 0, kd 3 = 1, kd 0 = 5, kd 0 = 5, kd 1 = 0, kd 3 = 1, kd 0 = 5, kd 0 = 5, kd 1 = 0, kd 3 = 1]) (ls' := [some (.ref 0)]) (st' := []) (σ' := setI (setI (setI σ 3 0 (σ.1 1 0)) 3 1 ((setI σ 3 0 (σ.1 1 0)).1 1 1)) 3 2 ((setI (setI σ 3 0 (σ.1 1 0)) 3 1 ((setI σ 3 0 (σ.1 1 0)).1 1 1)).1 1 2)) [(.aload_n 0, 1, 0, 0, 0, 0), (.getfield 26, 3, 0, 0, 5, 3), (.aload_n 0, 1, 0, 0, 0, 0), (.getfield 10, 3, 0, 0, 5, 0), (.getfield 107, 3, 0, 0, 0, 0), (.putfield 273, 3, 0, 0, 1, 0), (.aload_n 0, 1, 0, 0, 0, 0), (.getfield 26, 3, 0, 0, 5, 3), (.aload_n 0, 1, 0, 0, 0, 0), (.getfield 10, 3, 0, 0, 5, 0), (.getfield 110, 3, 0, 0, 0, 1), (.putfield 274, 3, 0, 0, 1, 1), (.aload_n 0, 1, 0, 0, 0, 0), (.getfield 26, 3, 0, 0, 5, 3), (.aload_n 0, 1, 0, 0, 0, 0), (.getfield 10, 3, 0, 0, 5, 0), (.getfield 101, 3, 0, 0, 0, 2), (.putfield 275, 3, 0, 0, 1, 2)] (pc2 := 42) (by decide +kernel) rfl (And.intro kd_0 (And.intro kd_0 (And.intro kd_1 (And.intro kd_3 (And.intro kd_0 (And.intro kd_0 (And.intro kd_1 (And.intro kd_3 (And.intro kd_0 (And.intro kd_0 (And.intro kd_1 (And.intro kd_3 trivial)))))))))))) ?_
  obtain rfl := Option.some.inj hf
  exact hm.vret (by decide +kernel)
def fX5_bringSender (x1 : Int32) (σ : ST) : Option ST :=
  bR (fX5_bringSettings σ) fun σ1 =>
  bR (fX4_read 6 x1 0 σ1) fun a2 =>
  bR (fX4_read 6 x1 1 (setI σ1 3 3 a2)) fun a3 =>
  bR (fX4_read 6 x1 2 (setI (setI σ1 3 3 a2) 3 4 a3)) fun a4 =>
  some (setI (setI (setI σ1 3 3 a2) 3 4 a3) 3 5 a4)
set_option maxHeartbeats 4000000 in
theorem kmX5_bringSender (l : Launch) {x1 : Int32} {σ : ST} {τ : ST} (hf : fX5_bringSender x1 σ = some τ) : KM l yX5_bringSender cX5_bringSender 2 none 2 46 [.ref 0, .int x1] σ none τ := by
  refine KM.intro (ow := 5) (by decide +kernel) rfl (Nat.le_of_ble_eq_true rfl) (fun V hm => ?_)
  show V 0 [some (.ref 0), some (.int x1)] [] σ
  have h := hm.bd
  unfold fX5_bringSender at hf
  refine h.run (o := []) (ls' := [some (.ref 0), some (.int x1)]) (st' := [.ref 0]) (σ' := σ) [(.aload_n 0, 1, 0, 0, 0, 0)] (pc2 := 1) (by decide +kernel) rfl trivial ?_
  obtain ⟨σ1, e1, hf⟩ := bR_some hf
  refine h.callV (as := []) (rest := []) (by decide +kernel) lk5_262 cwX5_bringSettings kd_0 (kmX5_bringSettings l e1) rfl (Nat.le_of_ble_eq_true rfl) (Nat.le_of_ble_eq_true rfl) (Nat.le_of_ble_eq_true rfl) ?_
  show V 4 [some (.ref 0), some (.int x1)] [] σ1
  refine h.run (o := [kd 0 = 5, kd 0 = 5, kd 1 = 0]) (ls' := [some (.ref 0), some (.int x1)]) (st' := [.int 0, .int x1, .ref 6, .ref 3]) (σ' := σ1) [(.aload_n 0, 1, 0, 0, 0, 0), (.getfield 26, 3, 0, 0, 5, 3), (.aload_n 0, 1, 0, 0, 0, 0), (.getfield 10, 3, 0, 0, 5, 0), (.getfield 80, 3, 0, 0, 0, 3), (.iload_n 1, 1, 0, 0, 0, 0), (.iconst 0, 1, 0, 0, 0, 0)] (pc2 := 17) (by decide +kernel) rfl (And.intro kd_0 (And.intro kd_0 (And.intro kd_1 trivial))) ?_
  obtain ⟨a2, e2, hf⟩ := bR_some hf
  refine h.callV (as := [.int x1, .int 0]) (rest := [.ref 3]) (by decide +kernel) lk5_87 cwX4_read kd_6 (kmX4_read l kd_6 e2) rfl (Nat.le_of_ble_eq_true rfl) (Nat.le_of_ble_eq_true rfl) (Nat.le_of_ble_eq_true rfl) ?_
  show V 20 [some (.ref 0), some (.int x1)] [.int a2, .ref 3] σ1
  refine h.run (o := [kd 3 = 1, kd 0 = 5, kd 0 = 5, kd 1 = 0]) (ls' := [some (.ref 0), some (.int x1)]) (st' := [.int 1, .int x1, .ref 6, .ref 3]) (σ' := setI σ1 3 3 a2) [(.putfield 265, 3, 0, 0, 1, 3), (.aload_n 0, 1, 0, 0, 0, 0), (.getfield 26, 3, 0, 0, 5, 3), (.aload_n 0, 1, 0, 0, 0, 0), (.getfield 10, 3, 0, 0, 5, 0), (.getfield 80, 3, 0, 0, 0, 3), (.iload_n 1, 1, 0, 0, 0, 0), (.iconst 1, 1, 1, 0, 0, 0)] (pc2 := 36) (by decide +kernel) rfl (And.intro kd_3 (And.intro kd_0 (And.intro kd_0 (And.intro kd_1 trivial)))) ?_
  obtain ⟨a3, e3, hf⟩ := bR_some hf
  refine h.callV (as := [.int x1, .int 1]) (rest := [.ref 3]) (by decide +kernel) lk5_87 cwX4_read kd_6 (kmX4_read l kd_6 e3) rfl (Nat.le_of_ble_eq_true rfl) (Nat.le_of_ble_eq_true rfl) (Nat.le_of_ble_eq_true rfl) ?_
  show V 39 [some (.ref 0), some (.int x1)] [.int a3, .ref 3] (setI σ1 3 3 a2)
  refine h.run (o := [kd 3 = 1, kd 0 = 5, kd 0 = 5, kd 1 = 0]) (ls' := [some (.ref 0), some (.int x1)]) (st' := [.int 2, .int x1, .ref 6, .ref 3]) (σ' := setI (setI σ1 3 3 a2) 3 4 a3) [(.putfield 266, 3, 0, 0, 1, 4), (.aload_n 0, 1, 0, 0, 0, 0), (.getfield 26, 3, 0, 0, 5, 3), (.aload_n 0, 1, 0, 0, 0, 0), (.getfield 10, 3, 0, 0, 5, 0), (.getfield 80, 3, 0, 0, 0, 3), (.iload_n 1, 1, 0, 0, 0, 0), (.iconst 2, 1, 2, 0, 0, 0)] (pc2 := 55) (by decide +kernel) rfl (And.intro kd_3 (And.intro kd_0 (And.intro kd_0 (And.intro kd_1 trivial)))) ?_
  obtain ⟨a4, e4, hf⟩ := bR_some hf
  refine h.callV (as := [.int x1, .int 2]) (rest := [.ref 3]) (by decide +kernel) lk5_87 cwX4_read kd_6 (kmX4_read l kd_6 e4) rfl (Nat.le_of_ble_eq_true rfl) (Nat.le_of_ble_eq_true rfl) (Nat.le_of_ble_eq_true rfl) ?_
  show V 58 [some (.ref 0), some (.int x1)] [.int a4, .ref 3] (setI (setI σ1 3 3 a2) 3 4 a3)
  refine h.run (o := [kd 3 = 1]) (ls' := [some (.ref 0), some (.int x1)]) (st' := []) (σ' := setI (setI (setI σ1 3 3 a2) 3 4 a3) 3 5 a4) [(.putfield 155, 3, 0, 0, 1, 5)] (pc2 := 61) (by decide +kernel) rfl (And.intro kd_3 trivial) ?_
  obtain rfl := Option.some.inj hf
  exact hm.vret (by decide +kernel)
def fX5_bringReturner (x1 : Int32) (σ : ST) : Option ST :=
  bR (fX5_bringSettings σ) fun σ1 =>
  bR (fX4_read 8 x1 0 σ1) fun a2 =>
  bR (fX4_read 8 x1 1 (setI σ1 3 6 a2)) fun a3 =>
  bR (fX4_read 8 x1 2 (setI (setI σ1 3 6 a2) 3 7 a3)) fun a4 =>
  bR (fX4_read 8 x1 3 (setI (setI (setI σ1 3 6 a2) 3 7 a3) 3 8 a4)) fun a5 =>
  bR (fX4_read 8 x1 4 (setI (setI (setI (setI σ1 3 6 a2) 3 7 a3) 3 8 a4) 3 9 a5)) fun a6 =>
  some (setI (setI (setI (setI (setI σ1 3 6 a2) 3 7 a3) 3 8 a4) 3 9 a5) 3 10 a6)
set_option maxHeartbeats 4000000 in
theorem kmX5_bringReturner (l : Launch) {x1 : Int32} {σ : ST} {τ : ST} (hf : fX5_bringReturner x1 σ = some τ) : KM l yX5_bringReturner cX5_bringReturner 2 none 2 46 [.ref 0, .int x1] σ none τ := by
  refine KM.intro (ow := 5) (by decide +kernel) rfl (Nat.le_of_ble_eq_true rfl) (fun V hm => ?_)
  show V 0 [some (.ref 0), some (.int x1)] [] σ
  have h := hm.bd
  unfold fX5_bringReturner at hf
  refine h.run (o := []) (ls' := [some (.ref 0), some (.int x1)]) (st' := [.ref 0]) (σ' := σ) [(.aload_n 0, 1, 0, 0, 0, 0)] (pc2 := 1) (by decide +kernel) rfl trivial ?_
  obtain ⟨σ1, e1, hf⟩ := bR_some hf
  refine h.callV (as := []) (rest := []) (by decide +kernel) lk5_262 cwX5_bringSettings kd_0 (kmX5_bringSettings l e1) rfl (Nat.le_of_ble_eq_true rfl) (Nat.le_of_ble_eq_true rfl) (Nat.le_of_ble_eq_true rfl) ?_
  show V 4 [some (.ref 0), some (.int x1)] [] σ1
  refine h.run (o := [kd 0 = 5, kd 0 = 5, kd 1 = 0]) (ls' := [some (.ref 0), some (.int x1)]) (st' := [.int 0, .int x1, .ref 8, .ref 3]) (σ' := σ1) [(.aload_n 0, 1, 0, 0, 0, 0), (.getfield 26, 3, 0, 0, 5, 3), (.aload_n 0, 1, 0, 0, 0, 0), (.getfield 10, 3, 0, 0, 5, 0), (.getfield 91, 3, 0, 0, 0, 4), (.iload_n 1, 1, 0, 0, 0, 0), (.iconst 0, 1, 0, 0, 0, 0)] (pc2 := 17) (by decide +kernel) rfl (And.intro kd_0 (And.intro kd_0 (And.intro kd_1 trivial))) ?_
  obtain ⟨a2, e2, hf⟩ := bR_some hf
  refine h.callV (as := [.int x1, .int 0]) (rest := [.ref 3]) (by decide +kernel) lk5_87 cwX4_read kd_8 (kmX4_read l kd_8 e2) rfl (Nat.le_of_ble_eq_true rfl) (Nat.le_of_ble_eq_true rfl) (Nat.le_of_ble_eq_true rfl) ?_
  show V 20 [some (.ref 0), some (.int x1)] [.int a2, .ref 3] σ1
  refine h.run (o := [kd 3 = 1, kd 0 = 5, kd 0 = 5, kd 1 = 0]) (ls' := [some (.ref 0), some (.int x1)]) (st' := [.int 1, .int x1, .ref 8, .ref 3]) (σ' := setI σ1 3 6 a2) [(.putfield 158, 3, 0, 0, 1, 6), (.aload_n 0, 1, 0, 0, 0, 0), (.getfield 26, 3, 0, 0, 5, 3), (.aload_n 0, 1, 0, 0, 0, 0), (.getfield 10, 3, 0, 0, 5, 0), (.getfield 91, 3, 0, 0, 0, 4), (.iload_n 1, 1, 0, 0, 0, 0), (.iconst 1, 1, 1, 0, 0, 0)] (pc2 := 36) (by decide +kernel) rfl (And.intro kd_3 (And.intro kd_0 (And.intro kd_0 (And.intro kd_1 trivial)))) ?_
  obtain ⟨a3, e3, hf⟩ := bR_some hf
  refine h.callV (as := [.int x1, .int 1]) (rest := [.ref 3]) (by decide +kernel) lk5_87 cwX4_read kd_8 (kmX4_read l kd_8 e3) rfl (Nat.le_of_ble_eq_true rfl) (Nat.le_of_ble_eq_true rfl) (Nat.le_of_ble_eq_true rfl) ?_
  show V 39 [some (.ref 0), some (.int x1)] [.int a3, .ref 3] (setI σ1 3 6 a2)
  refine h.run (o := [kd 3 = 1, kd 0 = 5, kd 0 = 5, kd 1 = 0]) (ls' := [some (.ref 0), some (.int x1)]) (st' := [.int 2, .int x1, .ref 8, .ref 3]) (σ' := setI (setI σ1 3 6 a2) 3 7 a3) [(.putfield 173, 3, 0, 0, 1, 7), (.aload_n 0, 1, 0, 0, 0, 0), (.getfield 26, 3, 0, 0, 5, 3), (.aload_n 0, 1, 0, 0, 0, 0), (.getfield 10, 3, 0, 0, 5, 0), (.getfield 91, 3, 0, 0, 0, 4), (.iload_n 1, 1, 0, 0, 0, 0), (.iconst 2, 1, 2, 0, 0, 0)] (pc2 := 55) (by decide +kernel) rfl (And.intro kd_3 (And.intro kd_0 (And.intro kd_0 (And.intro kd_1 trivial)))) ?_
  obtain ⟨a4, e4, hf⟩ := bR_some hf
  refine h.callV (as := [.int x1, .int 2]) (rest := [.ref 3]) (by decide +kernel) lk5_87 cwX4_read kd_8 (kmX4_read l kd_8 e4) rfl (Nat.le_of_ble_eq_true rfl) (Nat.le_of_ble_eq_true rfl) (Nat.le_of_ble_eq_true rfl) ?_
  show V 58 [some (.ref 0), some (.int x1)] [.int a4, .ref 3] (setI (setI σ1 3 6 a2) 3 7 a3)
  refine h.run (o := [kd 3 = 1, kd 0 = 5, kd 0 = 5, kd 1 = 0]) (ls' := [some (.ref 0), some (.int x1)]) (st' := [.int 3, .int x1, .ref 8, .ref 3]) (σ' := setI (setI (setI σ1 3 6 a2) 3 7 a3) 3 8 a4) [(.putfield 267, 3, 0, 0, 1, 8), (.aload_n 0, 1, 0, 0, 0, 0), (.getfield 26, 3, 0, 0, 5, 3), (.aload_n 0, 1, 0, 0, 0, 0), (.getfield 10, 3, 0, 0, 5, 0), (.getfield 91, 3, 0, 0, 0, 4), (.iload_n 1, 1, 0, 0, 0, 0), (.iconst 3, 1, 3, 0, 0, 0)] (pc2 := 74) (by decide +kernel) rfl (And.intro kd_3 (And.intro kd_0 (And.intro kd_0 (And.intro kd_1 trivial)))) ?_
  obtain ⟨a5, e5, hf⟩ := bR_some hf
  refine h.callV (as := [.int x1, .int 3]) (rest := [.ref 3]) (by decide +kernel) lk5_87 cwX4_read kd_8 (kmX4_read l kd_8 e5) rfl (Nat.le_of_ble_eq_true rfl) (Nat.le_of_ble_eq_true rfl) (Nat.le_of_ble_eq_true rfl) ?_
  show V 77 [some (.ref 0), some (.int x1)] [.int a5, .ref 3] (setI (setI (setI σ1 3 6 a2) 3 7 a3) 3 8 a4)
  refine h.run (o := [kd 3 = 1, kd 0 = 5, kd 0 = 5, kd 1 = 0]) (ls' := [some (.ref 0), some (.int x1)]) (st' := [.int 4, .int x1, .ref 8, .ref 3]) (σ' := setI (setI (setI (setI σ1 3 6 a2) 3 7 a3) 3 8 a4) 3 9 a5) [(.putfield 270, 3, 0, 0, 1, 9), (.aload_n 0, 1, 0, 0, 0, 0), (.getfield 26, 3, 0, 0, 5, 3), (.aload_n 0, 1, 0, 0, 0, 0), (.getfield 10, 3, 0, 0, 5, 0), (.getfield 91, 3, 0, 0, 0, 4), (.iload_n 1, 1, 0, 0, 0, 0), (.iconst 4, 1, 4, 0, 0, 0)] (pc2 := 93) (by decide +kernel) rfl (And.intro kd_3 (And.intro kd_0 (And.intro kd_0 (And.intro kd_1 trivial)))) ?_
  obtain ⟨a6, e6, hf⟩ := bR_some hf
  refine h.callV (as := [.int x1, .int 4]) (rest := [.ref 3]) (by decide +kernel) lk5_87 cwX4_read kd_8 (kmX4_read l kd_8 e6) rfl (Nat.le_of_ble_eq_true rfl) (Nat.le_of_ble_eq_true rfl) (Nat.le_of_ble_eq_true rfl) ?_
  show V 96 [some (.ref 0), some (.int x1)] [.int a6, .ref 3] (setI (setI (setI (setI σ1 3 6 a2) 3 7 a3) 3 8 a4) 3 9 a5)
  refine h.run (o := [kd 3 = 1]) (ls' := [some (.ref 0), some (.int x1)]) (st' := []) (σ' := setI (setI (setI (setI (setI σ1 3 6 a2) 3 7 a3) 3 8 a4) 3 9 a5) 3 10 a6) [(.putfield 176, 3, 0, 0, 1, 10)] (pc2 := 99) (by decide +kernel) rfl (And.intro kd_3 trivial) ?_
  obtain rfl := Option.some.inj hf
  exact hm.vret (by decide +kernel)
def fX5_bringLastOf_77 (kt_21 : Int32 → Int32 → Int32 → ST → Option ST) (x1 : Int32) (x2 : Int32) (x3 : Int32) (σ : ST) : Option ST :=
  kt_21 x1 x2 (x3 + (-1)) σ
set_option maxHeartbeats 4000000 in
theorem wX5_bringLastOf_77 {l : Launch} {V : Nat → List (Option Value) → List Value → ST → Prop} {τ : ST} {σ : ST} {x1 : Int32} {x2 : Int32} {x3 : Int32} {kt_21 : Int32 → Int32 → Int32 → ST → Option ST} (hm : BM l 5 cX5_bringLastOf 4 none 2 46 none τ V) (hkt_21 : ∀ (x1 : Int32) (x2 : Int32) (x3 : Int32) (σ : ST), kt_21 x1 x2 x3 σ = some τ → V 21 [some (.ref 0), some (.int x1), some (.int x2), some (.int x3)] [] σ) (hf : fX5_bringLastOf_77 kt_21 x1 x2 x3 σ = some τ) : V 77 [some (.ref 0), some (.int x1), some (.int x2), some (.int x3)] [] σ := by
  have h := hm.bd
  unfold fX5_bringLastOf_77 at hf
  refine h.run (o := []) (ls' := [some (.ref 0), some (.int x1), some (.int x2), some (.int (x3 + (-1)))]) (st' := []) (σ' := σ) [(.iinc 3 (-1), 3, (-1), 0, 0, 0), (.goto (-59), 3, 0, 0, 0, 21)] (pc2 := 21) (by decide +kernel) rfl trivial ?_
  exact hkt_21 x1 x2 (x3 + (-1)) _ hf
def fX5_bringLastOf_21 (n : Nat) (x1 : Int32) (x2 : Int32) (x3 : Int32) (σ : ST) : Option ST := match n with
  | 0 => none
  | n + 1 =>
    if x3 < 0 then
      some σ
    else
      bR (fX4_read 10 x3 0 σ) fun a1 =>
      if a1 = x1 then
        bR (fX4_read 10 x3 1 σ) fun a2 =>
        if a2 = x2 then
          bR (fX4_read 10 x3 4 σ) fun a3 =>
          some (setI σ 3 13 a3)
        else
          fX5_bringLastOf_77 (fX5_bringLastOf_21 n) x1 x2 x3 σ
      else
        fX5_bringLastOf_77 (fX5_bringLastOf_21 n) x1 x2 x3 σ
set_option maxHeartbeats 4000000 in
theorem wX5_bringLastOf_21 {l : Launch} {V : Nat → List (Option Value) → List Value → ST → Prop} {τ : ST} (hm : BM l 5 cX5_bringLastOf 4 none 2 46 none τ V) : ∀ (n : Nat) (x1 : Int32) (x2 : Int32) (x3 : Int32) (σ : ST), fX5_bringLastOf_21 n x1 x2 x3 σ = some τ → V 21 [some (.ref 0), some (.int x1), some (.int x2), some (.int x3)] [] σ := by
  have h := hm.bd
  intro n
  induction n with
  | zero => intro x1 x2 x3 σ hf; cases hf
  | succ n ih =>
    intro x1 x2 x3 σ hf
    rw [fX5_bringLastOf_21] at hf
    refine h.run (o := []) (ls' := [some (.ref 0), some (.int x1), some (.int x2), some (.int x3)]) (st' := [.int x3]) (σ' := σ) [(.iload_n 3, 1, 0, 0, 0, 0)] (pc2 := 22) (by decide +kernel) rfl trivial ?_
    refine h.if_lt (tgt := 83) (show decode cX5_bringLastOf 22 = .ok (.ifCond .lt 61, 3) by decide +kernel) (by decide) (fun c6 => ?_) (fun c6 => ?_)
    · rw [if_pos c6] at hf
      obtain rfl := Option.some.inj hf
      exact hm.vret (by decide +kernel)
    · rw [if_neg c6] at hf
      show V 25 [some (.ref 0), some (.int x1), some (.int x2), some (.int x3)] [] σ
      refine h.run (o := [kd 0 = 5, kd 1 = 0]) (ls' := [some (.ref 0), some (.int x1), some (.int x2), some (.int x3)]) (st' := [.int 0, .int x3, .ref 10]) (σ' := σ) [(.aload_n 0, 1, 0, 0, 0, 0), (.getfield 10, 3, 0, 0, 5, 0), (.getfield 104, 3, 0, 0, 0, 5), (.iload_n 3, 1, 0, 0, 0, 0), (.iconst 0, 1, 0, 0, 0, 0)] (pc2 := 34) (by decide +kernel) rfl (And.intro kd_0 (And.intro kd_1 trivial)) ?_
      obtain ⟨a1, e1, hf⟩ := bR_some hf
      refine h.callV (as := [.int x3, .int 0]) (rest := []) (by decide +kernel) lk5_87 cwX4_read kd_10 (kmX4_read l kd_10 e1) rfl (Nat.le_of_ble_eq_true rfl) (Nat.le_of_ble_eq_true rfl) (Nat.le_of_ble_eq_true rfl) ?_
      show V 37 [some (.ref 0), some (.int x1), some (.int x2), some (.int x3)] [.int a1] σ
      refine h.run (o := []) (ls' := [some (.ref 0), some (.int x1), some (.int x2), some (.int x3)]) (st' := [.int x1, .int a1]) (σ' := σ) [(.iload_n 1, 1, 0, 0, 0, 0)] (pc2 := 38) (by decide +kernel) rfl trivial ?_
      refine h.icmp_ne (tgt := 77) (show decode cX5_bringLastOf 38 = .ok (.if_icmp .ne 39, 3) by decide +kernel) (by decide) (fun c5 => ?_) (fun c5 => ?_)
      · rw [if_neg c5] at hf
        exact wX5_bringLastOf_77 hm ih hf
      · rw [if_pos c5] at hf
        show V 41 [some (.ref 0), some (.int x1), some (.int x2), some (.int x3)] [] σ
        refine h.run (o := [kd 0 = 5, kd 1 = 0]) (ls' := [some (.ref 0), some (.int x1), some (.int x2), some (.int x3)]) (st' := [.int 1, .int x3, .ref 10]) (σ' := σ) [(.aload_n 0, 1, 0, 0, 0, 0), (.getfield 10, 3, 0, 0, 5, 0), (.getfield 104, 3, 0, 0, 0, 5), (.iload_n 3, 1, 0, 0, 0, 0), (.iconst 1, 1, 1, 0, 0, 0)] (pc2 := 50) (by decide +kernel) rfl (And.intro kd_0 (And.intro kd_1 trivial)) ?_
        obtain ⟨a2, e2, hf⟩ := bR_some hf
        refine h.callV (as := [.int x3, .int 1]) (rest := []) (by decide +kernel) lk5_87 cwX4_read kd_10 (kmX4_read l kd_10 e2) rfl (Nat.le_of_ble_eq_true rfl) (Nat.le_of_ble_eq_true rfl) (Nat.le_of_ble_eq_true rfl) ?_
        show V 53 [some (.ref 0), some (.int x1), some (.int x2), some (.int x3)] [.int a2] σ
        refine h.run (o := []) (ls' := [some (.ref 0), some (.int x1), some (.int x2), some (.int x3)]) (st' := [.int x2, .int a2]) (σ' := σ) [(.iload_n 2, 1, 0, 0, 0, 0)] (pc2 := 54) (by decide +kernel) rfl trivial ?_
        refine h.icmp_ne (tgt := 77) (show decode cX5_bringLastOf 54 = .ok (.if_icmp .ne 23, 3) by decide +kernel) (by decide) (fun c4 => ?_) (fun c4 => ?_)
        · rw [if_neg c4] at hf
          exact wX5_bringLastOf_77 hm ih hf
        · rw [if_pos c4] at hf
          show V 57 [some (.ref 0), some (.int x1), some (.int x2), some (.int x3)] [] σ
          refine h.run (o := [kd 0 = 5, kd 0 = 5, kd 1 = 0]) (ls' := [some (.ref 0), some (.int x1), some (.int x2), some (.int x3)]) (st' := [.int 4, .int x3, .ref 10, .ref 3]) (σ' := σ) [(.aload_n 0, 1, 0, 0, 0, 0), (.getfield 26, 3, 0, 0, 5, 3), (.aload_n 0, 1, 0, 0, 0, 0), (.getfield 10, 3, 0, 0, 5, 0), (.getfield 104, 3, 0, 0, 0, 5), (.iload_n 3, 1, 0, 0, 0, 0), (.iconst 4, 1, 4, 0, 0, 0)] (pc2 := 70) (by decide +kernel) rfl (And.intro kd_0 (And.intro kd_0 (And.intro kd_1 trivial))) ?_
          obtain ⟨a3, e3, hf⟩ := bR_some hf
          refine h.callV (as := [.int x3, .int 4]) (rest := [.ref 3]) (by decide +kernel) lk5_87 cwX4_read kd_10 (kmX4_read l kd_10 e3) rfl (Nat.le_of_ble_eq_true rfl) (Nat.le_of_ble_eq_true rfl) (Nat.le_of_ble_eq_true rfl) ?_
          show V 73 [some (.ref 0), some (.int x1), some (.int x2), some (.int x3)] [.int a3, .ref 3] σ
          refine h.run (o := [kd 3 = 1]) (ls' := [some (.ref 0), some (.int x1), some (.int x2), some (.int x3)]) (st' := []) (σ' := setI σ 3 13 a3) [(.putfield 282, 3, 0, 0, 1, 13)] (pc2 := 76) (by decide +kernel) rfl (And.intro kd_3 trivial) ?_
          obtain rfl := Option.some.inj hf
          exact hm.vret (by decide +kernel)
def fX5_bringLastOf (x1 : Int32) (x2 : Int32) (σ : ST) : Option ST :=
  fX5_bringLastOf_21 FU x1 x2 (((setI σ 3 13 (-1)).1 10 3) - 1) (setI σ 3 13 (-1))
set_option maxHeartbeats 4000000 in
theorem kmX5_bringLastOf (l : Launch) {x1 : Int32} {x2 : Int32} {σ : ST} {τ : ST} (hf : fX5_bringLastOf x1 x2 σ = some τ) : KM l yX5_bringLastOf cX5_bringLastOf 4 none 2 46 [.ref 0, .int x1, .int x2] σ none τ := by
  refine KM.intro (ow := 5) (by decide +kernel) rfl (Nat.le_of_ble_eq_true rfl) (fun V hm => ?_)
  show V 0 [some (.ref 0), some (.int x1), some (.int x2), none] [] σ
  have h := hm.bd
  unfold fX5_bringLastOf at hf
  refine h.run (o := [kd 0 = 5, kd 3 = 1, kd 0 = 5, kd 1 = 0, kd 10 = 4]) (ls' := [some (.ref 0), some (.int x1), some (.int x2), some (.int (((setI σ 3 13 (-1)).1 10 3) - 1))]) (st' := []) (σ' := setI σ 3 13 (-1)) [(.aload_n 0, 1, 0, 0, 0, 0), (.getfield 26, 3, 0, 0, 5, 3), (.iconst (-1), 1, (-1), 0, 0, 0), (.putfield 282, 3, 0, 0, 1, 13), (.aload_n 0, 1, 0, 0, 0, 0), (.getfield 10, 3, 0, 0, 5, 0), (.getfield 104, 3, 0, 0, 0, 5), (.getfield 71, 3, 0, 0, 4, 3), (.iconst 1, 1, 1, 0, 0, 0), (.isub, 1, 0, 0, 0, 0), (.istore_n 3, 1, 0, 0, 0, 0)] (pc2 := 21) (by decide +kernel) rfl (And.intro kd_0 (And.intro kd_3 (And.intro kd_0 (And.intro kd_1 (And.intro kd_10 trivial))))) ?_
  exact wX5_bringLastOf_21 hm FU x1 x2 (((setI σ 3 13 (-1)).1 10 3) - 1) _ hf
def fX5_bring (x1 : Int32) (x2 : Int32) (σ : ST) : Option ST :=
  bR (fX5_bringSender x1 σ) fun σ1 =>
  bR (fX5_bringReturner x2 σ1) fun σ2 =>
  bR (fX5_bringPastOf x2 σ2) fun σ3 =>
  bR (fX5_bringLastOf x1 x2 σ3) fun σ4 =>
  some σ4
set_option maxHeartbeats 4000000 in
theorem kmX5_bring (l : Launch) {x1 : Int32} {x2 : Int32} {σ : ST} {τ : ST} (hf : fX5_bring x1 x2 σ = some τ) : KM l yX5_bring cX5_bring 3 none 4 92 [.ref 0, .int x1, .int x2] σ none τ := by
  refine KM.intro (ow := 5) (by decide +kernel) rfl (Nat.le_of_ble_eq_true rfl) (fun V hm => ?_)
  show V 0 [some (.ref 0), some (.int x1), some (.int x2)] [] σ
  have h := hm.bd
  unfold fX5_bring at hf
  refine h.run (o := []) (ls' := [some (.ref 0), some (.int x1), some (.int x2)]) (st' := [.int x1, .ref 0]) (σ' := σ) [(.aload_n 0, 1, 0, 0, 0, 0), (.iload_n 1, 1, 0, 0, 0, 0)] (pc2 := 2) (by decide +kernel) rfl trivial ?_
  obtain ⟨σ1, e1, hf⟩ := bR_some hf
  refine h.callV (as := [.int x1]) (rest := []) (by decide +kernel) lk5_161 cwX5_bringSender kd_0 (kmX5_bringSender l e1) rfl (Nat.le_of_ble_eq_true rfl) (Nat.le_of_ble_eq_true rfl) (Nat.le_of_ble_eq_true rfl) ?_
  show V 5 [some (.ref 0), some (.int x1), some (.int x2)] [] σ1
  refine h.run (o := []) (ls' := [some (.ref 0), some (.int x1), some (.int x2)]) (st' := [.int x2, .ref 0]) (σ' := σ1) [(.aload_n 0, 1, 0, 0, 0, 0), (.iload_n 2, 1, 0, 0, 0, 0)] (pc2 := 7) (by decide +kernel) rfl trivial ?_
  obtain ⟨σ2, e2, hf⟩ := bR_some hf
  refine h.callV (as := [.int x2]) (rest := []) (by decide +kernel) lk5_146 cwX5_bringReturner kd_0 (kmX5_bringReturner l e2) rfl (Nat.le_of_ble_eq_true rfl) (Nat.le_of_ble_eq_true rfl) (Nat.le_of_ble_eq_true rfl) ?_
  show V 10 [some (.ref 0), some (.int x1), some (.int x2)] [] σ2
  refine h.run (o := []) (ls' := [some (.ref 0), some (.int x1), some (.int x2)]) (st' := [.int x2, .ref 0]) (σ' := σ2) [(.aload_n 0, 1, 0, 0, 0, 0), (.iload_n 2, 1, 0, 0, 0, 0)] (pc2 := 12) (by decide +kernel) rfl trivial ?_
  obtain ⟨σ3, e3, hf⟩ := bR_some hf
  refine h.callV (as := [.int x2]) (rest := []) (by decide +kernel) lk5_94 cwX5_bringPastOf kd_0 (kmX5_bringPastOf l e3) rfl (Nat.le_of_ble_eq_true rfl) (Nat.le_of_ble_eq_true rfl) (Nat.le_of_ble_eq_true rfl) ?_
  show V 15 [some (.ref 0), some (.int x1), some (.int x2)] [] σ3
  refine h.run (o := []) (ls' := [some (.ref 0), some (.int x1), some (.int x2)]) (st' := [.int x2, .int x1, .ref 0]) (σ' := σ3) [(.aload_n 0, 1, 0, 0, 0, 0), (.iload_n 1, 1, 0, 0, 0, 0), (.iload_n 2, 1, 0, 0, 0, 0)] (pc2 := 18) (by decide +kernel) rfl trivial ?_
  obtain ⟨σ4, e4, hf⟩ := bR_some hf
  refine h.callV (as := [.int x1, .int x2]) (rest := []) (by decide +kernel) lk5_259 cwX5_bringLastOf kd_0 (kmX5_bringLastOf l e4) rfl (Nat.le_of_ble_eq_true rfl) (Nat.le_of_ble_eq_true rfl) (Nat.le_of_ble_eq_true rfl) ?_
  show V 21 [some (.ref 0), some (.int x1), some (.int x2)] [] σ4
  obtain rfl := Option.some.inj hf
  exact hm.vret (by decide +kernel)
def fX5_playAndWriteDown_147 (t1 : Int32) (t2 : Int32) (t3 : Int32) (σ : ST) : Option (Int32 × ST) :=
  bR (fX4_write 10 t1 t2 t3 σ) fun σ1 =>
  some (σ1.1 3 14, σ1)
set_option maxHeartbeats 4000000 in
theorem wX5_playAndWriteDown_147 {l : Launch} {V : Nat → List (Option Value) → List Value → ST → Prop} {r : Int32} {τ : ST} {σ : ST} {t1 : Int32} {t2 : Int32} {t3 : Int32} (hm : BM l 5 cX5_playAndWriteDown 5 (some .int) 5 114 (some (.int r)) τ V) (hf : fX5_playAndWriteDown_147 t1 t2 t3 σ = some (r, τ)) : V 147 [some (.ref 0), none, none, none, none] [.int t3, .int t2, .int t1, .ref 10] σ := by
  have h := hm.bd
  unfold fX5_playAndWriteDown_147 at hf
  obtain ⟨σ1, e1, hf⟩ := bR_some hf
  refine h.callV (as := [.int t1, .int t2, .int t3]) (rest := []) (by decide +kernel) lk5_113 cwX4_write kd_10 (kmX4_write l kd_10 e1) rfl (Nat.le_of_ble_eq_true rfl) (Nat.le_of_ble_eq_true rfl) (Nat.le_of_ble_eq_true rfl) ?_
  show V 150 [some (.ref 0), none, none, none, none] [] σ1
  refine h.run (o := [kd 0 = 5, kd 3 = 1]) (ls' := [some (.ref 0), none, none, none, none]) (st' := [.int (σ1.1 3 14)]) (σ' := σ1) [(.aload_n 0, 1, 0, 0, 0, 0), (.getfield 26, 3, 0, 0, 5, 3), (.getfield 292, 3, 0, 0, 1, 14)] (pc2 := 157) (by decide +kernel) rfl (And.intro kd_0 (And.intro kd_3 trivial)) ?_
  obtain ⟨rfl, rfl⟩ := Prod.mk.inj (Option.some.inj hf)
  exact hm.iret (by decide +kernel)
def fX5_playAndWriteDown (x1 : Int32) (x2 : Int32) (x3 : Int32) (σ : ST) : Option (Int32 × ST) :=
  bR (fX5_bring x1 x2 σ) fun σ1 =>
  bR (fX1_play x3 σ1) fun σ2 =>
  bI (fX4_open 10 (setI σ2 1 2 (σ2.1 3 2))) fun a3 σ3 =>
  bR (fX4_write 10 a3 0 x1 σ3) fun σ4 =>
  bR (fX4_write 10 a3 1 x2 σ4) fun σ5 =>
  bR (fX4_write 10 a3 2 (σ5.1 3 14) σ5) fun σ6 =>
  bR (fX4_write 10 a3 3 (σ6.1 3 15) σ6) fun σ7 =>
  bR (fX4_write 10 a3 4 (σ7.1 3 13) σ7) fun σ8 =>
  if x3 = 0 then
    fX5_playAndWriteDown_147 a3 5 0 σ8
  else
    fX5_playAndWriteDown_147 a3 5 1 σ8
set_option maxHeartbeats 4000000 in
theorem kmX5_playAndWriteDown (l : Launch) {x1 : Int32} {x2 : Int32} {x3 : Int32} {σ : ST} {r : Int32} {τ : ST} (hf : fX5_playAndWriteDown x1 x2 x3 σ = some (r, τ)) : KM l yX5_playAndWriteDown cX5_playAndWriteDown 5 (some .int) 5 114 [.ref 0, .int x1, .int x2, .int x3] σ (some (.int r)) τ := by
  refine KM.intro (ow := 5) (by decide +kernel) rfl (Nat.le_of_ble_eq_true rfl) (fun V hm => ?_)
  show V 0 [some (.ref 0), some (.int x1), some (.int x2), some (.int x3), none] [] σ
  have h := hm.bd
  unfold fX5_playAndWriteDown at hf
  refine h.run (o := []) (ls' := [some (.ref 0), some (.int x1), some (.int x2), some (.int x3), none]) (st' := [.int x2, .int x1, .ref 0]) (σ' := σ) [(.aload_n 0, 1, 0, 0, 0, 0), (.iload_n 1, 1, 0, 0, 0, 0), (.iload_n 2, 1, 0, 0, 0, 0)] (pc2 := 3) (by decide +kernel) rfl trivial ?_
  obtain ⟨σ1, e1, hf⟩ := bR_some hf
  refine h.callV (as := [.int x1, .int x2]) (rest := []) (by decide +kernel) lk5_139 cwX5_bring kd_0 (kmX5_bring l e1) rfl (Nat.le_of_ble_eq_true rfl) (Nat.le_of_ble_eq_true rfl) (Nat.le_of_ble_eq_true rfl) ?_
  show V 6 [some (.ref 0), some (.int x1), some (.int x2), some (.int x3), none] [] σ1
  refine h.run (o := [kd 0 = 5]) (ls' := [some (.ref 0), some (.int x1), some (.int x2), some (.int x3), none]) (st' := [.int x3, .ref 3]) (σ' := σ1) [(.aload_n 0, 1, 0, 0, 0, 0), (.getfield 26, 3, 0, 0, 5, 3), (.iload_n 3, 1, 0, 0, 0, 0)] (pc2 := 11) (by decide +kernel) rfl (And.intro kd_0 trivial) ?_
  obtain ⟨σ2, e2, hf⟩ := bR_some hf
  refine h.callV (as := [.int x3]) (rest := []) (by decide +kernel) lk5_285 cwX1_play kd_3 (kmX1_play l e2) rfl (Nat.le_of_ble_eq_true rfl) (Nat.le_of_ble_eq_true rfl) (Nat.le_of_ble_eq_true rfl) ?_
  show V 14 [some (.ref 0), some (.int x1), some (.int x2), some (.int x3), none] [] σ2
  refine h.run (o := [kd 0 = 5, kd 0 = 5, kd 3 = 1, kd 1 = 0, kd 0 = 5, kd 1 = 0]) (ls' := [some (.ref 0), some (.int x1), some (.int x2), some (.int x3), none]) (st' := [.ref 10]) (σ' := setI σ2 1 2 (σ2.1 3 2)) [(.aload_n 0, 1, 0, 0, 0, 0), (.getfield 10, 3, 0, 0, 5, 0), (.aload_n 0, 1, 0, 0, 0, 0), (.getfield 26, 3, 0, 0, 5, 3), (.getfield 275, 3, 0, 0, 1, 2), (.putfield 101, 3, 0, 0, 0, 2), (.aload_n 0, 1, 0, 0, 0, 0), (.getfield 10, 3, 0, 0, 5, 0), (.getfield 104, 3, 0, 0, 0, 5)] (pc2 := 35) (by decide +kernel) rfl (And.intro kd_0 (And.intro kd_0 (And.intro kd_3 (And.intro kd_1 (And.intro kd_0 (And.intro kd_1 trivial)))))) ?_
  obtain ⟨a3, σ3, e3, hf⟩ := bI_some hf
  refine h.callV (as := []) (rest := []) (by decide +kernel) lk5_289 cwX4_open kd_10 (kmX4_open l kd_10 e3) rfl (Nat.le_of_ble_eq_true rfl) (Nat.le_of_ble_eq_true rfl) (Nat.le_of_ble_eq_true rfl) ?_
  show V 38 [some (.ref 0), some (.int x1), some (.int x2), some (.int x3), none] [.int a3] σ3
  refine h.run (o := [kd 0 = 5, kd 1 = 0]) (ls' := [some (.ref 0), some (.int x1), some (.int x2), some (.int x3), some (.int a3)]) (st' := [.int x1, .int 0, .int a3, .ref 10]) (σ' := σ3) [(.istore 4, 2, 0, 0, 0, 0), (.aload_n 0, 1, 0, 0, 0, 0), (.getfield 10, 3, 0, 0, 5, 0), (.getfield 104, 3, 0, 0, 0, 5), (.iload 4, 2, 0, 0, 0, 0), (.iconst 0, 1, 0, 0, 0, 0), (.iload_n 1, 1, 0, 0, 0, 0)] (pc2 := 51) (by decide +kernel) rfl (And.intro kd_0 (And.intro kd_1 trivial)) ?_
  obtain ⟨σ4, e4, hf⟩ := bR_some hf
  refine h.callV (as := [.int a3, .int 0, .int x1]) (rest := []) (by decide +kernel) lk5_113 cwX4_write kd_10 (kmX4_write l kd_10 e4) rfl (Nat.le_of_ble_eq_true rfl) (Nat.le_of_ble_eq_true rfl) (Nat.le_of_ble_eq_true rfl) ?_
  show V 54 [some (.ref 0), some (.int x1), some (.int x2), some (.int x3), some (.int a3)] [] σ4
  refine h.run (o := [kd 0 = 5, kd 1 = 0]) (ls' := [some (.ref 0), some (.int x1), some (.int x2), some (.int x3), some (.int a3)]) (st' := [.int x2, .int 1, .int a3, .ref 10]) (σ' := σ4) [(.aload_n 0, 1, 0, 0, 0, 0), (.getfield 10, 3, 0, 0, 5, 0), (.getfield 104, 3, 0, 0, 0, 5), (.iload 4, 2, 0, 0, 0, 0), (.iconst 1, 1, 1, 0, 0, 0), (.iload_n 2, 1, 0, 0, 0, 0)] (pc2 := 65) (by decide +kernel) rfl (And.intro kd_0 (And.intro kd_1 trivial)) ?_
  obtain ⟨σ5, e5, hf⟩ := bR_some hf
  refine h.callV (as := [.int a3, .int 1, .int x2]) (rest := []) (by decide +kernel) lk5_113 cwX4_write kd_10 (kmX4_write l kd_10 e5) rfl (Nat.le_of_ble_eq_true rfl) (Nat.le_of_ble_eq_true rfl) (Nat.le_of_ble_eq_true rfl) ?_
  show V 68 [some (.ref 0), some (.int x1), some (.int x2), some (.int x3), some (.int a3)] [] σ5
  refine h.run (o := [kd 0 = 5, kd 1 = 0, kd 0 = 5, kd 3 = 1]) (ls' := [some (.ref 0), some (.int x1), some (.int x2), some (.int x3), some (.int a3)]) (st' := [.int (σ5.1 3 14), .int 2, .int a3, .ref 10]) (σ' := σ5) [(.aload_n 0, 1, 0, 0, 0, 0), (.getfield 10, 3, 0, 0, 5, 0), (.getfield 104, 3, 0, 0, 0, 5), (.iload 4, 2, 0, 0, 0, 0), (.iconst 2, 1, 2, 0, 0, 0), (.aload_n 0, 1, 0, 0, 0, 0), (.getfield 26, 3, 0, 0, 5, 3), (.getfield 292, 3, 0, 0, 1, 14)] (pc2 := 85) (by decide +kernel) rfl (And.intro kd_0 (And.intro kd_1 (And.intro kd_0 (And.intro kd_3 trivial)))) ?_
  obtain ⟨σ6, e6, hf⟩ := bR_some hf
  refine h.callV (as := [.int a3, .int 2, .int (σ5.1 3 14)]) (rest := []) (by decide +kernel) lk5_113 cwX4_write kd_10 (kmX4_write l kd_10 e6) rfl (Nat.le_of_ble_eq_true rfl) (Nat.le_of_ble_eq_true rfl) (Nat.le_of_ble_eq_true rfl) ?_
  show V 88 [some (.ref 0), some (.int x1), some (.int x2), some (.int x3), some (.int a3)] [] σ6
  refine h.run (o := [kd 0 = 5, kd 1 = 0, kd 0 = 5, kd 3 = 1]) (ls' := [some (.ref 0), some (.int x1), some (.int x2), some (.int x3), some (.int a3)]) (st' := [.int (σ6.1 3 15), .int 3, .int a3, .ref 10]) (σ' := σ6) [(.aload_n 0, 1, 0, 0, 0, 0), (.getfield 10, 3, 0, 0, 5, 0), (.getfield 104, 3, 0, 0, 0, 5), (.iload 4, 2, 0, 0, 0, 0), (.iconst 3, 1, 3, 0, 0, 0), (.aload_n 0, 1, 0, 0, 0, 0), (.getfield 26, 3, 0, 0, 5, 3), (.getfield 295, 3, 0, 0, 1, 15)] (pc2 := 105) (by decide +kernel) rfl (And.intro kd_0 (And.intro kd_1 (And.intro kd_0 (And.intro kd_3 trivial)))) ?_
  obtain ⟨σ7, e7, hf⟩ := bR_some hf
  refine h.callV (as := [.int a3, .int 3, .int (σ6.1 3 15)]) (rest := []) (by decide +kernel) lk5_113 cwX4_write kd_10 (kmX4_write l kd_10 e7) rfl (Nat.le_of_ble_eq_true rfl) (Nat.le_of_ble_eq_true rfl) (Nat.le_of_ble_eq_true rfl) ?_
  show V 108 [some (.ref 0), some (.int x1), some (.int x2), some (.int x3), some (.int a3)] [] σ7
  refine h.run (o := [kd 0 = 5, kd 1 = 0, kd 0 = 5, kd 3 = 1]) (ls' := [some (.ref 0), some (.int x1), some (.int x2), some (.int x3), some (.int a3)]) (st' := [.int (σ7.1 3 13), .int 4, .int a3, .ref 10]) (σ' := σ7) [(.aload_n 0, 1, 0, 0, 0, 0), (.getfield 10, 3, 0, 0, 5, 0), (.getfield 104, 3, 0, 0, 0, 5), (.iload 4, 2, 0, 0, 0, 0), (.iconst 4, 1, 4, 0, 0, 0), (.aload_n 0, 1, 0, 0, 0, 0), (.getfield 26, 3, 0, 0, 5, 3), (.getfield 282, 3, 0, 0, 1, 13)] (pc2 := 125) (by decide +kernel) rfl (And.intro kd_0 (And.intro kd_1 (And.intro kd_0 (And.intro kd_3 trivial)))) ?_
  obtain ⟨σ8, e8, hf⟩ := bR_some hf
  refine h.callV (as := [.int a3, .int 4, .int (σ7.1 3 13)]) (rest := []) (by decide +kernel) lk5_113 cwX4_write kd_10 (kmX4_write l kd_10 e8) rfl (Nat.le_of_ble_eq_true rfl) (Nat.le_of_ble_eq_true rfl) (Nat.le_of_ble_eq_true rfl) ?_
  show V 128 [some (.ref 0), some (.int x1), some (.int x2), some (.int x3), some (.int a3)] [] σ8
  refine h.run (o := [kd 0 = 5, kd 1 = 0]) (ls' := [some (.ref 0), some (.int x1), some (.int x2), some (.int x3), some (.int a3)]) (st' := [.int x3, .int 5, .int a3, .ref 10]) (σ' := σ8) [(.aload_n 0, 1, 0, 0, 0, 0), (.getfield 10, 3, 0, 0, 5, 0), (.getfield 104, 3, 0, 0, 0, 5), (.iload 4, 2, 0, 0, 0, 0), (.iconst 5, 1, 5, 0, 0, 0), (.iload_n 3, 1, 0, 0, 0, 0)] (pc2 := 139) (by decide +kernel) rfl (And.intro kd_0 (And.intro kd_1 trivial)) ?_
  refine h.if_eq (tgt := 146) (show decode cX5_playAndWriteDown 139 = .ok (.ifCond .eq 7, 3) by decide +kernel) (by decide) (fun c9 => ?_) (fun c9 => ?_)
  · rw [if_pos c9] at hf
    refine h.run (o := []) (ls' := [some (.ref 0), some (.int x1), some (.int x2), some (.int x3), some (.int a3)]) (st' := [.int 0, .int 5, .int a3, .ref 10]) (σ' := σ8) [(.iconst 0, 1, 0, 0, 0, 0)] (pc2 := 147) (by decide +kernel) rfl trivial ?_
    refine h.drop (ls' := [some (.ref 0), none, none, none, none]) (And.intro rfl trivial) ?_
    exact wX5_playAndWriteDown_147 hm hf
  · rw [if_neg c9] at hf
    show V 142 [some (.ref 0), some (.int x1), some (.int x2), some (.int x3), some (.int a3)] [.int 5, .int a3, .ref 10] σ8
    refine h.run (o := []) (ls' := [some (.ref 0), some (.int x1), some (.int x2), some (.int x3), some (.int a3)]) (st' := [.int 1, .int 5, .int a3, .ref 10]) (σ' := σ8) [(.iconst 1, 1, 1, 0, 0, 0), (.goto 4, 3, 0, 0, 0, 147)] (pc2 := 147) (by decide +kernel) rfl trivial ?_
    refine h.drop (ls' := [some (.ref 0), none, none, none, none]) (And.intro rfl trivial) ?_
    exact wX5_playAndWriteDown_147 hm hf
def fX5_pair (x1 : Int32) (x2 : Int32) (x3 : Int32) (σ : ST) : Option (Int32 × ST) :=
  bR (fX5_areThere x1 x2 σ) fun a1 =>
  if a1 = 0 then
    some ((-1), σ)
  else
    if (σ.1 10 3) < 100 then
      bI (fX5_playAndWriteDown x1 x2 x3 σ) fun a2 σ2 =>
      some (a2, σ2)
    else
      some ((-2), σ)
set_option maxHeartbeats 4000000 in
theorem kmX5_pair (l : Launch) {x1 : Int32} {x2 : Int32} {x3 : Int32} {σ : ST} {r : Int32} {τ : ST} (hf : fX5_pair x1 x2 x3 σ = some (r, τ)) : KM l yX5_pair cX5_pair 4 (some .int) 6 138 [.ref 0, .int x1, .int x2, .int x3] σ (some (.int r)) τ := by
  refine KM.intro (ow := 5) (by decide +kernel) rfl (Nat.le_of_ble_eq_true rfl) (fun V hm => ?_)
  show V 0 [some (.ref 0), some (.int x1), some (.int x2), some (.int x3)] [] σ
  have h := hm.bd
  unfold fX5_pair at hf
  refine h.run (o := []) (ls' := [some (.ref 0), some (.int x1), some (.int x2), some (.int x3)]) (st' := [.int x2, .int x1, .ref 0]) (σ' := σ) [(.aload_n 0, 1, 0, 0, 0, 0), (.iload_n 1, 1, 0, 0, 0, 0), (.iload_n 2, 1, 0, 0, 0, 0)] (pc2 := 3) (by decide +kernel) rfl trivial ?_
  obtain ⟨a1, e1, hf⟩ := bR_some hf
  refine h.callV (as := [.int x1, .int x2]) (rest := []) (by decide +kernel) lk5_117 cwX5_areThere kd_0 (kmX5_areThere l e1) rfl (Nat.le_of_ble_eq_true rfl) (Nat.le_of_ble_eq_true rfl) (Nat.le_of_ble_eq_true rfl) ?_
  show V 6 [some (.ref 0), some (.int x1), some (.int x2), some (.int x3)] [.int a1] σ
  refine h.if_ne (tgt := 11) (show decode cX5_pair 6 = .ok (.ifCond .ne 5, 3) by decide +kernel) (by decide) (fun c4 => ?_) (fun c4 => ?_)
  · rw [if_neg c4] at hf
    refine h.run (o := [kd 0 = 5, kd 1 = 0, kd 10 = 4]) (ls' := [some (.ref 0), some (.int x1), some (.int x2), some (.int x3)]) (st' := [.int 100, .int (σ.1 10 3)]) (σ' := σ) [(.aload_n 0, 1, 0, 0, 0, 0), (.getfield 10, 3, 0, 0, 5, 0), (.getfield 104, 3, 0, 0, 0, 5), (.getfield 71, 3, 0, 0, 4, 3), (.bipush 100, 2, 100, 0, 0, 0)] (pc2 := 23) (by decide +kernel) rfl (And.intro kd_0 (And.intro kd_1 (And.intro kd_10 trivial))) ?_
    refine h.icmp_lt (tgt := 29) (show decode cX5_pair 23 = .ok (.if_icmp .lt 6, 3) by decide +kernel) (by decide) (fun c3 => ?_) (fun c3 => ?_)
    · rw [if_pos c3] at hf
      refine h.run (o := []) (ls' := [some (.ref 0), some (.int x1), some (.int x2), some (.int x3)]) (st' := [.int x3, .int x2, .int x1, .ref 0]) (σ' := σ) [(.aload_n 0, 1, 0, 0, 0, 0), (.iload_n 1, 1, 0, 0, 0, 0), (.iload_n 2, 1, 0, 0, 0, 0), (.iload_n 3, 1, 0, 0, 0, 0)] (pc2 := 33) (by decide +kernel) rfl trivial ?_
      obtain ⟨a2, σ2, e2, hf⟩ := bI_some hf
      refine h.callV (as := [.int x1, .int x2, .int x3]) (rest := []) (by decide +kernel) lk5_121 cwX5_playAndWriteDown kd_0 (kmX5_playAndWriteDown l e2) rfl (Nat.le_of_ble_eq_true rfl) (Nat.le_of_ble_eq_true rfl) (Nat.le_of_ble_eq_true rfl) ?_
      show V 36 [some (.ref 0), some (.int x1), some (.int x2), some (.int x3)] [.int a2] σ2
      obtain ⟨rfl, rfl⟩ := Prod.mk.inj (Option.some.inj hf)
      exact hm.iret (by decide +kernel)
    · rw [if_neg c3] at hf
      show V 26 [some (.ref 0), some (.int x1), some (.int x2), some (.int x3)] [] σ
      refine h.run (o := []) (ls' := [some (.ref 0), some (.int x1), some (.int x2), some (.int x3)]) (st' := [.int (-2)]) (σ' := σ) [(.bipush (-2), 2, (-2), 0, 0, 0)] (pc2 := 28) (by decide +kernel) rfl trivial ?_
      obtain ⟨rfl, rfl⟩ := Prod.mk.inj (Option.some.inj hf)
      exact hm.iret (by decide +kernel)
  · rw [if_pos c4] at hf
    show V 9 [some (.ref 0), some (.int x1), some (.int x2), some (.int x3)] [] σ
    refine h.run (o := []) (ls' := [some (.ref 0), some (.int x1), some (.int x2), some (.int x3)]) (st' := [.int (-1)]) (σ' := σ) [(.iconst (-1), 1, (-1), 0, 0, 0)] (pc2 := 10) (by decide +kernel) rfl trivial ?_
    obtain ⟨rfl, rfl⟩ := Prod.mk.inj (Option.some.inj hf)
    exact hm.iret (by decide +kernel)
end
section
/-! Printed by wip/whole/prt.py: functions and walks. -/
def fX5_all_67 (kt_51 : Int32 → ST → Option (Int32 × ST)) (n : Nat) (x2 : Int32) (x3 : Int32) (σ : ST) : Option (Int32 × ST) := match n with
  | 0 => none
  | n + 1 =>
    if (σ.1 8 3) ≤ x3 then
      kt_51 (x2 + 1) σ
    else
      bI (fX5_playAndWriteDown x2 x3 0 σ) fun a1 σ1 =>
      fX5_all_67 kt_51 n x2 (x3 + 1) σ1
set_option maxHeartbeats 4000000 in
theorem wX5_all_67 {l : Launch} {V : Nat → List (Option Value) → List Value → ST → Prop} {r : Int32} {τ : ST} {kt_51 : Int32 → ST → Option (Int32 × ST)} (hm : BM l 5 cX5_all 4 (some .int) 6 138 (some (.int r)) τ V) (hkt_51 : ∀ (x2 : Int32) (σ : ST), kt_51 x2 σ = some (r, τ) → V 51 [some (.ref 0), none, some (.int x2), none] [] σ) : ∀ (n : Nat) (x2 : Int32) (x3 : Int32) (σ : ST), fX5_all_67 kt_51 n x2 x3 σ = some (r, τ) → V 67 [some (.ref 0), none, some (.int x2), some (.int x3)] [] σ := by
  have h := hm.bd
  intro n
  induction n with
  | zero => intro x2 x3 σ hf; cases hf
  | succ n ih =>
    intro x2 x3 σ hf
    rw [fX5_all_67] at hf
    refine h.run (o := [kd 0 = 5, kd 1 = 0, kd 8 = 4]) (ls' := [some (.ref 0), none, some (.int x2), some (.int x3)]) (st' := [.int (σ.1 8 3), .int x3]) (σ' := σ) [(.iload_n 3, 1, 0, 0, 0, 0), (.aload_n 0, 1, 0, 0, 0, 0), (.getfield 10, 3, 0, 0, 5, 0), (.getfield 91, 3, 0, 0, 0, 4), (.getfield 71, 3, 0, 0, 4, 3)] (pc2 := 78) (by decide +kernel) rfl (And.intro kd_0 (And.intro kd_1 (And.intro kd_8 trivial))) ?_
    refine h.icmp_ge (tgt := 95) (show decode cX5_all 78 = .ok (.if_icmp .ge 17, 3) by decide +kernel) (by decide) (fun c2 => ?_) (fun c2 => ?_)
    · rw [if_pos c2] at hf
      refine h.run (o := []) (ls' := [some (.ref 0), none, some (.int (x2 + 1)), some (.int x3)]) (st' := []) (σ' := σ) [(.iinc 2 1, 3, 1, 0, 0, 0), (.goto (-47), 3, 0, 0, 0, 51)] (pc2 := 51) (by decide +kernel) rfl trivial ?_
      refine h.drop (ls' := [some (.ref 0), none, some (.int (x2 + 1)), none]) (And.intro rfl (And.intro rfl trivial)) ?_
      exact hkt_51 (x2 + 1) _ hf
    · rw [if_neg c2] at hf
      show V 81 [some (.ref 0), none, some (.int x2), some (.int x3)] [] σ
      refine h.run (o := []) (ls' := [some (.ref 0), none, some (.int x2), some (.int x3)]) (st' := [.int 0, .int x3, .int x2, .ref 0]) (σ' := σ) [(.aload_n 0, 1, 0, 0, 0, 0), (.iload_n 2, 1, 0, 0, 0, 0), (.iload_n 3, 1, 0, 0, 0, 0), (.iconst 0, 1, 0, 0, 0, 0)] (pc2 := 85) (by decide +kernel) rfl trivial ?_
      obtain ⟨a1, σ1, e1, hf⟩ := bI_some hf
      refine h.callV (as := [.int x2, .int x3, .int 0]) (rest := []) (by decide +kernel) lk5_121 cwX5_playAndWriteDown kd_0 (kmX5_playAndWriteDown l e1) rfl (Nat.le_of_ble_eq_true rfl) (Nat.le_of_ble_eq_true rfl) (Nat.le_of_ble_eq_true rfl) ?_
      show V 88 [some (.ref 0), none, some (.int x2), some (.int x3)] [.int a1] σ1
      refine h.run (o := []) (ls' := [some (.ref 0), none, some (.int x2), some (.int (x3 + 1))]) (st' := []) (σ' := σ1) [(.pop, 1, 0, 0, 0, 0), (.iinc 3 1, 3, 1, 0, 0, 0), (.goto (-25), 3, 0, 0, 0, 67)] (pc2 := 67) (by decide +kernel) rfl trivial ?_
      exact ih x2 (x3 + 1) _ hf
def fX5_all_51 (n : Nat) (x2 : Int32) (σ : ST) : Option (Int32 × ST) := match n with
  | 0 => none
  | n + 1 =>
    if (σ.1 6 3) ≤ x2 then
      some (σ.1 10 3, σ)
    else
      fX5_all_67 (fX5_all_51 n) FU x2 0 σ
set_option maxHeartbeats 4000000 in
theorem wX5_all_51 {l : Launch} {V : Nat → List (Option Value) → List Value → ST → Prop} {r : Int32} {τ : ST} (hm : BM l 5 cX5_all 4 (some .int) 6 138 (some (.int r)) τ V) : ∀ (n : Nat) (x2 : Int32) (σ : ST), fX5_all_51 n x2 σ = some (r, τ) → V 51 [some (.ref 0), none, some (.int x2), none] [] σ := by
  have h := hm.bd
  intro n
  induction n with
  | zero => intro x2 σ hf; cases hf
  | succ n ih =>
    intro x2 σ hf
    rw [fX5_all_51] at hf
    refine h.run (o := [kd 0 = 5, kd 1 = 0, kd 6 = 4]) (ls' := [some (.ref 0), none, some (.int x2), none]) (st' := [.int (σ.1 6 3), .int x2]) (σ' := σ) [(.iload_n 2, 1, 0, 0, 0, 0), (.aload_n 0, 1, 0, 0, 0, 0), (.getfield 10, 3, 0, 0, 5, 0), (.getfield 80, 3, 0, 0, 0, 3), (.getfield 71, 3, 0, 0, 4, 3)] (pc2 := 62) (by decide +kernel) rfl (And.intro kd_0 (And.intro kd_1 (And.intro kd_6 trivial))) ?_
    refine h.icmp_ge (tgt := 101) (show decode cX5_all 62 = .ok (.if_icmp .ge 39, 3) by decide +kernel) (by decide) (fun c1 => ?_) (fun c1 => ?_)
    · rw [if_pos c1] at hf
      refine h.run (o := [kd 0 = 5, kd 1 = 0, kd 10 = 4]) (ls' := [some (.ref 0), none, some (.int x2), none]) (st' := [.int (σ.1 10 3)]) (σ' := σ) [(.aload_n 0, 1, 0, 0, 0, 0), (.getfield 10, 3, 0, 0, 5, 0), (.getfield 104, 3, 0, 0, 0, 5), (.getfield 71, 3, 0, 0, 4, 3)] (pc2 := 111) (by decide +kernel) rfl (And.intro kd_0 (And.intro kd_1 (And.intro kd_10 trivial))) ?_
      obtain ⟨rfl, rfl⟩ := Prod.mk.inj (Option.some.inj hf)
      exact hm.iret (by decide +kernel)
    · rw [if_neg c1] at hf
      show V 65 [some (.ref 0), none, some (.int x2), none] [] σ
      refine h.run (o := []) (ls' := [some (.ref 0), none, some (.int x2), some (.int 0)]) (st' := []) (σ' := σ) [(.iconst 0, 1, 0, 0, 0, 0), (.istore_n 3, 1, 0, 0, 0, 0)] (pc2 := 67) (by decide +kernel) rfl trivial ?_
      exact wX5_all_67 hm ih FU x2 0 _ hf
def fX5_all (σ : ST) : Option (Int32 × ST) :=
  if ((σ.1 6 3) * (σ.1 8 3)) ≤ (100 - (σ.1 10 3)) then
    if ((σ.1 6 3) * (σ.1 8 3)) = 0 then
      some ((-3), σ)
    else
      fX5_all_51 FU 0 σ
  else
    some ((-2), σ)
set_option maxHeartbeats 4000000 in
theorem kmX5_all (l : Launch) {σ : ST} {r : Int32} {τ : ST} (hf : fX5_all σ = some (r, τ)) : KM l yX5_all cX5_all 4 (some .int) 6 138 [.ref 0] σ (some (.int r)) τ := by
  refine KM.intro (ow := 5) (by decide +kernel) rfl (Nat.le_of_ble_eq_true rfl) (fun V hm => ?_)
  show V 0 [some (.ref 0), none, none, none] [] σ
  have h := hm.bd
  unfold fX5_all at hf
  refine h.run (o := [kd 0 = 5, kd 1 = 0, kd 6 = 4, kd 0 = 5, kd 1 = 0, kd 8 = 4, kd 0 = 5, kd 1 = 0, kd 10 = 4]) (ls' := [some (.ref 0), some (.int ((σ.1 6 3) * (σ.1 8 3))), none, none]) (st' := [.int (100 - (σ.1 10 3)), .int ((σ.1 6 3) * (σ.1 8 3))]) (σ' := σ) [(.aload_n 0, 1, 0, 0, 0, 0), (.getfield 10, 3, 0, 0, 5, 0), (.getfield 80, 3, 0, 0, 0, 3), (.getfield 71, 3, 0, 0, 4, 3), (.aload_n 0, 1, 0, 0, 0, 0), (.getfield 10, 3, 0, 0, 5, 0), (.getfield 91, 3, 0, 0, 0, 4), (.getfield 71, 3, 0, 0, 4, 3), (.imul, 1, 0, 0, 0, 0), (.istore_n 1, 1, 0, 0, 0, 0), (.iload_n 1, 1, 0, 0, 0, 0), (.bipush 100, 2, 100, 0, 0, 0), (.aload_n 0, 1, 0, 0, 0, 0), (.getfield 10, 3, 0, 0, 5, 0), (.getfield 104, 3, 0, 0, 0, 5), (.getfield 71, 3, 0, 0, 4, 3), (.isub, 1, 0, 0, 0, 0)] (pc2 := 36) (by decide +kernel) rfl (And.intro kd_0 (And.intro kd_1 (And.intro kd_6 (And.intro kd_0 (And.intro kd_1 (And.intro kd_8 (And.intro kd_0 (And.intro kd_1 (And.intro kd_10 trivial))))))))) ?_
  refine h.icmp_le (tgt := 42) (show decode cX5_all 36 = .ok (.if_icmp .le 6, 3) by decide +kernel) (by decide) (fun c2 => ?_) (fun c2 => ?_)
  · rw [if_pos c2] at hf
    refine h.run (o := []) (ls' := [some (.ref 0), some (.int ((σ.1 6 3) * (σ.1 8 3))), none, none]) (st' := [.int ((σ.1 6 3) * (σ.1 8 3))]) (σ' := σ) [(.iload_n 1, 1, 0, 0, 0, 0)] (pc2 := 43) (by decide +kernel) rfl trivial ?_
    refine h.if_ne (tgt := 49) (show decode cX5_all 43 = .ok (.ifCond .ne 6, 3) by decide +kernel) (by decide) (fun c1 => ?_) (fun c1 => ?_)
    · rw [if_neg c1] at hf
      refine h.run (o := []) (ls' := [some (.ref 0), some (.int ((σ.1 6 3) * (σ.1 8 3))), some (.int 0), none]) (st' := []) (σ' := σ) [(.iconst 0, 1, 0, 0, 0, 0), (.istore_n 2, 1, 0, 0, 0, 0)] (pc2 := 51) (by decide +kernel) rfl trivial ?_
      refine h.drop (ls' := [some (.ref 0), none, some (.int 0), none]) (And.intro rfl (And.intro rfl trivial)) ?_
      exact wX5_all_51 hm FU 0 _ hf
    · rw [if_pos c1] at hf
      show V 46 [some (.ref 0), some (.int ((σ.1 6 3) * (σ.1 8 3))), none, none] [] σ
      refine h.run (o := []) (ls' := [some (.ref 0), some (.int ((σ.1 6 3) * (σ.1 8 3))), none, none]) (st' := [.int (-3)]) (σ' := σ) [(.bipush (-3), 2, (-3), 0, 0, 0)] (pc2 := 48) (by decide +kernel) rfl trivial ?_
      obtain ⟨rfl, rfl⟩ := Prod.mk.inj (Option.some.inj hf)
      exact hm.iret (by decide +kernel)
  · rw [if_neg c2] at hf
    show V 39 [some (.ref 0), some (.int ((σ.1 6 3) * (σ.1 8 3))), none, none] [] σ
    refine h.run (o := []) (ls' := [some (.ref 0), some (.int ((σ.1 6 3) * (σ.1 8 3))), none, none]) (st' := [.int (-2)]) (σ' := σ) [(.bipush (-2), 2, (-2), 0, 0, 0)] (pc2 := 41) (by decide +kernel) rfl trivial ?_
    obtain ⟨rfl, rfl⟩ := Prod.mk.inj (Option.some.inj hf)
    exact hm.iret (by decide +kernel)
def fX5_of_14 (σ : ST) : Option Int32 :=
  some (-1)
set_option maxHeartbeats 4000000 in
theorem wX5_of_14 {l : Launch} {V : Nat → List (Option Value) → List Value → ST → Prop} {r : Int32} {σ : ST} (hm : BM l 5 cX5_of 3 (some .int) 2 46 (some (.int r)) σ V) (hf : fX5_of_14 σ = some r) : V 14 [none, none, none] [] σ := by
  have h := hm.bd
  unfold fX5_of_14 at hf
  refine h.run (o := []) (ls' := [none, none, none]) (st' := [.int (-1)]) (σ' := σ) [(.iconst (-1), 1, (-1), 0, 0, 0)] (pc2 := 15) (by decide +kernel) rfl trivial ?_
  obtain rfl := Option.some.inj hf
  exact hm.iret (by decide +kernel)
def fX5_of (x1 : Int32) (x2 : Int32) (σ : ST) : Option Int32 :=
  if x1 < 0 then
    fX5_of_14 σ
  else
    if x2 < 0 then
      fX5_of_14 σ
    else
      if x2 < 6 then
        if x1 < (σ.1 10 3) then
          bR (fX4_read 10 x1 x2 σ) fun a1 =>
          some a1
        else
          some (-4)
      else
        fX5_of_14 σ
set_option maxHeartbeats 4000000 in
theorem kmX5_of (l : Launch) {x1 : Int32} {x2 : Int32} {σ : ST} {r : Int32} (hf : fX5_of x1 x2 σ = some r) : KM l yX5_of cX5_of 3 (some .int) 2 46 [.ref 0, .int x1, .int x2] σ (some (.int r)) σ := by
  refine KM.intro (ow := 5) (by decide +kernel) rfl (Nat.le_of_ble_eq_true rfl) (fun V hm => ?_)
  show V 0 [some (.ref 0), some (.int x1), some (.int x2)] [] σ
  have h := hm.bd
  unfold fX5_of at hf
  refine h.run (o := []) (ls' := [some (.ref 0), some (.int x1), some (.int x2)]) (st' := [.int x1]) (σ' := σ) [(.iload_n 1, 1, 0, 0, 0, 0)] (pc2 := 1) (by decide +kernel) rfl trivial ?_
  refine h.if_lt (tgt := 14) (show decode cX5_of 1 = .ok (.ifCond .lt 13, 3) by decide +kernel) (by decide) (fun c5 => ?_) (fun c5 => ?_)
  · rw [if_pos c5] at hf
    refine h.drop (ls' := [none, none, none]) trivial ?_
    exact wX5_of_14 hm hf
  · rw [if_neg c5] at hf
    show V 4 [some (.ref 0), some (.int x1), some (.int x2)] [] σ
    refine h.run (o := []) (ls' := [some (.ref 0), some (.int x1), some (.int x2)]) (st' := [.int x2]) (σ' := σ) [(.iload_n 2, 1, 0, 0, 0, 0)] (pc2 := 5) (by decide +kernel) rfl trivial ?_
    refine h.if_lt (tgt := 14) (show decode cX5_of 5 = .ok (.ifCond .lt 9, 3) by decide +kernel) (by decide) (fun c4 => ?_) (fun c4 => ?_)
    · rw [if_pos c4] at hf
      refine h.drop (ls' := [none, none, none]) trivial ?_
      exact wX5_of_14 hm hf
    · rw [if_neg c4] at hf
      show V 8 [some (.ref 0), some (.int x1), some (.int x2)] [] σ
      refine h.run (o := []) (ls' := [some (.ref 0), some (.int x1), some (.int x2)]) (st' := [.int 6, .int x2]) (σ' := σ) [(.iload_n 2, 1, 0, 0, 0, 0), (.bipush 6, 2, 6, 0, 0, 0)] (pc2 := 11) (by decide +kernel) rfl trivial ?_
      refine h.icmp_lt (tgt := 16) (show decode cX5_of 11 = .ok (.if_icmp .lt 5, 3) by decide +kernel) (by decide) (fun c3 => ?_) (fun c3 => ?_)
      · rw [if_pos c3] at hf
        refine h.run (o := [kd 0 = 5, kd 1 = 0, kd 10 = 4]) (ls' := [some (.ref 0), some (.int x1), some (.int x2)]) (st' := [.int (σ.1 10 3), .int x1]) (σ' := σ) [(.iload_n 1, 1, 0, 0, 0, 0), (.aload_n 0, 1, 0, 0, 0, 0), (.getfield 10, 3, 0, 0, 5, 0), (.getfield 104, 3, 0, 0, 0, 5), (.getfield 71, 3, 0, 0, 4, 3)] (pc2 := 27) (by decide +kernel) rfl (And.intro kd_0 (And.intro kd_1 (And.intro kd_10 trivial))) ?_
        refine h.icmp_lt (tgt := 33) (show decode cX5_of 27 = .ok (.if_icmp .lt 6, 3) by decide +kernel) (by decide) (fun c2 => ?_) (fun c2 => ?_)
        · rw [if_pos c2] at hf
          refine h.run (o := [kd 0 = 5, kd 1 = 0]) (ls' := [some (.ref 0), some (.int x1), some (.int x2)]) (st' := [.int x2, .int x1, .ref 10]) (σ' := σ) [(.aload_n 0, 1, 0, 0, 0, 0), (.getfield 10, 3, 0, 0, 5, 0), (.getfield 104, 3, 0, 0, 0, 5), (.iload_n 1, 1, 0, 0, 0, 0), (.iload_n 2, 1, 0, 0, 0, 0)] (pc2 := 42) (by decide +kernel) rfl (And.intro kd_0 (And.intro kd_1 trivial)) ?_
          obtain ⟨a1, e1, hf⟩ := bR_some hf
          refine h.callV (as := [.int x1, .int x2]) (rest := []) (by decide +kernel) lk5_87 cwX4_read kd_10 (kmX4_read l kd_10 e1) rfl (Nat.le_of_ble_eq_true rfl) (Nat.le_of_ble_eq_true rfl) (Nat.le_of_ble_eq_true rfl) ?_
          show V 45 [some (.ref 0), some (.int x1), some (.int x2)] [.int a1] σ
          obtain rfl := Option.some.inj hf
          exact hm.iret (by decide +kernel)
        · rw [if_neg c2] at hf
          show V 30 [some (.ref 0), some (.int x1), some (.int x2)] [] σ
          refine h.run (o := []) (ls' := [some (.ref 0), some (.int x1), some (.int x2)]) (st' := [.int (-4)]) (σ' := σ) [(.bipush (-4), 2, (-4), 0, 0, 0)] (pc2 := 32) (by decide +kernel) rfl trivial ?_
          obtain rfl := Option.some.inj hf
          exact hm.iret (by decide +kernel)
      · rw [if_neg c3] at hf
        show V 14 [some (.ref 0), some (.int x1), some (.int x2)] [] σ
        refine h.drop (ls' := [none, none, none]) trivial ?_
        exact wX5_of_14 hm hf
def fX5_sumSent_23 (σ : ST) : Option Int32 :=
  some (-1)
set_option maxHeartbeats 4000000 in
theorem wX5_sumSent_23 {l : Launch} {V : Nat → List (Option Value) → List Value → ST → Prop} {r : Int32} {σ : ST} (hm : BM l 5 cX5_sumSent 5 (some .int) 3 71 (some (.int r)) σ V) (hf : fX5_sumSent_23 σ = some r) : V 23 [none, none, none, none, none] [] σ := by
  have h := hm.bd
  unfold fX5_sumSent_23 at hf
  refine h.run (o := []) (ls' := [none, none, none, none, none]) (st' := [.int (-1)]) (σ' := σ) [(.iconst (-1), 1, (-1), 0, 0, 0)] (pc2 := 24) (by decide +kernel) rfl trivial ?_
  obtain rfl := Option.some.inj hf
  exact hm.iret (by decide +kernel)
def fX5_sumSent (x1 : Int32) (x2 : Int32) (σ : ST) : Option Int32 :=
  bR (fX4_has 6 x1 σ) fun a1 =>
  if a1 = 0 then
    fX5_sumSent_23 σ
  else
    if x2 < 0 then
      fX5_sumSent_23 σ
    else
      if x2 ≤ 2 then
        bR (fX4_sumWhere 10 0 x1 2 σ) fun a2 =>
        bR (fX4_sumWhere 10 0 x1 4 σ) fun a3 =>
        if x2 = 0 then
          some a2
        else
          if x2 = 1 then
            some a3
          else
            bR (fX4_rowsWhere 10 0 x1 σ) fun a4 =>
            some ((((σ.1 1 0) * a4) - a2) + a3)
      else
        fX5_sumSent_23 σ
set_option maxHeartbeats 4000000 in
theorem kmX5_sumSent (l : Launch) {x1 : Int32} {x2 : Int32} {σ : ST} {r : Int32} (hf : fX5_sumSent x1 x2 σ = some r) : KM l yX5_sumSent cX5_sumSent 5 (some .int) 3 71 [.ref 0, .int x1, .int x2] σ (some (.int r)) σ := by
  refine KM.intro (ow := 5) (by decide +kernel) rfl (Nat.le_of_ble_eq_true rfl) (fun V hm => ?_)
  show V 0 [some (.ref 0), some (.int x1), some (.int x2), none, none] [] σ
  have h := hm.bd
  unfold fX5_sumSent at hf
  refine h.run (o := [kd 0 = 5, kd 1 = 0]) (ls' := [some (.ref 0), some (.int x1), some (.int x2), none, none]) (st' := [.int x1, .ref 6]) (σ' := σ) [(.aload_n 0, 1, 0, 0, 0, 0), (.getfield 10, 3, 0, 0, 5, 0), (.getfield 80, 3, 0, 0, 0, 3), (.iload_n 1, 1, 0, 0, 0, 0)] (pc2 := 8) (by decide +kernel) rfl (And.intro kd_0 (And.intro kd_1 trivial)) ?_
  obtain ⟨a1, e1, hf⟩ := bR_some hf
  refine h.callV (as := [.int x1]) (rest := []) (by decide +kernel) lk5_83 cwX4_has kd_6 (kmX4_has l kd_6 e1) rfl (Nat.le_of_ble_eq_true rfl) (Nat.le_of_ble_eq_true rfl) (Nat.le_of_ble_eq_true rfl) ?_
  show V 11 [some (.ref 0), some (.int x1), some (.int x2), none, none] [.int a1] σ
  refine h.if_eq (tgt := 23) (show decode cX5_sumSent 11 = .ok (.ifCond .eq 12, 3) by decide +kernel) (by decide) (fun c9 => ?_) (fun c9 => ?_)
  · rw [if_pos c9] at hf
    refine h.drop (ls' := [none, none, none, none, none]) trivial ?_
    exact wX5_sumSent_23 hm hf
  · rw [if_neg c9] at hf
    show V 14 [some (.ref 0), some (.int x1), some (.int x2), none, none] [] σ
    refine h.run (o := []) (ls' := [some (.ref 0), some (.int x1), some (.int x2), none, none]) (st' := [.int x2]) (σ' := σ) [(.iload_n 2, 1, 0, 0, 0, 0)] (pc2 := 15) (by decide +kernel) rfl trivial ?_
    refine h.if_lt (tgt := 23) (show decode cX5_sumSent 15 = .ok (.ifCond .lt 8, 3) by decide +kernel) (by decide) (fun c8 => ?_) (fun c8 => ?_)
    · rw [if_pos c8] at hf
      refine h.drop (ls' := [none, none, none, none, none]) trivial ?_
      exact wX5_sumSent_23 hm hf
    · rw [if_neg c8] at hf
      show V 18 [some (.ref 0), some (.int x1), some (.int x2), none, none] [] σ
      refine h.run (o := []) (ls' := [some (.ref 0), some (.int x1), some (.int x2), none, none]) (st' := [.int 2, .int x2]) (σ' := σ) [(.iload_n 2, 1, 0, 0, 0, 0), (.iconst 2, 1, 2, 0, 0, 0)] (pc2 := 20) (by decide +kernel) rfl trivial ?_
      refine h.icmp_le (tgt := 25) (show decode cX5_sumSent 20 = .ok (.if_icmp .le 5, 3) by decide +kernel) (by decide) (fun c7 => ?_) (fun c7 => ?_)
      · rw [if_pos c7] at hf
        refine h.run (o := [kd 0 = 5, kd 1 = 0]) (ls' := [some (.ref 0), some (.int x1), some (.int x2), none, none]) (st' := [.int 2, .int x1, .int 0, .ref 10]) (σ' := σ) [(.aload_n 0, 1, 0, 0, 0, 0), (.getfield 10, 3, 0, 0, 5, 0), (.getfield 104, 3, 0, 0, 0, 5), (.iconst 0, 1, 0, 0, 0, 0), (.iload_n 1, 1, 0, 0, 0, 0), (.iconst 2, 1, 2, 0, 0, 0)] (pc2 := 35) (by decide +kernel) rfl (And.intro kd_0 (And.intro kd_1 trivial)) ?_
        obtain ⟨a2, e2, hf⟩ := bR_some hf
        refine h.callV (as := [.int 0, .int x1, .int 2]) (rest := []) (by decide +kernel) lk5_125 cwX4_sumWhere kd_10 (kmX4_sumWhere l kd_10 e2) rfl (Nat.le_of_ble_eq_true rfl) (Nat.le_of_ble_eq_true rfl) (Nat.le_of_ble_eq_true rfl) ?_
        show V 38 [some (.ref 0), some (.int x1), some (.int x2), none, none] [.int a2] σ
        refine h.run (o := [kd 0 = 5, kd 1 = 0]) (ls' := [some (.ref 0), some (.int x1), some (.int x2), some (.int a2), none]) (st' := [.int 4, .int x1, .int 0, .ref 10]) (σ' := σ) [(.istore_n 3, 1, 0, 0, 0, 0), (.aload_n 0, 1, 0, 0, 0, 0), (.getfield 10, 3, 0, 0, 5, 0), (.getfield 104, 3, 0, 0, 0, 5), (.iconst 0, 1, 0, 0, 0, 0), (.iload_n 1, 1, 0, 0, 0, 0), (.iconst 4, 1, 4, 0, 0, 0)] (pc2 := 49) (by decide +kernel) rfl (And.intro kd_0 (And.intro kd_1 trivial)) ?_
        obtain ⟨a3, e3, hf⟩ := bR_some hf
        refine h.callV (as := [.int 0, .int x1, .int 4]) (rest := []) (by decide +kernel) lk5_125 cwX4_sumWhere kd_10 (kmX4_sumWhere l kd_10 e3) rfl (Nat.le_of_ble_eq_true rfl) (Nat.le_of_ble_eq_true rfl) (Nat.le_of_ble_eq_true rfl) ?_
        show V 52 [some (.ref 0), some (.int x1), some (.int x2), some (.int a2), none] [.int a3] σ
        refine h.run (o := []) (ls' := [some (.ref 0), some (.int x1), some (.int x2), some (.int a2), some (.int a3)]) (st' := [.int x2]) (σ' := σ) [(.istore 4, 2, 0, 0, 0, 0), (.iload_n 2, 1, 0, 0, 0, 0)] (pc2 := 55) (by decide +kernel) rfl trivial ?_
        refine h.if_ne (tgt := 60) (show decode cX5_sumSent 55 = .ok (.ifCond .ne 5, 3) by decide +kernel) (by decide) (fun c6 => ?_) (fun c6 => ?_)
        · rw [if_neg c6] at hf
          refine h.run (o := []) (ls' := [some (.ref 0), some (.int x1), some (.int x2), some (.int a2), some (.int a3)]) (st' := [.int 1, .int x2]) (σ' := σ) [(.iload_n 2, 1, 0, 0, 0, 0), (.iconst 1, 1, 1, 0, 0, 0)] (pc2 := 62) (by decide +kernel) rfl trivial ?_
          refine h.icmp_ne (tgt := 68) (show decode cX5_sumSent 62 = .ok (.if_icmp .ne 6, 3) by decide +kernel) (by decide) (fun c5 => ?_) (fun c5 => ?_)
          · rw [if_neg c5] at hf
            refine h.run (o := [kd 0 = 5, kd 1 = 0, kd 0 = 5, kd 1 = 0]) (ls' := [some (.ref 0), some (.int x1), some (.int x2), some (.int a2), some (.int a3)]) (st' := [.int x1, .int 0, .ref 10, .int (σ.1 1 0)]) (σ' := σ) [(.aload_n 0, 1, 0, 0, 0, 0), (.getfield 10, 3, 0, 0, 5, 0), (.getfield 107, 3, 0, 0, 0, 0), (.aload_n 0, 1, 0, 0, 0, 0), (.getfield 10, 3, 0, 0, 5, 0), (.getfield 104, 3, 0, 0, 0, 5), (.iconst 0, 1, 0, 0, 0, 0), (.iload_n 1, 1, 0, 0, 0, 0)] (pc2 := 84) (by decide +kernel) rfl (And.intro kd_0 (And.intro kd_1 (And.intro kd_0 (And.intro kd_1 trivial)))) ?_
            obtain ⟨a4, e4, hf⟩ := bR_some hf
            refine h.callV (as := [.int 0, .int x1]) (rest := [.int (σ.1 1 0)]) (by decide +kernel) lk5_129 cwX4_rowsWhere kd_10 (kmX4_rowsWhere l kd_10 e4) rfl (Nat.le_of_ble_eq_true rfl) (Nat.le_of_ble_eq_true rfl) (Nat.le_of_ble_eq_true rfl) ?_
            show V 87 [some (.ref 0), some (.int x1), some (.int x2), some (.int a2), some (.int a3)] [.int a4, .int (σ.1 1 0)] σ
            refine h.run (o := []) (ls' := [some (.ref 0), some (.int x1), some (.int x2), some (.int a2), some (.int a3)]) (st' := [.int ((((σ.1 1 0) * a4) - a2) + a3)]) (σ' := σ) [(.imul, 1, 0, 0, 0, 0), (.iload_n 3, 1, 0, 0, 0, 0), (.isub, 1, 0, 0, 0, 0), (.iload 4, 2, 0, 0, 0, 0), (.iadd, 1, 0, 0, 0, 0)] (pc2 := 93) (by decide +kernel) rfl trivial ?_
            obtain rfl := Option.some.inj hf
            exact hm.iret (by decide +kernel)
          · rw [if_pos c5] at hf
            show V 65 [some (.ref 0), some (.int x1), some (.int x2), some (.int a2), some (.int a3)] [] σ
            refine h.run (o := []) (ls' := [some (.ref 0), some (.int x1), some (.int x2), some (.int a2), some (.int a3)]) (st' := [.int a3]) (σ' := σ) [(.iload 4, 2, 0, 0, 0, 0)] (pc2 := 67) (by decide +kernel) rfl trivial ?_
            obtain rfl := Option.some.inj hf
            exact hm.iret (by decide +kernel)
        · rw [if_pos c6] at hf
          show V 58 [some (.ref 0), some (.int x1), some (.int x2), some (.int a2), some (.int a3)] [] σ
          refine h.run (o := []) (ls' := [some (.ref 0), some (.int x1), some (.int x2), some (.int a2), some (.int a3)]) (st' := [.int a2]) (σ' := σ) [(.iload_n 3, 1, 0, 0, 0, 0)] (pc2 := 59) (by decide +kernel) rfl trivial ?_
          obtain rfl := Option.some.inj hf
          exact hm.iret (by decide +kernel)
      · rw [if_neg c7] at hf
        show V 23 [some (.ref 0), some (.int x1), some (.int x2), none, none] [] σ
        refine h.drop (ls' := [none, none, none, none, none]) trivial ?_
        exact wX5_sumSent_23 hm hf
def fX5_sumCame_23 (σ : ST) : Option Int32 :=
  some (-1)
set_option maxHeartbeats 4000000 in
theorem wX5_sumCame_23 {l : Launch} {V : Nat → List (Option Value) → List Value → ST → Prop} {r : Int32} {σ : ST} (hm : BM l 5 cX5_sumCame 5 (some .int) 3 71 (some (.int r)) σ V) (hf : fX5_sumCame_23 σ = some r) : V 23 [none, none, none, none, none] [] σ := by
  have h := hm.bd
  unfold fX5_sumCame_23 at hf
  refine h.run (o := []) (ls' := [none, none, none, none, none]) (st' := [.int (-1)]) (σ' := σ) [(.iconst (-1), 1, (-1), 0, 0, 0)] (pc2 := 24) (by decide +kernel) rfl trivial ?_
  obtain rfl := Option.some.inj hf
  exact hm.iret (by decide +kernel)
def fX5_sumCame_74 (t0 : Int32) (σ : ST) : Option Int32 :=
  some t0
set_option maxHeartbeats 4000000 in
theorem wX5_sumCame_74 {l : Launch} {V : Nat → List (Option Value) → List Value → ST → Prop} {r : Int32} {σ : ST} {t0 : Int32} (hm : BM l 5 cX5_sumCame 5 (some .int) 3 71 (some (.int r)) σ V) (hf : fX5_sumCame_74 t0 σ = some r) : V 74 [none, none, none, none, none] [.int t0] σ := by
  have h := hm.bd
  unfold fX5_sumCame_74 at hf
  obtain rfl := Option.some.inj hf
  exact hm.iret (by decide +kernel)
def fX5_sumCame (x1 : Int32) (x2 : Int32) (σ : ST) : Option Int32 :=
  bR (fX4_has 8 x1 σ) fun a1 =>
  if a1 = 0 then
    fX5_sumCame_23 σ
  else
    if x2 < 0 then
      fX5_sumCame_23 σ
    else
      if x2 ≤ 2 then
        bR (fX4_sumWhere 10 1 x1 3 σ) fun a2 =>
        bR (fX4_sumWhere 10 1 x1 4 σ) fun a3 =>
        if x2 = 0 then
          some a2
        else
          if x2 = 1 then
            fX5_sumCame_74 a3 σ
          else
            fX5_sumCame_74 (a2 - a3) σ
      else
        fX5_sumCame_23 σ
set_option maxHeartbeats 4000000 in
theorem kmX5_sumCame (l : Launch) {x1 : Int32} {x2 : Int32} {σ : ST} {r : Int32} (hf : fX5_sumCame x1 x2 σ = some r) : KM l yX5_sumCame cX5_sumCame 5 (some .int) 3 71 [.ref 0, .int x1, .int x2] σ (some (.int r)) σ := by
  refine KM.intro (ow := 5) (by decide +kernel) rfl (Nat.le_of_ble_eq_true rfl) (fun V hm => ?_)
  show V 0 [some (.ref 0), some (.int x1), some (.int x2), none, none] [] σ
  have h := hm.bd
  unfold fX5_sumCame at hf
  refine h.run (o := [kd 0 = 5, kd 1 = 0]) (ls' := [some (.ref 0), some (.int x1), some (.int x2), none, none]) (st' := [.int x1, .ref 8]) (σ' := σ) [(.aload_n 0, 1, 0, 0, 0, 0), (.getfield 10, 3, 0, 0, 5, 0), (.getfield 91, 3, 0, 0, 0, 4), (.iload_n 1, 1, 0, 0, 0, 0)] (pc2 := 8) (by decide +kernel) rfl (And.intro kd_0 (And.intro kd_1 trivial)) ?_
  obtain ⟨a1, e1, hf⟩ := bR_some hf
  refine h.callV (as := [.int x1]) (rest := []) (by decide +kernel) lk5_83 cwX4_has kd_8 (kmX4_has l kd_8 e1) rfl (Nat.le_of_ble_eq_true rfl) (Nat.le_of_ble_eq_true rfl) (Nat.le_of_ble_eq_true rfl) ?_
  show V 11 [some (.ref 0), some (.int x1), some (.int x2), none, none] [.int a1] σ
  refine h.if_eq (tgt := 23) (show decode cX5_sumCame 11 = .ok (.ifCond .eq 12, 3) by decide +kernel) (by decide) (fun c8 => ?_) (fun c8 => ?_)
  · rw [if_pos c8] at hf
    refine h.drop (ls' := [none, none, none, none, none]) trivial ?_
    exact wX5_sumCame_23 hm hf
  · rw [if_neg c8] at hf
    show V 14 [some (.ref 0), some (.int x1), some (.int x2), none, none] [] σ
    refine h.run (o := []) (ls' := [some (.ref 0), some (.int x1), some (.int x2), none, none]) (st' := [.int x2]) (σ' := σ) [(.iload_n 2, 1, 0, 0, 0, 0)] (pc2 := 15) (by decide +kernel) rfl trivial ?_
    refine h.if_lt (tgt := 23) (show decode cX5_sumCame 15 = .ok (.ifCond .lt 8, 3) by decide +kernel) (by decide) (fun c7 => ?_) (fun c7 => ?_)
    · rw [if_pos c7] at hf
      refine h.drop (ls' := [none, none, none, none, none]) trivial ?_
      exact wX5_sumCame_23 hm hf
    · rw [if_neg c7] at hf
      show V 18 [some (.ref 0), some (.int x1), some (.int x2), none, none] [] σ
      refine h.run (o := []) (ls' := [some (.ref 0), some (.int x1), some (.int x2), none, none]) (st' := [.int 2, .int x2]) (σ' := σ) [(.iload_n 2, 1, 0, 0, 0, 0), (.iconst 2, 1, 2, 0, 0, 0)] (pc2 := 20) (by decide +kernel) rfl trivial ?_
      refine h.icmp_le (tgt := 25) (show decode cX5_sumCame 20 = .ok (.if_icmp .le 5, 3) by decide +kernel) (by decide) (fun c6 => ?_) (fun c6 => ?_)
      · rw [if_pos c6] at hf
        refine h.run (o := [kd 0 = 5, kd 1 = 0]) (ls' := [some (.ref 0), some (.int x1), some (.int x2), none, none]) (st' := [.int 3, .int x1, .int 1, .ref 10]) (σ' := σ) [(.aload_n 0, 1, 0, 0, 0, 0), (.getfield 10, 3, 0, 0, 5, 0), (.getfield 104, 3, 0, 0, 0, 5), (.iconst 1, 1, 1, 0, 0, 0), (.iload_n 1, 1, 0, 0, 0, 0), (.iconst 3, 1, 3, 0, 0, 0)] (pc2 := 35) (by decide +kernel) rfl (And.intro kd_0 (And.intro kd_1 trivial)) ?_
        obtain ⟨a2, e2, hf⟩ := bR_some hf
        refine h.callV (as := [.int 1, .int x1, .int 3]) (rest := []) (by decide +kernel) lk5_125 cwX4_sumWhere kd_10 (kmX4_sumWhere l kd_10 e2) rfl (Nat.le_of_ble_eq_true rfl) (Nat.le_of_ble_eq_true rfl) (Nat.le_of_ble_eq_true rfl) ?_
        show V 38 [some (.ref 0), some (.int x1), some (.int x2), none, none] [.int a2] σ
        refine h.run (o := [kd 0 = 5, kd 1 = 0]) (ls' := [some (.ref 0), some (.int x1), some (.int x2), some (.int a2), none]) (st' := [.int 4, .int x1, .int 1, .ref 10]) (σ' := σ) [(.istore_n 3, 1, 0, 0, 0, 0), (.aload_n 0, 1, 0, 0, 0, 0), (.getfield 10, 3, 0, 0, 5, 0), (.getfield 104, 3, 0, 0, 0, 5), (.iconst 1, 1, 1, 0, 0, 0), (.iload_n 1, 1, 0, 0, 0, 0), (.iconst 4, 1, 4, 0, 0, 0)] (pc2 := 49) (by decide +kernel) rfl (And.intro kd_0 (And.intro kd_1 trivial)) ?_
        obtain ⟨a3, e3, hf⟩ := bR_some hf
        refine h.callV (as := [.int 1, .int x1, .int 4]) (rest := []) (by decide +kernel) lk5_125 cwX4_sumWhere kd_10 (kmX4_sumWhere l kd_10 e3) rfl (Nat.le_of_ble_eq_true rfl) (Nat.le_of_ble_eq_true rfl) (Nat.le_of_ble_eq_true rfl) ?_
        show V 52 [some (.ref 0), some (.int x1), some (.int x2), some (.int a2), none] [.int a3] σ
        refine h.run (o := []) (ls' := [some (.ref 0), some (.int x1), some (.int x2), some (.int a2), some (.int a3)]) (st' := [.int x2]) (σ' := σ) [(.istore 4, 2, 0, 0, 0, 0), (.iload_n 2, 1, 0, 0, 0, 0)] (pc2 := 55) (by decide +kernel) rfl trivial ?_
        refine h.if_ne (tgt := 60) (show decode cX5_sumCame 55 = .ok (.ifCond .ne 5, 3) by decide +kernel) (by decide) (fun c5 => ?_) (fun c5 => ?_)
        · rw [if_neg c5] at hf
          refine h.run (o := []) (ls' := [some (.ref 0), some (.int x1), some (.int x2), some (.int a2), some (.int a3)]) (st' := [.int 1, .int x2]) (σ' := σ) [(.iload_n 2, 1, 0, 0, 0, 0), (.iconst 1, 1, 1, 0, 0, 0)] (pc2 := 62) (by decide +kernel) rfl trivial ?_
          refine h.icmp_ne (tgt := 70) (show decode cX5_sumCame 62 = .ok (.if_icmp .ne 8, 3) by decide +kernel) (by decide) (fun c4 => ?_) (fun c4 => ?_)
          · rw [if_neg c4] at hf
            refine h.run (o := []) (ls' := [some (.ref 0), some (.int x1), some (.int x2), some (.int a2), some (.int a3)]) (st' := [.int (a2 - a3)]) (σ' := σ) [(.iload_n 3, 1, 0, 0, 0, 0), (.iload 4, 2, 0, 0, 0, 0), (.isub, 1, 0, 0, 0, 0)] (pc2 := 74) (by decide +kernel) rfl trivial ?_
            refine h.drop (ls' := [none, none, none, none, none]) trivial ?_
            exact wX5_sumCame_74 hm hf
          · rw [if_pos c4] at hf
            show V 65 [some (.ref 0), some (.int x1), some (.int x2), some (.int a2), some (.int a3)] [] σ
            refine h.run (o := []) (ls' := [some (.ref 0), some (.int x1), some (.int x2), some (.int a2), some (.int a3)]) (st' := [.int a3]) (σ' := σ) [(.iload 4, 2, 0, 0, 0, 0), (.goto 7, 3, 0, 0, 0, 74)] (pc2 := 74) (by decide +kernel) rfl trivial ?_
            refine h.drop (ls' := [none, none, none, none, none]) trivial ?_
            exact wX5_sumCame_74 hm hf
        · rw [if_pos c5] at hf
          show V 58 [some (.ref 0), some (.int x1), some (.int x2), some (.int a2), some (.int a3)] [] σ
          refine h.run (o := []) (ls' := [some (.ref 0), some (.int x1), some (.int x2), some (.int a2), some (.int a3)]) (st' := [.int a2]) (σ' := σ) [(.iload_n 3, 1, 0, 0, 0, 0)] (pc2 := 59) (by decide +kernel) rfl trivial ?_
          obtain rfl := Option.some.inj hf
          exact hm.iret (by decide +kernel)
      · rw [if_neg c6] at hf
        show V 23 [some (.ref 0), some (.int x1), some (.int x2), none, none] [] σ
        refine h.drop (ls' := [none, none, none, none, none]) trivial ?_
        exact wX5_sumCame_23 hm hf
def fX5_judge_118 (kt_46 : Nat → Int32 → Int32 → Int32 → Option Int32) (k2 : Nat) (x4 : Int32) (x5 : Int32) (x6 : Int32) (σ : ST) : Option Int32 :=
  kt_46 k2 x4 x5 (x6 + 1)
set_option maxHeartbeats 4000000 in
theorem wX5_judge_118 {l : Launch} {V : Nat → List (Option Value) → List Value → ST → Prop} {r : Int32} {σ : ST} {k2 : Nat} {x4 : Int32} {x5 : Int32} {x6 : Int32} {kt_46 : Nat → Int32 → Int32 → Int32 → Option Int32} (hm : BM l 5 cX5_judge 9 (some .int) 2 46 (some (.int r)) σ V) (hkt_46 : ∀ (k2 : Nat) (x4 : Int32) (x5 : Int32) (x6 : Int32), kd k2 = 3 → kt_46 k2 x4 x5 x6 = some r → V 46 [some (.ref 0), none, some (.ref k2), none, some (.int x4), some (.int x5), some (.int x6), none, none] [] σ) (hk2 : kd k2 = 3) (hf : fX5_judge_118 kt_46 k2 x4 x5 x6 σ = some r) : V 118 [some (.ref 0), none, some (.ref k2), none, some (.int x4), some (.int x5), some (.int x6), none, none] [] σ := by
  have h := hm.bd
  unfold fX5_judge_118 at hf
  refine h.run (o := []) (ls' := [some (.ref 0), none, some (.ref k2), none, some (.int x4), some (.int x5), some (.int (x6 + 1)), none, none]) (st' := []) (σ' := σ) [(.iinc 6 1, 3, 1, 0, 0, 0), (.goto (-75), 3, 0, 0, 0, 46)] (pc2 := 46) (by decide +kernel) rfl trivial ?_
  exact hkt_46 k2 x4 x5 (x6 + 1) hk2 hf
def fX5_judge_88 (kt_46 : Nat → Int32 → Int32 → Int32 → Option Int32) (k2 : Nat) (x4 : Int32) (x5 : Int32) (x6 : Int32) (t1 : Int32) (t2 : Int32) (σ : ST) : Option Int32 :=
  bR (fX4_read 10 t1 t2 σ) fun a1 =>
  bR (fX3_read k2 x6 σ) fun a2 =>
  if a2 = a1 then
    fX5_judge_118 kt_46 k2 x4 x5 x6 σ
  else
    if a2 = x5 then
      fX5_judge_118 kt_46 k2 x4 x5 x6 σ
    else
      some x6
set_option maxHeartbeats 4000000 in
theorem wX5_judge_88 {l : Launch} {V : Nat → List (Option Value) → List Value → ST → Prop} {r : Int32} {σ : ST} {k2 : Nat} {x4 : Int32} {x5 : Int32} {x6 : Int32} {t1 : Int32} {t2 : Int32} {kt_46 : Nat → Int32 → Int32 → Int32 → Option Int32} (hm : BM l 5 cX5_judge 9 (some .int) 2 46 (some (.int r)) σ V) (hkt_46 : ∀ (k2 : Nat) (x4 : Int32) (x5 : Int32) (x6 : Int32), kd k2 = 3 → kt_46 k2 x4 x5 x6 = some r → V 46 [some (.ref 0), none, some (.ref k2), none, some (.int x4), some (.int x5), some (.int x6), none, none] [] σ) (hk2 : kd k2 = 3) (hf : fX5_judge_88 kt_46 k2 x4 x5 x6 t1 t2 σ = some r) : V 88 [some (.ref 0), none, some (.ref k2), none, some (.int x4), some (.int x5), some (.int x6), none, none] [.int t2, .int t1, .ref 10] σ := by
  have h := hm.bd
  unfold fX5_judge_88 at hf
  obtain ⟨a1, e1, hf⟩ := bR_some hf
  refine h.callV (as := [.int t1, .int t2]) (rest := []) (by decide +kernel) lk5_87 cwX4_read kd_10 (kmX4_read l kd_10 e1) rfl (Nat.le_of_ble_eq_true rfl) (Nat.le_of_ble_eq_true rfl) (Nat.le_of_ble_eq_true rfl) ?_
  show V 91 [some (.ref 0), none, some (.ref k2), none, some (.int x4), some (.int x5), some (.int x6), none, none] [.int a1] σ
  refine h.run (o := []) (ls' := [some (.ref 0), none, some (.ref k2), none, some (.int x4), some (.int x5), some (.int x6), some (.int a1), none]) (st' := [.int x6, .ref k2]) (σ' := σ) [(.istore 7, 2, 0, 0, 0, 0), (.aload_n 2, 1, 0, 0, 0, 0), (.iload 6, 2, 0, 0, 0, 0)] (pc2 := 96) (by decide +kernel) rfl trivial ?_
  obtain ⟨a2, e2, hf⟩ := bR_some hf
  refine h.callV (as := [.int x6]) (rest := []) (by decide +kernel) lk5_136 cwX3_read hk2 (kmX3_read l hk2 e2) rfl (Nat.le_of_ble_eq_true rfl) (Nat.le_of_ble_eq_true rfl) (Nat.le_of_ble_eq_true rfl) ?_
  show V 99 [some (.ref 0), none, some (.ref k2), none, some (.int x4), some (.int x5), some (.int x6), some (.int a1), none] [.int a2] σ
  refine h.run (o := []) (ls' := [some (.ref 0), none, some (.ref k2), none, some (.int x4), some (.int x5), some (.int x6), some (.int a1), some (.int a2)]) (st' := [.int a1, .int a2]) (σ' := σ) [(.istore 8, 2, 0, 0, 0, 0), (.iload 8, 2, 0, 0, 0, 0), (.iload 7, 2, 0, 0, 0, 0)] (pc2 := 105) (by decide +kernel) rfl trivial ?_
  refine h.icmp_eq (tgt := 118) (show decode cX5_judge 105 = .ok (.if_icmp .eq 13, 3) by decide +kernel) (by decide) (fun c4 => ?_) (fun c4 => ?_)
  · rw [if_pos c4] at hf
    refine h.drop (ls' := [some (.ref 0), none, some (.ref k2), none, some (.int x4), some (.int x5), some (.int x6), none, none]) (And.intro rfl (And.intro rfl (And.intro rfl (And.intro rfl (And.intro rfl trivial))))) ?_
    exact wX5_judge_118 hm hkt_46 hk2 hf
  · rw [if_neg c4] at hf
    show V 108 [some (.ref 0), none, some (.ref k2), none, some (.int x4), some (.int x5), some (.int x6), some (.int a1), some (.int a2)] [] σ
    refine h.run (o := []) (ls' := [some (.ref 0), none, some (.ref k2), none, some (.int x4), some (.int x5), some (.int x6), some (.int a1), some (.int a2)]) (st' := [.int x5, .int a2]) (σ' := σ) [(.iload 8, 2, 0, 0, 0, 0), (.iload 5, 2, 0, 0, 0, 0)] (pc2 := 112) (by decide +kernel) rfl trivial ?_
    refine h.icmp_eq (tgt := 118) (show decode cX5_judge 112 = .ok (.if_icmp .eq 6, 3) by decide +kernel) (by decide) (fun c3 => ?_) (fun c3 => ?_)
    · rw [if_pos c3] at hf
      refine h.drop (ls' := [some (.ref 0), none, some (.ref k2), none, some (.int x4), some (.int x5), some (.int x6), none, none]) (And.intro rfl (And.intro rfl (And.intro rfl (And.intro rfl (And.intro rfl trivial))))) ?_
      exact wX5_judge_118 hm hkt_46 hk2 hf
    · rw [if_neg c3] at hf
      show V 115 [some (.ref 0), none, some (.ref k2), none, some (.int x4), some (.int x5), some (.int x6), some (.int a1), some (.int a2)] [] σ
      refine h.run (o := []) (ls' := [some (.ref 0), none, some (.ref k2), none, some (.int x4), some (.int x5), some (.int x6), some (.int a1), some (.int a2)]) (st' := [.int x6]) (σ' := σ) [(.iload 6, 2, 0, 0, 0, 0)] (pc2 := 117) (by decide +kernel) rfl trivial ?_
      obtain rfl := Option.some.inj hf
      exact hm.iret (by decide +kernel)
def fX5_judge_46 (σ : ST) (n : Nat) (k2 : Nat) (x4 : Int32) (x5 : Int32) (x6 : Int32) : Option Int32 := match n with
  | 0 => none
  | n + 1 =>
    if (σ.1 k2 6) ≤ x6 then
      some (-4)
    else
      if x6 < x4 then
        if (x6 - x6 / 2 * 2) = 0 then
          fX5_judge_88 (fX5_judge_46 σ n) k2 x4 x5 x6 (x6 / 2) 2 σ
        else
          fX5_judge_88 (fX5_judge_46 σ n) k2 x4 x5 x6 (x6 / 2) 4 σ
      else
        some x4
set_option maxHeartbeats 4000000 in
theorem wX5_judge_46 {l : Launch} {V : Nat → List (Option Value) → List Value → ST → Prop} {r : Int32} {σ : ST} (hm : BM l 5 cX5_judge 9 (some .int) 2 46 (some (.int r)) σ V) : ∀ (n : Nat) (k2 : Nat) (x4 : Int32) (x5 : Int32) (x6 : Int32) (hk2 : kd k2 = 3), fX5_judge_46 σ n k2 x4 x5 x6 = some r → V 46 [some (.ref 0), none, some (.ref k2), none, some (.int x4), some (.int x5), some (.int x6), none, none] [] σ := by
  have h := hm.bd
  intro n
  induction n with
  | zero => intro k2 x4 x5 x6 hk2 hf; cases hf
  | succ n ih =>
    intro k2 x4 x5 x6 hk2 hf
    rw [fX5_judge_46] at hf
    refine h.run (o := [kd k2 = 3]) (ls' := [some (.ref 0), none, some (.ref k2), none, some (.int x4), some (.int x5), some (.int x6), none, none]) (st' := [.int (σ.1 k2 6), .int x6]) (σ' := σ) [(.iload 6, 2, 0, 0, 0, 0), (.aload_n 2, 1, 0, 0, 0, 0), (.getfield 135, 3, 0, 0, 3, 6)] (pc2 := 52) (by decide +kernel) rfl (And.intro hk2 trivial) ?_
    refine h.icmp_ge (tgt := 124) (show decode cX5_judge 52 = .ok (.if_icmp .ge 72, 3) by decide +kernel) (by decide) (fun c3 => ?_) (fun c3 => ?_)
    · rw [if_pos c3] at hf
      refine h.run (o := []) (ls' := [some (.ref 0), none, some (.ref k2), none, some (.int x4), some (.int x5), some (.int x6), none, none]) (st' := [.int (-4)]) (σ' := σ) [(.bipush (-4), 2, (-4), 0, 0, 0)] (pc2 := 126) (by decide +kernel) rfl trivial ?_
      obtain rfl := Option.some.inj hf
      exact hm.iret (by decide +kernel)
    · rw [if_neg c3] at hf
      show V 55 [some (.ref 0), none, some (.ref k2), none, some (.int x4), some (.int x5), some (.int x6), none, none] [] σ
      refine h.run (o := []) (ls' := [some (.ref 0), none, some (.ref k2), none, some (.int x4), some (.int x5), some (.int x6), none, none]) (st' := [.int x4, .int x6]) (σ' := σ) [(.iload 6, 2, 0, 0, 0, 0), (.iload 4, 2, 0, 0, 0, 0)] (pc2 := 59) (by decide +kernel) rfl trivial ?_
      refine h.icmp_lt (tgt := 65) (show decode cX5_judge 59 = .ok (.if_icmp .lt 6, 3) by decide +kernel) (by decide) (fun c2 => ?_) (fun c2 => ?_)
      · rw [if_pos c2] at hf
        refine h.run (o := [kd 0 = 5, kd 1 = 0, ¬ 2 = 0, ¬ 2 = 0]) (ls' := [some (.ref 0), none, some (.ref k2), none, some (.int x4), some (.int x5), some (.int x6), none, none]) (st' := [.int (x6 - x6 / 2 * 2), .int (x6 / 2), .ref 10]) (σ' := σ) [(.aload_n 0, 1, 0, 0, 0, 0), (.getfield 10, 3, 0, 0, 5, 0), (.getfield 104, 3, 0, 0, 0, 5), (.iload 6, 2, 0, 0, 0, 0), (.iconst 2, 1, 2, 0, 0, 0), (.idiv, 1, 0, 0, 0, 0), (.iload 6, 2, 0, 0, 0, 0), (.iconst 2, 1, 2, 0, 0, 0), (.irem, 1, 0, 0, 0, 0)] (pc2 := 80) (by decide +kernel) rfl (And.intro kd_0 (And.intro kd_1 (And.intro (by decide) (And.intro (by decide) trivial)))) ?_
        refine h.if_ne (tgt := 87) (show decode cX5_judge 80 = .ok (.ifCond .ne 7, 3) by decide +kernel) (by decide) (fun c1 => ?_) (fun c1 => ?_)
        · rw [if_neg c1] at hf
          refine h.run (o := []) (ls' := [some (.ref 0), none, some (.ref k2), none, some (.int x4), some (.int x5), some (.int x6), none, none]) (st' := [.int 4, .int (x6 / 2), .ref 10]) (σ' := σ) [(.iconst 4, 1, 4, 0, 0, 0)] (pc2 := 88) (by decide +kernel) rfl trivial ?_
          exact wX5_judge_88 hm ih hk2 hf
        · rw [if_pos c1] at hf
          show V 83 [some (.ref 0), none, some (.ref k2), none, some (.int x4), some (.int x5), some (.int x6), none, none] [.int (x6 / 2), .ref 10] σ
          refine h.run (o := []) (ls' := [some (.ref 0), none, some (.ref k2), none, some (.int x4), some (.int x5), some (.int x6), none, none]) (st' := [.int 2, .int (x6 / 2), .ref 10]) (σ' := σ) [(.iconst 2, 1, 2, 0, 0, 0), (.goto 4, 3, 0, 0, 0, 88)] (pc2 := 88) (by decide +kernel) rfl trivial ?_
          exact wX5_judge_88 hm ih hk2 hf
      · rw [if_neg c2] at hf
        show V 62 [some (.ref 0), none, some (.ref k2), none, some (.int x4), some (.int x5), some (.int x6), none, none] [] σ
        refine h.run (o := []) (ls' := [some (.ref 0), none, some (.ref k2), none, some (.int x4), some (.int x5), some (.int x6), none, none]) (st' := [.int x4]) (σ' := σ) [(.iload 4, 2, 0, 0, 0, 0)] (pc2 := 64) (by decide +kernel) rfl trivial ?_
        obtain rfl := Option.some.inj hf
        exact hm.iret (by decide +kernel)
def fX5_judge (x1 : Int32) (σ : ST) : Option Int32 :=
  bR (fX5_shelfAt x1 σ) fun o1 =>
  match o1 with
  | none =>
    some (-1)
  | some s1 =>
    bR (fX3_refusalAsRow s1 σ) fun a2 =>
    if a2 = 0 then
      bR (fX3_leastNumber s1 σ) fun a3 =>
      fX5_judge_46 σ FU s1 (2 * (σ.1 10 3)) a3 0
    else
      some a2
set_option maxHeartbeats 4000000 in
theorem kmX5_judge (l : Launch) {x1 : Int32} {σ : ST} {r : Int32} (hf : fX5_judge x1 σ = some r) : KM l yX5_judge cX5_judge 9 (some .int) 2 46 [.ref 0, .int x1] σ (some (.int r)) σ := by
  refine KM.intro (ow := 5) (by decide +kernel) rfl (Nat.le_of_ble_eq_true rfl) (fun V hm => ?_)
  show V 0 [some (.ref 0), some (.int x1), none, none, none, none, none, none, none] [] σ
  have h := hm.bd
  unfold fX5_judge at hf
  refine h.run (o := []) (ls' := [some (.ref 0), some (.int x1), none, none, none, none, none, none, none]) (st' := [.int x1, .ref 0]) (σ' := σ) [(.aload_n 0, 1, 0, 0, 0, 0), (.iload_n 1, 1, 0, 0, 0, 0)] (pc2 := 2) (by decide +kernel) rfl trivial ?_
  obtain ⟨o1, e1, hf⟩ := bR_some hf
  refine h.callV (as := [.int x1]) (rest := []) (by decide +kernel) lk5_44 cwX5_shelfAt kd_0 (kmX5_shelfAt l e1) rfl (Nat.le_of_ble_eq_true rfl) (Nat.le_of_ble_eq_true rfl) (Nat.le_of_ble_eq_true rfl) ?_
  cases o1 with
  | none =>
    dsimp only at hf
    show V 5 [some (.ref 0), some (.int x1), none, none, none, none, none, none, none] [.null] σ
    refine h.run (o := []) (ls' := [some (.ref 0), some (.int x1), some (.null), none, none, none, none, none, none]) (st' := [.null]) (σ' := σ) [(.astore_n 2, 1, 0, 0, 0, 0), (.aload_n 2, 1, 0, 0, 0, 0)] (pc2 := 7) (by decide +kernel) rfl trivial ?_
    refine h.ifnonnullN (show decode cX5_judge 7 = .ok (.ifnonnull 5, 3) by decide +kernel) ?_
    show V 10 [some (.ref 0), some (.int x1), some (.null), none, none, none, none, none, none] [] σ
    refine h.run (o := []) (ls' := [some (.ref 0), some (.int x1), some (.null), none, none, none, none, none, none]) (st' := [.int (-1)]) (σ' := σ) [(.iconst (-1), 1, (-1), 0, 0, 0)] (pc2 := 11) (by decide +kernel) rfl trivial ?_
    obtain rfl := Option.some.inj hf
    exact hm.iret (by decide +kernel)
  | some s1 =>
    dsimp only at hf
    have hs1 : kd s1 = 3 := shelfAt_kd e1
    show V 5 [some (.ref 0), some (.int x1), none, none, none, none, none, none, none] [.ref s1] σ
    refine h.run (o := []) (ls' := [some (.ref 0), some (.int x1), some (.ref s1), none, none, none, none, none, none]) (st' := [.ref s1]) (σ' := σ) [(.astore_n 2, 1, 0, 0, 0, 0), (.aload_n 2, 1, 0, 0, 0, 0)] (pc2 := 7) (by decide +kernel) rfl trivial ?_
    refine h.ifnonnull (show decode cX5_judge 7 = .ok (.ifnonnull 5, 3) by decide +kernel) (tgt := 12) (by decide) ?_
    refine h.run (o := []) (ls' := [some (.ref 0), some (.int x1), some (.ref s1), none, none, none, none, none, none]) (st' := [.ref s1]) (σ' := σ) [(.aload_n 2, 1, 0, 0, 0, 0)] (pc2 := 13) (by decide +kernel) rfl trivial ?_
    obtain ⟨a2, e2, hf⟩ := bR_some hf
    refine h.callV (as := []) (rest := []) (by decide +kernel) lk5_48 cwX3_refusalAsRow hs1 (kmX3_refusalAsRow l hs1 e2) rfl (Nat.le_of_ble_eq_true rfl) (Nat.le_of_ble_eq_true rfl) (Nat.le_of_ble_eq_true rfl) ?_
    show V 16 [some (.ref 0), some (.int x1), some (.ref s1), none, none, none, none, none, none] [.int a2] σ
    refine h.run (o := []) (ls' := [some (.ref 0), some (.int x1), some (.ref s1), some (.int a2), none, none, none, none, none]) (st' := [.int a2]) (σ' := σ) [(.istore_n 3, 1, 0, 0, 0, 0), (.iload_n 3, 1, 0, 0, 0, 0)] (pc2 := 18) (by decide +kernel) rfl trivial ?_
    refine h.if_eq (tgt := 23) (show decode cX5_judge 18 = .ok (.ifCond .eq 5, 3) by decide +kernel) (by decide) (fun c4 => ?_) (fun c4 => ?_)
    · rw [if_pos c4] at hf
      refine h.run (o := [kd 0 = 5, kd 1 = 0, kd 10 = 4]) (ls' := [some (.ref 0), some (.int x1), some (.ref s1), some (.int a2), some (.int (2 * (σ.1 10 3))), none, none, none, none]) (st' := [.ref s1]) (σ' := σ) [(.iconst 2, 1, 2, 0, 0, 0), (.aload_n 0, 1, 0, 0, 0, 0), (.getfield 10, 3, 0, 0, 5, 0), (.getfield 104, 3, 0, 0, 0, 5), (.getfield 71, 3, 0, 0, 4, 3), (.imul, 1, 0, 0, 0, 0), (.istore 4, 2, 0, 0, 0, 0), (.aload_n 2, 1, 0, 0, 0, 0)] (pc2 := 38) (by decide +kernel) rfl (And.intro kd_0 (And.intro kd_1 (And.intro kd_10 trivial))) ?_
      obtain ⟨a3, e3, hf⟩ := bR_some hf
      refine h.callV (as := []) (rest := []) (by decide +kernel) lk5_132 cwX3_leastNumber hs1 (kmX3_leastNumber l hs1 e3) rfl (Nat.le_of_ble_eq_true rfl) (Nat.le_of_ble_eq_true rfl) (Nat.le_of_ble_eq_true rfl) ?_
      show V 41 [some (.ref 0), some (.int x1), some (.ref s1), some (.int a2), some (.int (2 * (σ.1 10 3))), none, none, none, none] [.int a3] σ
      refine h.run (o := []) (ls' := [some (.ref 0), some (.int x1), some (.ref s1), some (.int a2), some (.int (2 * (σ.1 10 3))), some (.int a3), some (.int 0), none, none]) (st' := []) (σ' := σ) [(.istore 5, 2, 0, 0, 0, 0), (.iconst 0, 1, 0, 0, 0, 0), (.istore 6, 2, 0, 0, 0, 0)] (pc2 := 46) (by decide +kernel) rfl trivial ?_
      refine h.drop (ls' := [some (.ref 0), none, some (.ref s1), none, some (.int (2 * (σ.1 10 3))), some (.int a3), some (.int 0), none, none]) (And.intro rfl (And.intro rfl (And.intro rfl (And.intro rfl (And.intro rfl trivial))))) ?_
      exact wX5_judge_46 hm FU s1 (2 * (σ.1 10 3)) a3 0 hs1 hf
    · rw [if_neg c4] at hf
      show V 21 [some (.ref 0), some (.int x1), some (.ref s1), some (.int a2), none, none, none, none, none] [] σ
      refine h.run (o := []) (ls' := [some (.ref 0), some (.int x1), some (.ref s1), some (.int a2), none, none, none, none, none]) (st' := [.int a2]) (σ' := σ) [(.iload_n 3, 1, 0, 0, 0, 0)] (pc2 := 22) (by decide +kernel) rfl trivial ?_
      obtain rfl := Option.some.inj hf
      exact hm.iret (by decide +kernel)
def fX5_sends (x1 : Int32) (x2 : Int32) (σ : ST) : Option (Int32 × ST) :=
  bR (fX5_areThere x1 x2 σ) fun a1 =>
  if a1 = 0 then
    some ((-1), σ)
  else
    bR (fX5_bring x1 x2 σ) fun σ2 =>
    bI (fX1_wouldSend σ2) fun a3 σ3 =>
    some (a3, σ3)
set_option maxHeartbeats 4000000 in
theorem kmX5_sends (l : Launch) {x1 : Int32} {x2 : Int32} {σ : ST} {r : Int32} {τ : ST} (hf : fX5_sends x1 x2 σ = some (r, τ)) : KM l yX5_sends cX5_sends 3 (some .int) 5 114 [.ref 0, .int x1, .int x2] σ (some (.int r)) τ := by
  refine KM.intro (ow := 5) (by decide +kernel) rfl (Nat.le_of_ble_eq_true rfl) (fun V hm => ?_)
  show V 0 [some (.ref 0), some (.int x1), some (.int x2)] [] σ
  have h := hm.bd
  unfold fX5_sends at hf
  refine h.run (o := []) (ls' := [some (.ref 0), some (.int x1), some (.int x2)]) (st' := [.int x2, .int x1, .ref 0]) (σ' := σ) [(.aload_n 0, 1, 0, 0, 0, 0), (.iload_n 1, 1, 0, 0, 0, 0), (.iload_n 2, 1, 0, 0, 0, 0)] (pc2 := 3) (by decide +kernel) rfl trivial ?_
  obtain ⟨a1, e1, hf⟩ := bR_some hf
  refine h.callV (as := [.int x1, .int x2]) (rest := []) (by decide +kernel) lk5_117 cwX5_areThere kd_0 (kmX5_areThere l e1) rfl (Nat.le_of_ble_eq_true rfl) (Nat.le_of_ble_eq_true rfl) (Nat.le_of_ble_eq_true rfl) ?_
  show V 6 [some (.ref 0), some (.int x1), some (.int x2)] [.int a1] σ
  refine h.if_ne (tgt := 11) (show decode cX5_sends 6 = .ok (.ifCond .ne 5, 3) by decide +kernel) (by decide) (fun c4 => ?_) (fun c4 => ?_)
  · rw [if_neg c4] at hf
    refine h.run (o := []) (ls' := [some (.ref 0), some (.int x1), some (.int x2)]) (st' := [.int x2, .int x1, .ref 0]) (σ' := σ) [(.aload_n 0, 1, 0, 0, 0, 0), (.iload_n 1, 1, 0, 0, 0, 0), (.iload_n 2, 1, 0, 0, 0, 0)] (pc2 := 14) (by decide +kernel) rfl trivial ?_
    obtain ⟨σ2, e2, hf⟩ := bR_some hf
    refine h.callV (as := [.int x1, .int x2]) (rest := []) (by decide +kernel) lk5_139 cwX5_bring kd_0 (kmX5_bring l e2) rfl (Nat.le_of_ble_eq_true rfl) (Nat.le_of_ble_eq_true rfl) (Nat.le_of_ble_eq_true rfl) ?_
    show V 17 [some (.ref 0), some (.int x1), some (.int x2)] [] σ2
    refine h.run (o := [kd 0 = 5]) (ls' := [some (.ref 0), some (.int x1), some (.int x2)]) (st' := [.ref 3]) (σ' := σ2) [(.aload_n 0, 1, 0, 0, 0, 0), (.getfield 26, 3, 0, 0, 5, 3)] (pc2 := 21) (by decide +kernel) rfl (And.intro kd_0 trivial) ?_
    obtain ⟨a3, σ3, e3, hf⟩ := bI_some hf
    refine h.callV (as := []) (rest := []) (by decide +kernel) lk5_143 cwX1_wouldSend kd_3 (kmX1_wouldSend l e3) rfl (Nat.le_of_ble_eq_true rfl) (Nat.le_of_ble_eq_true rfl) (Nat.le_of_ble_eq_true rfl) ?_
    show V 24 [some (.ref 0), some (.int x1), some (.int x2)] [.int a3] σ3
    obtain ⟨rfl, rfl⟩ := Prod.mk.inj (Option.some.inj hf)
    exact hm.iret (by decide +kernel)
  · rw [if_pos c4] at hf
    show V 9 [some (.ref 0), some (.int x1), some (.int x2)] [] σ
    refine h.run (o := []) (ls' := [some (.ref 0), some (.int x1), some (.int x2)]) (st' := [.int (-1)]) (σ' := σ) [(.iconst (-1), 1, (-1), 0, 0, 0)] (pc2 := 10) (by decide +kernel) rfl trivial ?_
    obtain ⟨rfl, rfl⟩ := Prod.mk.inj (Option.some.inj hf)
    exact hm.iret (by decide +kernel)
def fX5_back_29 (σ : ST) : Option (Int32 × ST) :=
  some ((-1), σ)
set_option maxHeartbeats 4000000 in
theorem wX5_back_29 {l : Launch} {V : Nat → List (Option Value) → List Value → ST → Prop} {r : Int32} {τ : ST} {σ : ST} (hm : BM l 5 cX5_back 4 (some .int) 3 67 (some (.int r)) τ V) (hf : fX5_back_29 σ = some (r, τ)) : V 29 [none, none, none, none] [] σ := by
  have h := hm.bd
  unfold fX5_back_29 at hf
  refine h.run (o := []) (ls' := [none, none, none, none]) (st' := [.int (-1)]) (σ' := σ) [(.iconst (-1), 1, (-1), 0, 0, 0)] (pc2 := 30) (by decide +kernel) rfl trivial ?_
  obtain ⟨rfl, rfl⟩ := Prod.mk.inj (Option.some.inj hf)
  exact hm.iret (by decide +kernel)
def fX5_back (x1 : Int32) (x2 : Int32) (x3 : Int32) (σ : ST) : Option (Int32 × ST) :=
  bR (fX4_has 8 x1 σ) fun a1 =>
  if a1 = 0 then
    fX5_back_29 σ
  else
    if x2 < 0 then
      fX5_back_29 σ
    else
      if x2 ≤ (σ.1 1 0) then
        bR (fX5_bringReturner x1 σ) fun σ2 =>
        bI (fX1_sendBackOf x2 x3 σ2) fun a3 σ3 =>
        some (a3, σ3)
      else
        fX5_back_29 σ
set_option maxHeartbeats 4000000 in
theorem kmX5_back (l : Launch) {x1 : Int32} {x2 : Int32} {x3 : Int32} {σ : ST} {r : Int32} {τ : ST} (hf : fX5_back x1 x2 x3 σ = some (r, τ)) : KM l yX5_back cX5_back 4 (some .int) 3 67 [.ref 0, .int x1, .int x2, .int x3] σ (some (.int r)) τ := by
  refine KM.intro (ow := 5) (by decide +kernel) rfl (Nat.le_of_ble_eq_true rfl) (fun V hm => ?_)
  show V 0 [some (.ref 0), some (.int x1), some (.int x2), some (.int x3)] [] σ
  have h := hm.bd
  unfold fX5_back at hf
  refine h.run (o := [kd 0 = 5, kd 1 = 0]) (ls' := [some (.ref 0), some (.int x1), some (.int x2), some (.int x3)]) (st' := [.int x1, .ref 8]) (σ' := σ) [(.aload_n 0, 1, 0, 0, 0, 0), (.getfield 10, 3, 0, 0, 5, 0), (.getfield 91, 3, 0, 0, 0, 4), (.iload_n 1, 1, 0, 0, 0, 0)] (pc2 := 8) (by decide +kernel) rfl (And.intro kd_0 (And.intro kd_1 trivial)) ?_
  obtain ⟨a1, e1, hf⟩ := bR_some hf
  refine h.callV (as := [.int x1]) (rest := []) (by decide +kernel) lk5_83 cwX4_has kd_8 (kmX4_has l kd_8 e1) rfl (Nat.le_of_ble_eq_true rfl) (Nat.le_of_ble_eq_true rfl) (Nat.le_of_ble_eq_true rfl) ?_
  show V 11 [some (.ref 0), some (.int x1), some (.int x2), some (.int x3)] [.int a1] σ
  refine h.if_eq (tgt := 29) (show decode cX5_back 11 = .ok (.ifCond .eq 18, 3) by decide +kernel) (by decide) (fun c6 => ?_) (fun c6 => ?_)
  · rw [if_pos c6] at hf
    refine h.drop (ls' := [none, none, none, none]) trivial ?_
    exact wX5_back_29 hm hf
  · rw [if_neg c6] at hf
    show V 14 [some (.ref 0), some (.int x1), some (.int x2), some (.int x3)] [] σ
    refine h.run (o := []) (ls' := [some (.ref 0), some (.int x1), some (.int x2), some (.int x3)]) (st' := [.int x2]) (σ' := σ) [(.iload_n 2, 1, 0, 0, 0, 0)] (pc2 := 15) (by decide +kernel) rfl trivial ?_
    refine h.if_lt (tgt := 29) (show decode cX5_back 15 = .ok (.ifCond .lt 14, 3) by decide +kernel) (by decide) (fun c5 => ?_) (fun c5 => ?_)
    · rw [if_pos c5] at hf
      refine h.drop (ls' := [none, none, none, none]) trivial ?_
      exact wX5_back_29 hm hf
    · rw [if_neg c5] at hf
      show V 18 [some (.ref 0), some (.int x1), some (.int x2), some (.int x3)] [] σ
      refine h.run (o := [kd 0 = 5, kd 1 = 0]) (ls' := [some (.ref 0), some (.int x1), some (.int x2), some (.int x3)]) (st' := [.int (σ.1 1 0), .int x2]) (σ' := σ) [(.iload_n 2, 1, 0, 0, 0, 0), (.aload_n 0, 1, 0, 0, 0, 0), (.getfield 10, 3, 0, 0, 5, 0), (.getfield 107, 3, 0, 0, 0, 0)] (pc2 := 26) (by decide +kernel) rfl (And.intro kd_0 (And.intro kd_1 trivial)) ?_
      refine h.icmp_le (tgt := 31) (show decode cX5_back 26 = .ok (.if_icmp .le 5, 3) by decide +kernel) (by decide) (fun c4 => ?_) (fun c4 => ?_)
      · rw [if_pos c4] at hf
        refine h.run (o := []) (ls' := [some (.ref 0), some (.int x1), some (.int x2), some (.int x3)]) (st' := [.int x1, .ref 0]) (σ' := σ) [(.aload_n 0, 1, 0, 0, 0, 0), (.iload_n 1, 1, 0, 0, 0, 0)] (pc2 := 33) (by decide +kernel) rfl trivial ?_
        obtain ⟨σ2, e2, hf⟩ := bR_some hf
        refine h.callV (as := [.int x1]) (rest := []) (by decide +kernel) lk5_146 cwX5_bringReturner kd_0 (kmX5_bringReturner l e2) rfl (Nat.le_of_ble_eq_true rfl) (Nat.le_of_ble_eq_true rfl) (Nat.le_of_ble_eq_true rfl) ?_
        show V 36 [some (.ref 0), some (.int x1), some (.int x2), some (.int x3)] [] σ2
        refine h.run (o := [kd 0 = 5]) (ls' := [some (.ref 0), some (.int x1), some (.int x2), some (.int x3)]) (st' := [.int x3, .int x2, .ref 3]) (σ' := σ2) [(.aload_n 0, 1, 0, 0, 0, 0), (.getfield 26, 3, 0, 0, 5, 3), (.iload_n 2, 1, 0, 0, 0, 0), (.iload_n 3, 1, 0, 0, 0, 0)] (pc2 := 42) (by decide +kernel) rfl (And.intro kd_0 trivial) ?_
        obtain ⟨a3, σ3, e3, hf⟩ := bI_some hf
        refine h.callV (as := [.int x2, .int x3]) (rest := []) (by decide +kernel) lk5_149 cwX1_sendBackOf kd_3 (kmX1_sendBackOf l e3) rfl (Nat.le_of_ble_eq_true rfl) (Nat.le_of_ble_eq_true rfl) (Nat.le_of_ble_eq_true rfl) ?_
        show V 45 [some (.ref 0), some (.int x1), some (.int x2), some (.int x3)] [.int a3] σ3
        obtain ⟨rfl, rfl⟩ := Prod.mk.inj (Option.some.inj hf)
        exact hm.iret (by decide +kernel)
      · rw [if_neg c4] at hf
        show V 29 [some (.ref 0), some (.int x1), some (.int x2), some (.int x3)] [] σ
        refine h.drop (ls' := [none, none, none, none]) trivial ?_
        exact wX5_back_29 hm hf
def fX5_held_45 (t0 : Int32) (σ : ST) : Option (Int32 × ST) :=
  some (t0, σ)
set_option maxHeartbeats 4000000 in
theorem wX5_held_45 {l : Launch} {V : Nat → List (Option Value) → List Value → ST → Prop} {r : Int32} {τ : ST} {σ : ST} {t0 : Int32} (hm : BM l 5 cX5_held 4 (some .int) 5 114 (some (.int r)) τ V) (hf : fX5_held_45 t0 σ = some (r, τ)) : V 45 [none, none, none, none] [.int t0] σ := by
  have h := hm.bd
  unfold fX5_held_45 at hf
  obtain ⟨rfl, rfl⟩ := Prod.mk.inj (Option.some.inj hf)
  exact hm.iret (by decide +kernel)
def fX5_held (x1 : Int32) (x2 : Int32) (σ : ST) : Option (Int32 × ST) :=
  bR (fX5_areThere x1 x2 σ) fun a1 =>
  if a1 = 0 then
    some ((-1000000001), σ)
  else
    bR (fX5_bring x1 x2 σ) fun σ2 =>
    bR (fX1_nameOfReturner σ2) fun a3 =>
    if a3 = (-1) then
      fX5_held_45 (-1000000003) σ2
    else
      fX5_held_45 ((σ2.1 3 5) - a3) σ2
set_option maxHeartbeats 4000000 in
theorem kmX5_held (l : Launch) {x1 : Int32} {x2 : Int32} {σ : ST} {r : Int32} {τ : ST} (hf : fX5_held x1 x2 σ = some (r, τ)) : KM l yX5_held cX5_held 4 (some .int) 5 114 [.ref 0, .int x1, .int x2] σ (some (.int r)) τ := by
  refine KM.intro (ow := 5) (by decide +kernel) rfl (Nat.le_of_ble_eq_true rfl) (fun V hm => ?_)
  show V 0 [some (.ref 0), some (.int x1), some (.int x2), none] [] σ
  have h := hm.bd
  unfold fX5_held at hf
  refine h.run (o := []) (ls' := [some (.ref 0), some (.int x1), some (.int x2), none]) (st' := [.int x2, .int x1, .ref 0]) (σ' := σ) [(.aload_n 0, 1, 0, 0, 0, 0), (.iload_n 1, 1, 0, 0, 0, 0), (.iload_n 2, 1, 0, 0, 0, 0)] (pc2 := 3) (by decide +kernel) rfl trivial ?_
  obtain ⟨a1, e1, hf⟩ := bR_some hf
  refine h.callV (as := [.int x1, .int x2]) (rest := []) (by decide +kernel) lk5_117 cwX5_areThere kd_0 (kmX5_areThere l e1) rfl (Nat.le_of_ble_eq_true rfl) (Nat.le_of_ble_eq_true rfl) (Nat.le_of_ble_eq_true rfl) ?_
  show V 6 [some (.ref 0), some (.int x1), some (.int x2), none] [.int a1] σ
  refine h.if_ne (tgt := 12) (show decode cX5_held 6 = .ok (.ifCond .ne 6, 3) by decide +kernel) (by decide) (fun c5 => ?_) (fun c5 => ?_)
  · rw [if_neg c5] at hf
    refine h.run (o := []) (ls' := [some (.ref 0), some (.int x1), some (.int x2), none]) (st' := [.int x2, .int x1, .ref 0]) (σ' := σ) [(.aload_n 0, 1, 0, 0, 0, 0), (.iload_n 1, 1, 0, 0, 0, 0), (.iload_n 2, 1, 0, 0, 0, 0)] (pc2 := 15) (by decide +kernel) rfl trivial ?_
    obtain ⟨σ2, e2, hf⟩ := bR_some hf
    refine h.callV (as := [.int x1, .int x2]) (rest := []) (by decide +kernel) lk5_139 cwX5_bring kd_0 (kmX5_bring l e2) rfl (Nat.le_of_ble_eq_true rfl) (Nat.le_of_ble_eq_true rfl) (Nat.le_of_ble_eq_true rfl) ?_
    show V 18 [some (.ref 0), some (.int x1), some (.int x2), none] [] σ2
    refine h.run (o := [kd 0 = 5]) (ls' := [some (.ref 0), some (.int x1), some (.int x2), none]) (st' := [.ref 3]) (σ' := σ2) [(.aload_n 0, 1, 0, 0, 0, 0), (.getfield 26, 3, 0, 0, 5, 3)] (pc2 := 22) (by decide +kernel) rfl (And.intro kd_0 trivial) ?_
    obtain ⟨a3, e3, hf⟩ := bR_some hf
    refine h.callV (as := []) (rest := []) (by decide +kernel) lk5_98 cwX1_nameOfReturner kd_3 (kmX1_nameOfReturner l e3) rfl (Nat.le_of_ble_eq_true rfl) (Nat.le_of_ble_eq_true rfl) (Nat.le_of_ble_eq_true rfl) ?_
    show V 25 [some (.ref 0), some (.int x1), some (.int x2), none] [.int a3] σ2
    refine h.run (o := []) (ls' := [some (.ref 0), some (.int x1), some (.int x2), some (.int a3)]) (st' := [.int (-1), .int a3]) (σ' := σ2) [(.istore_n 3, 1, 0, 0, 0, 0), (.iload_n 3, 1, 0, 0, 0, 0), (.iconst (-1), 1, (-1), 0, 0, 0)] (pc2 := 28) (by decide +kernel) rfl trivial ?_
    refine h.icmp_ne (tgt := 36) (show decode cX5_held 28 = .ok (.if_icmp .ne 8, 3) by decide +kernel) (by decide) (fun c4 => ?_) (fun c4 => ?_)
    · rw [if_neg c4] at hf
      refine h.run (o := [kd 0 = 5, kd 3 = 1]) (ls' := [some (.ref 0), some (.int x1), some (.int x2), some (.int a3)]) (st' := [.int ((σ2.1 3 5) - a3)]) (σ' := σ2) [(.aload_n 0, 1, 0, 0, 0, 0), (.getfield 26, 3, 0, 0, 5, 3), (.getfield 155, 3, 0, 0, 1, 5), (.iload_n 3, 1, 0, 0, 0, 0), (.isub, 1, 0, 0, 0, 0)] (pc2 := 45) (by decide +kernel) rfl (And.intro kd_0 (And.intro kd_3 trivial)) ?_
      refine h.drop (ls' := [none, none, none, none]) trivial ?_
      exact wX5_held_45 hm hf
    · rw [if_pos c4] at hf
      show V 31 [some (.ref 0), some (.int x1), some (.int x2), some (.int a3)] [] σ2
      refine h.run (o := []) (ls' := [some (.ref 0), some (.int x1), some (.int x2), some (.int a3)]) (st' := [.int (-1000000003)]) (σ' := σ2) [(.ldc 154, 2, (-1000000003), 0, 0, 0), (.goto 12, 3, 0, 0, 0, 45)] (pc2 := 45) (by decide +kernel) rfl trivial ?_
      refine h.drop (ls' := [none, none, none, none]) trivial ?_
      exact wX5_held_45 hm hf
  · rw [if_pos c5] at hf
    show V 9 [some (.ref 0), some (.int x1), some (.int x2), none] [] σ
    refine h.run (o := []) (ls' := [some (.ref 0), some (.int x1), some (.int x2), none]) (st' := [.int (-1000000001)]) (σ' := σ) [(.ldc 153, 2, (-1000000001), 0, 0, 0)] (pc2 := 11) (by decide +kernel) rfl trivial ?_
    obtain ⟨rfl, rfl⟩ := Prod.mk.inj (Option.some.inj hf)
    exact hm.iret (by decide +kernel)
def fX5_trust (x1 : Int32) (x2 : Int32) (σ : ST) : Option (Int32 × ST) :=
  bR (fX5_areThere x1 x2 σ) fun a1 =>
  if a1 = 0 then
    some ((-1000000001), σ)
  else
    bR (fX5_bring x1 x2 σ) fun σ2 =>
    bI (fX1_wouldSend (setI σ2 3 6 0)) fun a3 σ3 =>
    bI (fX1_wouldSend (setI σ3 3 6 1)) fun a4 σ4 =>
    some (a3 - a4, σ4)
set_option maxHeartbeats 4000000 in
theorem kmX5_trust (l : Launch) {x1 : Int32} {x2 : Int32} {σ : ST} {r : Int32} {τ : ST} (hf : fX5_trust x1 x2 σ = some (r, τ)) : KM l yX5_trust cX5_trust 4 (some .int) 5 114 [.ref 0, .int x1, .int x2] σ (some (.int r)) τ := by
  refine KM.intro (ow := 5) (by decide +kernel) rfl (Nat.le_of_ble_eq_true rfl) (fun V hm => ?_)
  show V 0 [some (.ref 0), some (.int x1), some (.int x2), none] [] σ
  have h := hm.bd
  unfold fX5_trust at hf
  refine h.run (o := []) (ls' := [some (.ref 0), some (.int x1), some (.int x2), none]) (st' := [.int x2, .int x1, .ref 0]) (σ' := σ) [(.aload_n 0, 1, 0, 0, 0, 0), (.iload_n 1, 1, 0, 0, 0, 0), (.iload_n 2, 1, 0, 0, 0, 0)] (pc2 := 3) (by decide +kernel) rfl trivial ?_
  obtain ⟨a1, e1, hf⟩ := bR_some hf
  refine h.callV (as := [.int x1, .int x2]) (rest := []) (by decide +kernel) lk5_117 cwX5_areThere kd_0 (kmX5_areThere l e1) rfl (Nat.le_of_ble_eq_true rfl) (Nat.le_of_ble_eq_true rfl) (Nat.le_of_ble_eq_true rfl) ?_
  show V 6 [some (.ref 0), some (.int x1), some (.int x2), none] [.int a1] σ
  refine h.if_ne (tgt := 12) (show decode cX5_trust 6 = .ok (.ifCond .ne 6, 3) by decide +kernel) (by decide) (fun c5 => ?_) (fun c5 => ?_)
  · rw [if_neg c5] at hf
    refine h.run (o := []) (ls' := [some (.ref 0), some (.int x1), some (.int x2), none]) (st' := [.int x2, .int x1, .ref 0]) (σ' := σ) [(.aload_n 0, 1, 0, 0, 0, 0), (.iload_n 1, 1, 0, 0, 0, 0), (.iload_n 2, 1, 0, 0, 0, 0)] (pc2 := 15) (by decide +kernel) rfl trivial ?_
    obtain ⟨σ2, e2, hf⟩ := bR_some hf
    refine h.callV (as := [.int x1, .int x2]) (rest := []) (by decide +kernel) lk5_139 cwX5_bring kd_0 (kmX5_bring l e2) rfl (Nat.le_of_ble_eq_true rfl) (Nat.le_of_ble_eq_true rfl) (Nat.le_of_ble_eq_true rfl) ?_
    show V 18 [some (.ref 0), some (.int x1), some (.int x2), none] [] σ2
    refine h.run (o := [kd 0 = 5, kd 3 = 1, kd 0 = 5]) (ls' := [some (.ref 0), some (.int x1), some (.int x2), none]) (st' := [.ref 3]) (σ' := setI σ2 3 6 0) [(.aload_n 0, 1, 0, 0, 0, 0), (.getfield 26, 3, 0, 0, 5, 3), (.iconst 0, 1, 0, 0, 0, 0), (.putfield 158, 3, 0, 0, 1, 6), (.aload_n 0, 1, 0, 0, 0, 0), (.getfield 26, 3, 0, 0, 5, 3)] (pc2 := 30) (by decide +kernel) rfl (And.intro kd_0 (And.intro kd_3 (And.intro kd_0 trivial))) ?_
    obtain ⟨a3, σ3, e3, hf⟩ := bI_some hf
    refine h.callV (as := []) (rest := []) (by decide +kernel) lk5_143 cwX1_wouldSend kd_3 (kmX1_wouldSend l e3) rfl (Nat.le_of_ble_eq_true rfl) (Nat.le_of_ble_eq_true rfl) (Nat.le_of_ble_eq_true rfl) ?_
    show V 33 [some (.ref 0), some (.int x1), some (.int x2), none] [.int a3] σ3
    refine h.run (o := [kd 0 = 5, kd 3 = 1, kd 0 = 5]) (ls' := [some (.ref 0), some (.int x1), some (.int x2), some (.int a3)]) (st' := [.ref 3, .int a3]) (σ' := setI σ3 3 6 1) [(.istore_n 3, 1, 0, 0, 0, 0), (.aload_n 0, 1, 0, 0, 0, 0), (.getfield 26, 3, 0, 0, 5, 3), (.iconst 1, 1, 1, 0, 0, 0), (.putfield 158, 3, 0, 0, 1, 6), (.iload_n 3, 1, 0, 0, 0, 0), (.aload_n 0, 1, 0, 0, 0, 0), (.getfield 26, 3, 0, 0, 5, 3)] (pc2 := 47) (by decide +kernel) rfl (And.intro kd_0 (And.intro kd_3 (And.intro kd_0 trivial))) ?_
    obtain ⟨a4, σ4, e4, hf⟩ := bI_some hf
    refine h.callV (as := []) (rest := [.int a3]) (by decide +kernel) lk5_143 cwX1_wouldSend kd_3 (kmX1_wouldSend l e4) rfl (Nat.le_of_ble_eq_true rfl) (Nat.le_of_ble_eq_true rfl) (Nat.le_of_ble_eq_true rfl) ?_
    show V 50 [some (.ref 0), some (.int x1), some (.int x2), some (.int a3)] [.int a4, .int a3] σ4
    refine h.run (o := []) (ls' := [some (.ref 0), some (.int x1), some (.int x2), some (.int a3)]) (st' := [.int (a3 - a4)]) (σ' := σ4) [(.isub, 1, 0, 0, 0, 0)] (pc2 := 51) (by decide +kernel) rfl trivial ?_
    obtain ⟨rfl, rfl⟩ := Prod.mk.inj (Option.some.inj hf)
    exact hm.iret (by decide +kernel)
  · rw [if_pos c5] at hf
    show V 9 [some (.ref 0), some (.int x1), some (.int x2), none] [] σ
    refine h.run (o := []) (ls' := [some (.ref 0), some (.int x1), some (.int x2), none]) (st' := [.int (-1000000001)]) (σ' := σ) [(.ldc 153, 2, (-1000000001), 0, 0, 0)] (pc2 := 11) (by decide +kernel) rfl trivial ?_
    obtain ⟨rfl, rfl⟩ := Prod.mk.inj (Option.some.inj hf)
    exact hm.iret (by decide +kernel)
def fX5_giving (x1 : Int32) (σ : ST) : Option (Int32 × ST) :=
  bR (fX4_has 6 x1 σ) fun a1 =>
  if a1 = 0 then
    some ((-1), σ)
  else
    bR (fX5_bringSender x1 σ) fun σ2 =>
    bR (fX1_faceOneWhoKeepsAll σ2) fun σ3 =>
    bI (fX1_wouldSend σ3) fun a4 σ4 =>
    some (a4, σ4)
set_option maxHeartbeats 4000000 in
theorem kmX5_giving (l : Launch) {x1 : Int32} {σ : ST} {r : Int32} {τ : ST} (hf : fX5_giving x1 σ = some (r, τ)) : KM l yX5_giving cX5_giving 2 (some .int) 4 82 [.ref 0, .int x1] σ (some (.int r)) τ := by
  refine KM.intro (ow := 5) (by decide +kernel) rfl (Nat.le_of_ble_eq_true rfl) (fun V hm => ?_)
  show V 0 [some (.ref 0), some (.int x1)] [] σ
  have h := hm.bd
  unfold fX5_giving at hf
  refine h.run (o := [kd 0 = 5, kd 1 = 0]) (ls' := [some (.ref 0), some (.int x1)]) (st' := [.int x1, .ref 6]) (σ' := σ) [(.aload_n 0, 1, 0, 0, 0, 0), (.getfield 10, 3, 0, 0, 5, 0), (.getfield 80, 3, 0, 0, 0, 3), (.iload_n 1, 1, 0, 0, 0, 0)] (pc2 := 8) (by decide +kernel) rfl (And.intro kd_0 (And.intro kd_1 trivial)) ?_
  obtain ⟨a1, e1, hf⟩ := bR_some hf
  refine h.callV (as := [.int x1]) (rest := []) (by decide +kernel) lk5_83 cwX4_has kd_6 (kmX4_has l kd_6 e1) rfl (Nat.le_of_ble_eq_true rfl) (Nat.le_of_ble_eq_true rfl) (Nat.le_of_ble_eq_true rfl) ?_
  show V 11 [some (.ref 0), some (.int x1)] [.int a1] σ
  refine h.if_ne (tgt := 16) (show decode cX5_giving 11 = .ok (.ifCond .ne 5, 3) by decide +kernel) (by decide) (fun c5 => ?_) (fun c5 => ?_)
  · rw [if_neg c5] at hf
    refine h.run (o := []) (ls' := [some (.ref 0), some (.int x1)]) (st' := [.int x1, .ref 0]) (σ' := σ) [(.aload_n 0, 1, 0, 0, 0, 0), (.iload_n 1, 1, 0, 0, 0, 0)] (pc2 := 18) (by decide +kernel) rfl trivial ?_
    obtain ⟨σ2, e2, hf⟩ := bR_some hf
    refine h.callV (as := [.int x1]) (rest := []) (by decide +kernel) lk5_161 cwX5_bringSender kd_0 (kmX5_bringSender l e2) rfl (Nat.le_of_ble_eq_true rfl) (Nat.le_of_ble_eq_true rfl) (Nat.le_of_ble_eq_true rfl) ?_
    show V 21 [some (.ref 0), some (.int x1)] [] σ2
    refine h.run (o := [kd 0 = 5]) (ls' := [some (.ref 0), some (.int x1)]) (st' := [.ref 3]) (σ' := σ2) [(.aload_n 0, 1, 0, 0, 0, 0), (.getfield 26, 3, 0, 0, 5, 3)] (pc2 := 25) (by decide +kernel) rfl (And.intro kd_0 trivial) ?_
    obtain ⟨σ3, e3, hf⟩ := bR_some hf
    refine h.callV (as := []) (rest := []) (by decide +kernel) lk5_164 cwX1_faceOneWhoKeepsAll kd_3 (kmX1_faceOneWhoKeepsAll l e3) rfl (Nat.le_of_ble_eq_true rfl) (Nat.le_of_ble_eq_true rfl) (Nat.le_of_ble_eq_true rfl) ?_
    show V 28 [some (.ref 0), some (.int x1)] [] σ3
    refine h.run (o := [kd 0 = 5]) (ls' := [some (.ref 0), some (.int x1)]) (st' := [.ref 3]) (σ' := σ3) [(.aload_n 0, 1, 0, 0, 0, 0), (.getfield 26, 3, 0, 0, 5, 3)] (pc2 := 32) (by decide +kernel) rfl (And.intro kd_0 trivial) ?_
    obtain ⟨a4, σ4, e4, hf⟩ := bI_some hf
    refine h.callV (as := []) (rest := []) (by decide +kernel) lk5_143 cwX1_wouldSend kd_3 (kmX1_wouldSend l e4) rfl (Nat.le_of_ble_eq_true rfl) (Nat.le_of_ble_eq_true rfl) (Nat.le_of_ble_eq_true rfl) ?_
    show V 35 [some (.ref 0), some (.int x1)] [.int a4] σ4
    obtain ⟨rfl, rfl⟩ := Prod.mk.inj (Option.some.inj hf)
    exact hm.iret (by decide +kernel)
  · rw [if_pos c5] at hf
    show V 14 [some (.ref 0), some (.int x1)] [] σ
    refine h.run (o := []) (ls' := [some (.ref 0), some (.int x1)]) (st' := [.int (-1)]) (σ' := σ) [(.iconst (-1), 1, (-1), 0, 0, 0)] (pc2 := 15) (by decide +kernel) rfl trivial ?_
    obtain ⟨rfl, rfl⟩ := Prod.mk.inj (Option.some.inj hf)
    exact hm.iret (by decide +kernel)
def fX5_best_23 (σ : ST) : Option (Int32 × ST) :=
  some ((-1), σ)
set_option maxHeartbeats 4000000 in
theorem wX5_best_23 {l : Launch} {V : Nat → List (Option Value) → List Value → ST → Prop} {r : Int32} {τ : ST} {σ : ST} (hm : BM l 5 cX5_best 7 (some .int) 3 67 (some (.int r)) τ V) (hf : fX5_best_23 σ = some (r, τ)) : V 23 [none, none, none, none, none, none, none] [] σ := by
  have h := hm.bd
  unfold fX5_best_23 at hf
  refine h.run (o := []) (ls' := [none, none, none, none, none, none, none]) (st' := [.int (-1)]) (σ' := σ) [(.iconst (-1), 1, (-1), 0, 0, 0)] (pc2 := 24) (by decide +kernel) rfl trivial ?_
  obtain ⟨rfl, rfl⟩ := Prod.mk.inj (Option.some.inj hf)
  exact hm.iret (by decide +kernel)
def fX5_best_98 (t0 : Int32) (σ : ST) : Option (Int32 × ST) :=
  some (t0, σ)
set_option maxHeartbeats 4000000 in
theorem wX5_best_98 {l : Launch} {V : Nat → List (Option Value) → List Value → ST → Prop} {r : Int32} {τ : ST} {σ : ST} {t0 : Int32} (hm : BM l 5 cX5_best 7 (some .int) 3 67 (some (.int r)) τ V) (hf : fX5_best_98 t0 σ = some (r, τ)) : V 98 [none, none, none, none, none, none, none] [.int t0] σ := by
  have h := hm.bd
  unfold fX5_best_98 at hf
  obtain ⟨rfl, rfl⟩ := Prod.mk.inj (Option.some.inj hf)
  exact hm.iret (by decide +kernel)
def fX5_best_82 (kt_45 : Int32 → Int32 → Int32 → Int32 → ST → Option (Int32 × ST)) (x2 : Int32) (x3 : Int32) (x4 : Int32) (x5 : Int32) (σ : ST) : Option (Int32 × ST) :=
  kt_45 x2 x3 x4 (x5 + 1) σ
set_option maxHeartbeats 4000000 in
theorem wX5_best_82 {l : Launch} {V : Nat → List (Option Value) → List Value → ST → Prop} {r : Int32} {τ : ST} {σ : ST} {x2 : Int32} {x3 : Int32} {x4 : Int32} {x5 : Int32} {kt_45 : Int32 → Int32 → Int32 → Int32 → ST → Option (Int32 × ST)} (hm : BM l 5 cX5_best 7 (some .int) 3 67 (some (.int r)) τ V) (hkt_45 : ∀ (x2 : Int32) (x3 : Int32) (x4 : Int32) (x5 : Int32) (σ : ST), kt_45 x2 x3 x4 x5 σ = some (r, τ) → V 45 [some (.ref 0), none, some (.int x2), some (.int x3), some (.int x4), some (.int x5), none] [] σ) (hf : fX5_best_82 kt_45 x2 x3 x4 x5 σ = some (r, τ)) : V 82 [some (.ref 0), none, some (.int x2), some (.int x3), some (.int x4), some (.int x5), none] [] σ := by
  have h := hm.bd
  unfold fX5_best_82 at hf
  refine h.run (o := []) (ls' := [some (.ref 0), none, some (.int x2), some (.int x3), some (.int x4), some (.int (x5 + 1)), none]) (st' := []) (σ' := σ) [(.iinc 5 1, 3, 1, 0, 0, 0), (.goto (-40), 3, 0, 0, 0, 45)] (pc2 := 45) (by decide +kernel) rfl trivial ?_
  exact hkt_45 x2 x3 x4 (x5 + 1) _ hf
def fX5_best_45 (n : Nat) (x2 : Int32) (x3 : Int32) (x4 : Int32) (x5 : Int32) (σ : ST) : Option (Int32 × ST) := match n with
  | 0 => none
  | n + 1 =>
    if (σ.1 1 0) < x5 then
      if x2 = 0 then
        fX5_best_98 x3 σ
      else
        fX5_best_98 x4 σ
    else
      bI (fX1_senderHasBy x5 σ) fun a2 σ2 =>
      if a2 ≤ x4 then
        fX5_best_82 (fX5_best_45 n) x2 x3 x4 x5 σ2
      else
        fX5_best_82 (fX5_best_45 n) x2 x5 a2 x5 σ2
set_option maxHeartbeats 4000000 in
theorem wX5_best_45 {l : Launch} {V : Nat → List (Option Value) → List Value → ST → Prop} {r : Int32} {τ : ST} (hm : BM l 5 cX5_best 7 (some .int) 3 67 (some (.int r)) τ V) : ∀ (n : Nat) (x2 : Int32) (x3 : Int32) (x4 : Int32) (x5 : Int32) (σ : ST), fX5_best_45 n x2 x3 x4 x5 σ = some (r, τ) → V 45 [some (.ref 0), none, some (.int x2), some (.int x3), some (.int x4), some (.int x5), none] [] σ := by
  have h := hm.bd
  intro n
  induction n with
  | zero => intro x2 x3 x4 x5 σ hf; cases hf
  | succ n ih =>
    intro x2 x3 x4 x5 σ hf
    rw [fX5_best_45] at hf
    refine h.run (o := [kd 0 = 5, kd 1 = 0]) (ls' := [some (.ref 0), none, some (.int x2), some (.int x3), some (.int x4), some (.int x5), none]) (st' := [.int (σ.1 1 0), .int x5]) (σ' := σ) [(.iload 5, 2, 0, 0, 0, 0), (.aload_n 0, 1, 0, 0, 0, 0), (.getfield 10, 3, 0, 0, 5, 0), (.getfield 107, 3, 0, 0, 0, 0)] (pc2 := 54) (by decide +kernel) rfl (And.intro kd_0 (And.intro kd_1 trivial)) ?_
    refine h.icmp_gt (tgt := 88) (show decode cX5_best 54 = .ok (.if_icmp .gt 34, 3) by decide +kernel) (by decide) (fun c4 => ?_) (fun c4 => ?_)
    · rw [if_pos c4] at hf
      refine h.run (o := []) (ls' := [some (.ref 0), none, some (.int x2), some (.int x3), some (.int x4), some (.int x5), none]) (st' := [.int x2]) (σ' := σ) [(.iload_n 2, 1, 0, 0, 0, 0)] (pc2 := 89) (by decide +kernel) rfl trivial ?_
      refine h.if_ne (tgt := 96) (show decode cX5_best 89 = .ok (.ifCond .ne 7, 3) by decide +kernel) (by decide) (fun c1 => ?_) (fun c1 => ?_)
      · rw [if_neg c1] at hf
        refine h.run (o := []) (ls' := [some (.ref 0), none, some (.int x2), some (.int x3), some (.int x4), some (.int x5), none]) (st' := [.int x4]) (σ' := σ) [(.iload 4, 2, 0, 0, 0, 0)] (pc2 := 98) (by decide +kernel) rfl trivial ?_
        refine h.drop (ls' := [none, none, none, none, none, none, none]) trivial ?_
        exact wX5_best_98 hm hf
      · rw [if_pos c1] at hf
        show V 92 [some (.ref 0), none, some (.int x2), some (.int x3), some (.int x4), some (.int x5), none] [] σ
        refine h.run (o := []) (ls' := [some (.ref 0), none, some (.int x2), some (.int x3), some (.int x4), some (.int x5), none]) (st' := [.int x3]) (σ' := σ) [(.iload_n 3, 1, 0, 0, 0, 0), (.goto 5, 3, 0, 0, 0, 98)] (pc2 := 98) (by decide +kernel) rfl trivial ?_
        refine h.drop (ls' := [none, none, none, none, none, none, none]) trivial ?_
        exact wX5_best_98 hm hf
    · rw [if_neg c4] at hf
      show V 57 [some (.ref 0), none, some (.int x2), some (.int x3), some (.int x4), some (.int x5), none] [] σ
      refine h.run (o := [kd 0 = 5]) (ls' := [some (.ref 0), none, some (.int x2), some (.int x3), some (.int x4), some (.int x5), none]) (st' := [.int x5, .ref 3]) (σ' := σ) [(.aload_n 0, 1, 0, 0, 0, 0), (.getfield 26, 3, 0, 0, 5, 3), (.iload 5, 2, 0, 0, 0, 0)] (pc2 := 63) (by decide +kernel) rfl (And.intro kd_0 trivial) ?_
      obtain ⟨a2, σ2, e2, hf⟩ := bI_some hf
      refine h.callV (as := [.int x5]) (rest := []) (by decide +kernel) lk5_167 cwX1_senderHasBy kd_3 (kmX1_senderHasBy l e2) rfl (Nat.le_of_ble_eq_true rfl) (Nat.le_of_ble_eq_true rfl) (Nat.le_of_ble_eq_true rfl) ?_
      show V 66 [some (.ref 0), none, some (.int x2), some (.int x3), some (.int x4), some (.int x5), none] [.int a2] σ2
      refine h.run (o := []) (ls' := [some (.ref 0), none, some (.int x2), some (.int x3), some (.int x4), some (.int x5), some (.int a2)]) (st' := [.int x4, .int a2]) (σ' := σ2) [(.istore 6, 2, 0, 0, 0, 0), (.iload 6, 2, 0, 0, 0, 0), (.iload 4, 2, 0, 0, 0, 0)] (pc2 := 72) (by decide +kernel) rfl trivial ?_
      refine h.icmp_le (tgt := 82) (show decode cX5_best 72 = .ok (.if_icmp .le 10, 3) by decide +kernel) (by decide) (fun c3 => ?_) (fun c3 => ?_)
      · rw [if_pos c3] at hf
        refine h.drop (ls' := [some (.ref 0), none, some (.int x2), some (.int x3), some (.int x4), some (.int x5), none]) (And.intro rfl (And.intro rfl (And.intro rfl (And.intro rfl (And.intro rfl trivial))))) ?_
        exact wX5_best_82 hm ih hf
      · rw [if_neg c3] at hf
        show V 75 [some (.ref 0), none, some (.int x2), some (.int x3), some (.int x4), some (.int x5), some (.int a2)] [] σ2
        refine h.run (o := []) (ls' := [some (.ref 0), none, some (.int x2), some (.int x5), some (.int a2), some (.int x5), some (.int a2)]) (st' := []) (σ' := σ2) [(.iload 6, 2, 0, 0, 0, 0), (.istore 4, 2, 0, 0, 0, 0), (.iload 5, 2, 0, 0, 0, 0), (.istore_n 3, 1, 0, 0, 0, 0)] (pc2 := 82) (by decide +kernel) rfl trivial ?_
        refine h.drop (ls' := [some (.ref 0), none, some (.int x2), some (.int x5), some (.int a2), some (.int x5), none]) (And.intro rfl (And.intro rfl (And.intro rfl (And.intro rfl (And.intro rfl trivial))))) ?_
        exact wX5_best_82 hm ih hf
def fX5_best (x1 : Int32) (x2 : Int32) (σ : ST) : Option (Int32 × ST) :=
  bR (fX4_has 8 x1 σ) fun a1 =>
  if a1 = 0 then
    fX5_best_23 σ
  else
    if x2 < 0 then
      fX5_best_23 σ
    else
      if x2 ≤ 1 then
        bR (fX5_bringReturner x1 σ) fun σ2 =>
        bI (fX1_senderHasBy 0 σ2) fun a3 σ3 =>
        fX5_best_45 FU x2 0 a3 1 σ3
      else
        fX5_best_23 σ
set_option maxHeartbeats 4000000 in
theorem kmX5_best (l : Launch) {x1 : Int32} {x2 : Int32} {σ : ST} {r : Int32} {τ : ST} (hf : fX5_best x1 x2 σ = some (r, τ)) : KM l yX5_best cX5_best 7 (some .int) 3 67 [.ref 0, .int x1, .int x2] σ (some (.int r)) τ := by
  refine KM.intro (ow := 5) (by decide +kernel) rfl (Nat.le_of_ble_eq_true rfl) (fun V hm => ?_)
  show V 0 [some (.ref 0), some (.int x1), some (.int x2), none, none, none, none] [] σ
  have h := hm.bd
  unfold fX5_best at hf
  refine h.run (o := [kd 0 = 5, kd 1 = 0]) (ls' := [some (.ref 0), some (.int x1), some (.int x2), none, none, none, none]) (st' := [.int x1, .ref 8]) (σ' := σ) [(.aload_n 0, 1, 0, 0, 0, 0), (.getfield 10, 3, 0, 0, 5, 0), (.getfield 91, 3, 0, 0, 0, 4), (.iload_n 1, 1, 0, 0, 0, 0)] (pc2 := 8) (by decide +kernel) rfl (And.intro kd_0 (And.intro kd_1 trivial)) ?_
  obtain ⟨a1, e1, hf⟩ := bR_some hf
  refine h.callV (as := [.int x1]) (rest := []) (by decide +kernel) lk5_83 cwX4_has kd_8 (kmX4_has l kd_8 e1) rfl (Nat.le_of_ble_eq_true rfl) (Nat.le_of_ble_eq_true rfl) (Nat.le_of_ble_eq_true rfl) ?_
  show V 11 [some (.ref 0), some (.int x1), some (.int x2), none, none, none, none] [.int a1] σ
  refine h.if_eq (tgt := 23) (show decode cX5_best 11 = .ok (.ifCond .eq 12, 3) by decide +kernel) (by decide) (fun c6 => ?_) (fun c6 => ?_)
  · rw [if_pos c6] at hf
    refine h.drop (ls' := [none, none, none, none, none, none, none]) trivial ?_
    exact wX5_best_23 hm hf
  · rw [if_neg c6] at hf
    show V 14 [some (.ref 0), some (.int x1), some (.int x2), none, none, none, none] [] σ
    refine h.run (o := []) (ls' := [some (.ref 0), some (.int x1), some (.int x2), none, none, none, none]) (st' := [.int x2]) (σ' := σ) [(.iload_n 2, 1, 0, 0, 0, 0)] (pc2 := 15) (by decide +kernel) rfl trivial ?_
    refine h.if_lt (tgt := 23) (show decode cX5_best 15 = .ok (.ifCond .lt 8, 3) by decide +kernel) (by decide) (fun c5 => ?_) (fun c5 => ?_)
    · rw [if_pos c5] at hf
      refine h.drop (ls' := [none, none, none, none, none, none, none]) trivial ?_
      exact wX5_best_23 hm hf
    · rw [if_neg c5] at hf
      show V 18 [some (.ref 0), some (.int x1), some (.int x2), none, none, none, none] [] σ
      refine h.run (o := []) (ls' := [some (.ref 0), some (.int x1), some (.int x2), none, none, none, none]) (st' := [.int 1, .int x2]) (σ' := σ) [(.iload_n 2, 1, 0, 0, 0, 0), (.iconst 1, 1, 1, 0, 0, 0)] (pc2 := 20) (by decide +kernel) rfl trivial ?_
      refine h.icmp_le (tgt := 25) (show decode cX5_best 20 = .ok (.if_icmp .le 5, 3) by decide +kernel) (by decide) (fun c4 => ?_) (fun c4 => ?_)
      · rw [if_pos c4] at hf
        refine h.run (o := []) (ls' := [some (.ref 0), some (.int x1), some (.int x2), none, none, none, none]) (st' := [.int x1, .ref 0]) (σ' := σ) [(.aload_n 0, 1, 0, 0, 0, 0), (.iload_n 1, 1, 0, 0, 0, 0)] (pc2 := 27) (by decide +kernel) rfl trivial ?_
        obtain ⟨σ2, e2, hf⟩ := bR_some hf
        refine h.callV (as := [.int x1]) (rest := []) (by decide +kernel) lk5_146 cwX5_bringReturner kd_0 (kmX5_bringReturner l e2) rfl (Nat.le_of_ble_eq_true rfl) (Nat.le_of_ble_eq_true rfl) (Nat.le_of_ble_eq_true rfl) ?_
        show V 30 [some (.ref 0), some (.int x1), some (.int x2), none, none, none, none] [] σ2
        refine h.run (o := [kd 0 = 5]) (ls' := [some (.ref 0), some (.int x1), some (.int x2), some (.int 0), none, none, none]) (st' := [.int 0, .ref 3]) (σ' := σ2) [(.iconst 0, 1, 0, 0, 0, 0), (.istore_n 3, 1, 0, 0, 0, 0), (.aload_n 0, 1, 0, 0, 0, 0), (.getfield 26, 3, 0, 0, 5, 3), (.iconst 0, 1, 0, 0, 0, 0)] (pc2 := 37) (by decide +kernel) rfl (And.intro kd_0 trivial) ?_
        obtain ⟨a3, σ3, e3, hf⟩ := bI_some hf
        refine h.callV (as := [.int 0]) (rest := []) (by decide +kernel) lk5_167 cwX1_senderHasBy kd_3 (kmX1_senderHasBy l e3) rfl (Nat.le_of_ble_eq_true rfl) (Nat.le_of_ble_eq_true rfl) (Nat.le_of_ble_eq_true rfl) ?_
        show V 40 [some (.ref 0), some (.int x1), some (.int x2), some (.int 0), none, none, none] [.int a3] σ3
        refine h.run (o := []) (ls' := [some (.ref 0), some (.int x1), some (.int x2), some (.int 0), some (.int a3), some (.int 1), none]) (st' := []) (σ' := σ3) [(.istore 4, 2, 0, 0, 0, 0), (.iconst 1, 1, 1, 0, 0, 0), (.istore 5, 2, 0, 0, 0, 0)] (pc2 := 45) (by decide +kernel) rfl trivial ?_
        refine h.drop (ls' := [some (.ref 0), none, some (.int x2), some (.int 0), some (.int a3), some (.int 1), none]) (And.intro rfl (And.intro rfl (And.intro rfl (And.intro rfl (And.intro rfl trivial))))) ?_
        exact wX5_best_45 hm FU x2 0 a3 1 _ hf
      · rw [if_neg c4] at hf
        show V 23 [some (.ref 0), some (.int x1), some (.int x2), none, none, none, none] [] σ
        refine h.drop (ls' := [none, none, none, none, none, none, none]) trivial ?_
        exact wX5_best_23 hm hf
end
section
/-! Printed by wip/whole/prt.py: functions and walks. -/
def fX5_worth_20 (σ : ST) : Option (Int32 × ST) :=
  some ((-1000000001), σ)
set_option maxHeartbeats 4000000 in
theorem wX5_worth_20 {l : Launch} {V : Nat → List (Option Value) → List Value → ST → Prop} {r : Int32} {τ : ST} {σ : ST} (hm : BM l 5 cX5_worth 5 (some .int) 5 114 (some (.int r)) τ V) (hf : fX5_worth_20 σ = some (r, τ)) : V 20 [none, none, none, none, none] [] σ := by
  have h := hm.bd
  unfold fX5_worth_20 at hf
  refine h.run (o := []) (ls' := [none, none, none, none, none]) (st' := [.int (-1000000001)]) (σ' := σ) [(.ldc 153, 2, (-1000000001), 0, 0, 0)] (pc2 := 22) (by decide +kernel) rfl trivial ?_
  obtain ⟨rfl, rfl⟩ := Prod.mk.inj (Option.some.inj hf)
  exact hm.iret (by decide +kernel)
def fX5_worth (x1 : Int32) (x2 : Int32) (x3 : Int32) (σ : ST) : Option (Int32 × ST) :=
  bR (fX5_areThere x1 x2 σ) fun a1 =>
  if a1 = 0 then
    fX5_worth_20 σ
  else
    if x3 < 1 then
      fX5_worth_20 σ
    else
      if x3 ≤ 20 then
        bR (fX5_bring x1 x2 σ) fun σ2 =>
        bI (fX1_keptOver x3 σ2) fun a3 σ3 =>
        bR (fX5_bring x1 x2 σ3) fun σ4 =>
        bI (fX1_keptOver x3 (setI σ4 3 7 0)) fun a5 σ5 =>
        some (a3 - a5, σ5)
      else
        fX5_worth_20 σ
set_option maxHeartbeats 4000000 in
theorem kmX5_worth (l : Launch) {x1 : Int32} {x2 : Int32} {x3 : Int32} {σ : ST} {r : Int32} {τ : ST} (hf : fX5_worth x1 x2 x3 σ = some (r, τ)) : KM l yX5_worth cX5_worth 5 (some .int) 5 114 [.ref 0, .int x1, .int x2, .int x3] σ (some (.int r)) τ := by
  refine KM.intro (ow := 5) (by decide +kernel) rfl (Nat.le_of_ble_eq_true rfl) (fun V hm => ?_)
  show V 0 [some (.ref 0), some (.int x1), some (.int x2), some (.int x3), none] [] σ
  have h := hm.bd
  unfold fX5_worth at hf
  refine h.run (o := []) (ls' := [some (.ref 0), some (.int x1), some (.int x2), some (.int x3), none]) (st' := [.int x2, .int x1, .ref 0]) (σ' := σ) [(.aload_n 0, 1, 0, 0, 0, 0), (.iload_n 1, 1, 0, 0, 0, 0), (.iload_n 2, 1, 0, 0, 0, 0)] (pc2 := 3) (by decide +kernel) rfl trivial ?_
  obtain ⟨a1, e1, hf⟩ := bR_some hf
  refine h.callV (as := [.int x1, .int x2]) (rest := []) (by decide +kernel) lk5_117 cwX5_areThere kd_0 (kmX5_areThere l e1) rfl (Nat.le_of_ble_eq_true rfl) (Nat.le_of_ble_eq_true rfl) (Nat.le_of_ble_eq_true rfl) ?_
  show V 6 [some (.ref 0), some (.int x1), some (.int x2), some (.int x3), none] [.int a1] σ
  refine h.if_eq (tgt := 20) (show decode cX5_worth 6 = .ok (.ifCond .eq 14, 3) by decide +kernel) (by decide) (fun c8 => ?_) (fun c8 => ?_)
  · rw [if_pos c8] at hf
    refine h.drop (ls' := [none, none, none, none, none]) trivial ?_
    exact wX5_worth_20 hm hf
  · rw [if_neg c8] at hf
    show V 9 [some (.ref 0), some (.int x1), some (.int x2), some (.int x3), none] [] σ
    refine h.run (o := []) (ls' := [some (.ref 0), some (.int x1), some (.int x2), some (.int x3), none]) (st' := [.int 1, .int x3]) (σ' := σ) [(.iload_n 3, 1, 0, 0, 0, 0), (.iconst 1, 1, 1, 0, 0, 0)] (pc2 := 11) (by decide +kernel) rfl trivial ?_
    refine h.icmp_lt (tgt := 20) (show decode cX5_worth 11 = .ok (.if_icmp .lt 9, 3) by decide +kernel) (by decide) (fun c7 => ?_) (fun c7 => ?_)
    · rw [if_pos c7] at hf
      refine h.drop (ls' := [none, none, none, none, none]) trivial ?_
      exact wX5_worth_20 hm hf
    · rw [if_neg c7] at hf
      show V 14 [some (.ref 0), some (.int x1), some (.int x2), some (.int x3), none] [] σ
      refine h.run (o := []) (ls' := [some (.ref 0), some (.int x1), some (.int x2), some (.int x3), none]) (st' := [.int 20, .int x3]) (σ' := σ) [(.iload_n 3, 1, 0, 0, 0, 0), (.bipush 20, 2, 20, 0, 0, 0)] (pc2 := 17) (by decide +kernel) rfl trivial ?_
      refine h.icmp_le (tgt := 23) (show decode cX5_worth 17 = .ok (.if_icmp .le 6, 3) by decide +kernel) (by decide) (fun c6 => ?_) (fun c6 => ?_)
      · rw [if_pos c6] at hf
        refine h.run (o := []) (ls' := [some (.ref 0), some (.int x1), some (.int x2), some (.int x3), none]) (st' := [.int x2, .int x1, .ref 0]) (σ' := σ) [(.aload_n 0, 1, 0, 0, 0, 0), (.iload_n 1, 1, 0, 0, 0, 0), (.iload_n 2, 1, 0, 0, 0, 0)] (pc2 := 26) (by decide +kernel) rfl trivial ?_
        obtain ⟨σ2, e2, hf⟩ := bR_some hf
        refine h.callV (as := [.int x1, .int x2]) (rest := []) (by decide +kernel) lk5_139 cwX5_bring kd_0 (kmX5_bring l e2) rfl (Nat.le_of_ble_eq_true rfl) (Nat.le_of_ble_eq_true rfl) (Nat.le_of_ble_eq_true rfl) ?_
        show V 29 [some (.ref 0), some (.int x1), some (.int x2), some (.int x3), none] [] σ2
        refine h.run (o := [kd 0 = 5]) (ls' := [some (.ref 0), some (.int x1), some (.int x2), some (.int x3), none]) (st' := [.int x3, .ref 3]) (σ' := σ2) [(.aload_n 0, 1, 0, 0, 0, 0), (.getfield 26, 3, 0, 0, 5, 3), (.iload_n 3, 1, 0, 0, 0, 0)] (pc2 := 34) (by decide +kernel) rfl (And.intro kd_0 trivial) ?_
        obtain ⟨a3, σ3, e3, hf⟩ := bI_some hf
        refine h.callV (as := [.int x3]) (rest := []) (by decide +kernel) lk5_170 cwX1_keptOver kd_3 (kmX1_keptOver l e3) rfl (Nat.le_of_ble_eq_true rfl) (Nat.le_of_ble_eq_true rfl) (Nat.le_of_ble_eq_true rfl) ?_
        show V 37 [some (.ref 0), some (.int x1), some (.int x2), some (.int x3), none] [.int a3] σ3
        refine h.run (o := []) (ls' := [some (.ref 0), some (.int x1), some (.int x2), some (.int x3), some (.int a3)]) (st' := [.int x2, .int x1, .ref 0]) (σ' := σ3) [(.istore 4, 2, 0, 0, 0, 0), (.aload_n 0, 1, 0, 0, 0, 0), (.iload_n 1, 1, 0, 0, 0, 0), (.iload_n 2, 1, 0, 0, 0, 0)] (pc2 := 42) (by decide +kernel) rfl trivial ?_
        obtain ⟨σ4, e4, hf⟩ := bR_some hf
        refine h.callV (as := [.int x1, .int x2]) (rest := []) (by decide +kernel) lk5_139 cwX5_bring kd_0 (kmX5_bring l e4) rfl (Nat.le_of_ble_eq_true rfl) (Nat.le_of_ble_eq_true rfl) (Nat.le_of_ble_eq_true rfl) ?_
        show V 45 [some (.ref 0), some (.int x1), some (.int x2), some (.int x3), some (.int a3)] [] σ4
        refine h.run (o := [kd 0 = 5, kd 3 = 1, kd 0 = 5]) (ls' := [some (.ref 0), some (.int x1), some (.int x2), some (.int x3), some (.int a3)]) (st' := [.int x3, .ref 3, .int a3]) (σ' := setI σ4 3 7 0) [(.aload_n 0, 1, 0, 0, 0, 0), (.getfield 26, 3, 0, 0, 5, 3), (.iconst 0, 1, 0, 0, 0, 0), (.putfield 173, 3, 0, 0, 1, 7), (.iload 4, 2, 0, 0, 0, 0), (.aload_n 0, 1, 0, 0, 0, 0), (.getfield 26, 3, 0, 0, 5, 3), (.iload_n 3, 1, 0, 0, 0, 0)] (pc2 := 60) (by decide +kernel) rfl (And.intro kd_0 (And.intro kd_3 (And.intro kd_0 trivial))) ?_
        obtain ⟨a5, σ5, e5, hf⟩ := bI_some hf
        refine h.callV (as := [.int x3]) (rest := [.int a3]) (by decide +kernel) lk5_170 cwX1_keptOver kd_3 (kmX1_keptOver l e5) rfl (Nat.le_of_ble_eq_true rfl) (Nat.le_of_ble_eq_true rfl) (Nat.le_of_ble_eq_true rfl) ?_
        show V 63 [some (.ref 0), some (.int x1), some (.int x2), some (.int x3), some (.int a3)] [.int a5, .int a3] σ5
        refine h.run (o := []) (ls' := [some (.ref 0), some (.int x1), some (.int x2), some (.int x3), some (.int a3)]) (st' := [.int (a3 - a5)]) (σ' := σ5) [(.isub, 1, 0, 0, 0, 0)] (pc2 := 64) (by decide +kernel) rfl trivial ?_
        obtain ⟨rfl, rfl⟩ := Prod.mk.inj (Option.some.inj hf)
        exact hm.iret (by decide +kernel)
      · rw [if_neg c6] at hf
        show V 20 [some (.ref 0), some (.int x1), some (.int x2), some (.int x3), none] [] σ
        refine h.drop (ls' := [none, none, none, none, none]) trivial ?_
        exact wX5_worth_20 hm hf
def fX5_promise_19 (σ : ST) : Option (Int32 × ST) :=
  some ((-1000000001), σ)
set_option maxHeartbeats 4000000 in
theorem wX5_promise_19 {l : Launch} {V : Nat → List (Option Value) → List Value → ST → Prop} {r : Int32} {τ : ST} {σ : ST} (hm : BM l 5 cX5_promise 5 (some .int) 5 114 (some (.int r)) τ V) (hf : fX5_promise_19 σ = some (r, τ)) : V 19 [none, none, none, none, none] [] σ := by
  have h := hm.bd
  unfold fX5_promise_19 at hf
  refine h.run (o := []) (ls' := [none, none, none, none, none]) (st' := [.int (-1000000001)]) (σ' := σ) [(.ldc 153, 2, (-1000000001), 0, 0, 0)] (pc2 := 21) (by decide +kernel) rfl trivial ?_
  obtain ⟨rfl, rfl⟩ := Prod.mk.inj (Option.some.inj hf)
  exact hm.iret (by decide +kernel)
def fX5_promise (x1 : Int32) (x2 : Int32) (x3 : Int32) (σ : ST) : Option (Int32 × ST) :=
  bR (fX5_areThere x1 x2 σ) fun a1 =>
  if a1 = 0 then
    fX5_promise_19 σ
  else
    if x3 < 0 then
      fX5_promise_19 σ
    else
      if x3 ≤ 100 then
        bR (fX5_bring x1 x2 σ) fun σ2 =>
        bI (fX1_wouldSend (setI σ2 3 10 x3)) fun a3 σ3 =>
        bI (fX1_wouldSend (setI σ3 3 10 0)) fun a4 σ4 =>
        some (a3 - a4, σ4)
      else
        fX5_promise_19 σ
set_option maxHeartbeats 4000000 in
theorem kmX5_promise (l : Launch) {x1 : Int32} {x2 : Int32} {x3 : Int32} {σ : ST} {r : Int32} {τ : ST} (hf : fX5_promise x1 x2 x3 σ = some (r, τ)) : KM l yX5_promise cX5_promise 5 (some .int) 5 114 [.ref 0, .int x1, .int x2, .int x3] σ (some (.int r)) τ := by
  refine KM.intro (ow := 5) (by decide +kernel) rfl (Nat.le_of_ble_eq_true rfl) (fun V hm => ?_)
  show V 0 [some (.ref 0), some (.int x1), some (.int x2), some (.int x3), none] [] σ
  have h := hm.bd
  unfold fX5_promise at hf
  refine h.run (o := []) (ls' := [some (.ref 0), some (.int x1), some (.int x2), some (.int x3), none]) (st' := [.int x2, .int x1, .ref 0]) (σ' := σ) [(.aload_n 0, 1, 0, 0, 0, 0), (.iload_n 1, 1, 0, 0, 0, 0), (.iload_n 2, 1, 0, 0, 0, 0)] (pc2 := 3) (by decide +kernel) rfl trivial ?_
  obtain ⟨a1, e1, hf⟩ := bR_some hf
  refine h.callV (as := [.int x1, .int x2]) (rest := []) (by decide +kernel) lk5_117 cwX5_areThere kd_0 (kmX5_areThere l e1) rfl (Nat.le_of_ble_eq_true rfl) (Nat.le_of_ble_eq_true rfl) (Nat.le_of_ble_eq_true rfl) ?_
  show V 6 [some (.ref 0), some (.int x1), some (.int x2), some (.int x3), none] [.int a1] σ
  refine h.if_eq (tgt := 19) (show decode cX5_promise 6 = .ok (.ifCond .eq 13, 3) by decide +kernel) (by decide) (fun c7 => ?_) (fun c7 => ?_)
  · rw [if_pos c7] at hf
    refine h.drop (ls' := [none, none, none, none, none]) trivial ?_
    exact wX5_promise_19 hm hf
  · rw [if_neg c7] at hf
    show V 9 [some (.ref 0), some (.int x1), some (.int x2), some (.int x3), none] [] σ
    refine h.run (o := []) (ls' := [some (.ref 0), some (.int x1), some (.int x2), some (.int x3), none]) (st' := [.int x3]) (σ' := σ) [(.iload_n 3, 1, 0, 0, 0, 0)] (pc2 := 10) (by decide +kernel) rfl trivial ?_
    refine h.if_lt (tgt := 19) (show decode cX5_promise 10 = .ok (.ifCond .lt 9, 3) by decide +kernel) (by decide) (fun c6 => ?_) (fun c6 => ?_)
    · rw [if_pos c6] at hf
      refine h.drop (ls' := [none, none, none, none, none]) trivial ?_
      exact wX5_promise_19 hm hf
    · rw [if_neg c6] at hf
      show V 13 [some (.ref 0), some (.int x1), some (.int x2), some (.int x3), none] [] σ
      refine h.run (o := []) (ls' := [some (.ref 0), some (.int x1), some (.int x2), some (.int x3), none]) (st' := [.int 100, .int x3]) (σ' := σ) [(.iload_n 3, 1, 0, 0, 0, 0), (.bipush 100, 2, 100, 0, 0, 0)] (pc2 := 16) (by decide +kernel) rfl trivial ?_
      refine h.icmp_le (tgt := 22) (show decode cX5_promise 16 = .ok (.if_icmp .le 6, 3) by decide +kernel) (by decide) (fun c5 => ?_) (fun c5 => ?_)
      · rw [if_pos c5] at hf
        refine h.run (o := []) (ls' := [some (.ref 0), some (.int x1), some (.int x2), some (.int x3), none]) (st' := [.int x2, .int x1, .ref 0]) (σ' := σ) [(.aload_n 0, 1, 0, 0, 0, 0), (.iload_n 1, 1, 0, 0, 0, 0), (.iload_n 2, 1, 0, 0, 0, 0)] (pc2 := 25) (by decide +kernel) rfl trivial ?_
        obtain ⟨σ2, e2, hf⟩ := bR_some hf
        refine h.callV (as := [.int x1, .int x2]) (rest := []) (by decide +kernel) lk5_139 cwX5_bring kd_0 (kmX5_bring l e2) rfl (Nat.le_of_ble_eq_true rfl) (Nat.le_of_ble_eq_true rfl) (Nat.le_of_ble_eq_true rfl) ?_
        show V 28 [some (.ref 0), some (.int x1), some (.int x2), some (.int x3), none] [] σ2
        refine h.run (o := [kd 0 = 5, kd 3 = 1, kd 0 = 5]) (ls' := [some (.ref 0), some (.int x1), some (.int x2), some (.int x3), none]) (st' := [.ref 3]) (σ' := setI σ2 3 10 x3) [(.aload_n 0, 1, 0, 0, 0, 0), (.getfield 26, 3, 0, 0, 5, 3), (.iload_n 3, 1, 0, 0, 0, 0), (.putfield 176, 3, 0, 0, 1, 10), (.aload_n 0, 1, 0, 0, 0, 0), (.getfield 26, 3, 0, 0, 5, 3)] (pc2 := 40) (by decide +kernel) rfl (And.intro kd_0 (And.intro kd_3 (And.intro kd_0 trivial))) ?_
        obtain ⟨a3, σ3, e3, hf⟩ := bI_some hf
        refine h.callV (as := []) (rest := []) (by decide +kernel) lk5_143 cwX1_wouldSend kd_3 (kmX1_wouldSend l e3) rfl (Nat.le_of_ble_eq_true rfl) (Nat.le_of_ble_eq_true rfl) (Nat.le_of_ble_eq_true rfl) ?_
        show V 43 [some (.ref 0), some (.int x1), some (.int x2), some (.int x3), none] [.int a3] σ3
        refine h.run (o := [kd 0 = 5, kd 3 = 1, kd 0 = 5]) (ls' := [some (.ref 0), some (.int x1), some (.int x2), some (.int x3), some (.int a3)]) (st' := [.ref 3, .int a3]) (σ' := setI σ3 3 10 0) [(.istore 4, 2, 0, 0, 0, 0), (.aload_n 0, 1, 0, 0, 0, 0), (.getfield 26, 3, 0, 0, 5, 3), (.iconst 0, 1, 0, 0, 0, 0), (.putfield 176, 3, 0, 0, 1, 10), (.iload 4, 2, 0, 0, 0, 0), (.aload_n 0, 1, 0, 0, 0, 0), (.getfield 26, 3, 0, 0, 5, 3)] (pc2 := 59) (by decide +kernel) rfl (And.intro kd_0 (And.intro kd_3 (And.intro kd_0 trivial))) ?_
        obtain ⟨a4, σ4, e4, hf⟩ := bI_some hf
        refine h.callV (as := []) (rest := [.int a3]) (by decide +kernel) lk5_143 cwX1_wouldSend kd_3 (kmX1_wouldSend l e4) rfl (Nat.le_of_ble_eq_true rfl) (Nat.le_of_ble_eq_true rfl) (Nat.le_of_ble_eq_true rfl) ?_
        show V 62 [some (.ref 0), some (.int x1), some (.int x2), some (.int x3), some (.int a3)] [.int a4, .int a3] σ4
        refine h.run (o := []) (ls' := [some (.ref 0), some (.int x1), some (.int x2), some (.int x3), some (.int a3)]) (st' := [.int (a3 - a4)]) (σ' := σ4) [(.isub, 1, 0, 0, 0, 0)] (pc2 := 63) (by decide +kernel) rfl trivial ?_
        obtain ⟨rfl, rfl⟩ := Prod.mk.inj (Option.some.inj hf)
        exact hm.iret (by decide +kernel)
      · rw [if_neg c5] at hf
        show V 19 [some (.ref 0), some (.int x1), some (.int x2), some (.int x3), none] [] σ
        refine h.drop (ls' := [none, none, none, none, none]) trivial ?_
        exact wX5_promise_19 hm hf
def fX5_lastTurn_30 (σ : ST) : Option Int32 :=
  some (-1)
set_option maxHeartbeats 4000000 in
theorem wX5_lastTurn_30 {l : Launch} {V : Nat → List (Option Value) → List Value → ST → Prop} {r : Int32} {σ : ST} (hm : BM l 5 cX5_lastTurn 9 (some .int) 0 0 (some (.int r)) σ V) (hf : fX5_lastTurn_30 σ = some r) : V 30 [none, none, none, none, none, none, none, none, none] [] σ := by
  have h := hm.bd
  unfold fX5_lastTurn_30 at hf
  refine h.run (o := []) (ls' := [none, none, none, none, none, none, none, none, none]) (st' := [.int (-1)]) (σ' := σ) [(.iconst (-1), 1, (-1), 0, 0, 0)] (pc2 := 31) (by decide +kernel) rfl trivial ?_
  obtain rfl := Option.some.inj hf
  exact hm.iret (by decide +kernel)
def fX5_lastTurn_135 (t0 : Int32) (σ : ST) : Option Int32 :=
  some t0
set_option maxHeartbeats 4000000 in
theorem wX5_lastTurn_135 {l : Launch} {V : Nat → List (Option Value) → List Value → ST → Prop} {r : Int32} {σ : ST} {t0 : Int32} (hm : BM l 5 cX5_lastTurn 9 (some .int) 0 0 (some (.int r)) σ V) (hf : fX5_lastTurn_135 t0 σ = some r) : V 135 [none, none, none, none, none, none, none, none, none] [.int t0] σ := by
  have h := hm.bd
  unfold fX5_lastTurn_135 at hf
  obtain rfl := Option.some.inj hf
  exact hm.iret (by decide +kernel)
def fX5_lastTurn_118 (kt_62 : Int32 → Int32 → Int32 → Int32 → Int32 → Int32 → Option Int32) (x2 : Int32) (x3 : Int32) (x4 : Int32) (x5 : Int32) (x6 : Int32) (x7 : Int32) (σ : ST) : Option Int32 :=
  kt_62 x2 x3 x4 x5 x6 (x7 + (-1))
set_option maxHeartbeats 4000000 in
theorem wX5_lastTurn_118 {l : Launch} {V : Nat → List (Option Value) → List Value → ST → Prop} {r : Int32} {σ : ST} {x2 : Int32} {x3 : Int32} {x4 : Int32} {x5 : Int32} {x6 : Int32} {x7 : Int32} {kt_62 : Int32 → Int32 → Int32 → Int32 → Int32 → Int32 → Option Int32} (hm : BM l 5 cX5_lastTurn 9 (some .int) 0 0 (some (.int r)) σ V) (hkt_62 : ∀ (x2 : Int32) (x3 : Int32) (x4 : Int32) (x5 : Int32) (x6 : Int32) (x7 : Int32), kt_62 x2 x3 x4 x5 x6 x7 = some r → V 62 [some (.ref 0), none, some (.int x2), some (.int x3), some (.int x4), some (.int x5), some (.int x6), some (.int x7), none] [] σ) (hf : fX5_lastTurn_118 kt_62 x2 x3 x4 x5 x6 x7 σ = some r) : V 118 [some (.ref 0), none, some (.int x2), some (.int x3), some (.int x4), some (.int x5), some (.int x6), some (.int x7), none] [] σ := by
  have h := hm.bd
  unfold fX5_lastTurn_118 at hf
  refine h.run (o := []) (ls' := [some (.ref 0), none, some (.int x2), some (.int x3), some (.int x4), some (.int x5), some (.int x6), some (.int (x7 + (-1))), none]) (st' := []) (σ' := σ) [(.iinc 7 (-1), 3, (-1), 0, 0, 0), (.goto (-59), 3, 0, 0, 0, 62)] (pc2 := 62) (by decide +kernel) rfl trivial ?_
  exact hkt_62 x2 x3 x4 x5 x6 (x7 + (-1)) hf
def fX5_lastTurn_79 (kt_62 : Int32 → Int32 → Int32 → Int32 → Int32 → Int32 → Option Int32) (x2 : Int32) (x3 : Int32) (x4 : Int32) (x5 : Int32) (x6 : Int32) (x7 : Int32) (t0 : Int32) (σ : ST) : Option Int32 :=
  if t0 ≤ (σ.1 1 0) then
    fX5_lastTurn_118 kt_62 x2 x3 x4 x5 (x6 + (σ.1 1 0)) x7 σ
  else
    fX5_lastTurn_118 kt_62 x2 x3 x4 (x5 + 1) (x6 + t0) x7 σ
set_option maxHeartbeats 4000000 in
theorem wX5_lastTurn_79 {l : Launch} {V : Nat → List (Option Value) → List Value → ST → Prop} {r : Int32} {σ : ST} {x2 : Int32} {x3 : Int32} {x4 : Int32} {x5 : Int32} {x6 : Int32} {x7 : Int32} {t0 : Int32} {kt_62 : Int32 → Int32 → Int32 → Int32 → Int32 → Int32 → Option Int32} (hm : BM l 5 cX5_lastTurn 9 (some .int) 0 0 (some (.int r)) σ V) (hkt_62 : ∀ (x2 : Int32) (x3 : Int32) (x4 : Int32) (x5 : Int32) (x6 : Int32) (x7 : Int32), kt_62 x2 x3 x4 x5 x6 x7 = some r → V 62 [some (.ref 0), none, some (.int x2), some (.int x3), some (.int x4), some (.int x5), some (.int x6), some (.int x7), none] [] σ) (hf : fX5_lastTurn_79 kt_62 x2 x3 x4 x5 x6 x7 t0 σ = some r) : V 79 [some (.ref 0), none, some (.int x2), some (.int x3), some (.int x4), some (.int x5), some (.int x6), some (.int x7), none] [.int t0] σ := by
  have h := hm.bd
  unfold fX5_lastTurn_79 at hf
  refine h.run (o := [kd 0 = 5, kd 1 = 0]) (ls' := [some (.ref 0), none, some (.int x2), some (.int x3), some (.int x4), some (.int x5), some (.int x6), some (.int x7), some (.int t0)]) (st' := [.int (σ.1 1 0), .int t0]) (σ' := σ) [(.istore 8, 2, 0, 0, 0, 0), (.iload 8, 2, 0, 0, 0, 0), (.aload_n 0, 1, 0, 0, 0, 0), (.getfield 10, 3, 0, 0, 5, 0), (.getfield 107, 3, 0, 0, 0, 0)] (pc2 := 90) (by decide +kernel) rfl (And.intro kd_0 (And.intro kd_1 trivial)) ?_
  refine h.icmp_le (tgt := 106) (show decode cX5_lastTurn 90 = .ok (.if_icmp .le 16, 3) by decide +kernel) (by decide) (fun c1 => ?_) (fun c1 => ?_)
  · rw [if_pos c1] at hf
    refine h.run (o := [kd 0 = 5, kd 1 = 0]) (ls' := [some (.ref 0), none, some (.int x2), some (.int x3), some (.int x4), some (.int x5), some (.int (x6 + (σ.1 1 0))), some (.int x7), some (.int t0)]) (st' := []) (σ' := σ) [(.iload 6, 2, 0, 0, 0, 0), (.aload_n 0, 1, 0, 0, 0, 0), (.getfield 10, 3, 0, 0, 5, 0), (.getfield 107, 3, 0, 0, 0, 0), (.iadd, 1, 0, 0, 0, 0), (.istore 6, 2, 0, 0, 0, 0)] (pc2 := 118) (by decide +kernel) rfl (And.intro kd_0 (And.intro kd_1 trivial)) ?_
    refine h.drop (ls' := [some (.ref 0), none, some (.int x2), some (.int x3), some (.int x4), some (.int x5), some (.int (x6 + (σ.1 1 0))), some (.int x7), none]) (And.intro rfl (And.intro rfl (And.intro rfl (And.intro rfl (And.intro rfl (And.intro rfl (And.intro rfl trivial))))))) ?_
    exact wX5_lastTurn_118 hm hkt_62 hf
  · rw [if_neg c1] at hf
    show V 93 [some (.ref 0), none, some (.int x2), some (.int x3), some (.int x4), some (.int x5), some (.int x6), some (.int x7), some (.int t0)] [] σ
    refine h.run (o := []) (ls' := [some (.ref 0), none, some (.int x2), some (.int x3), some (.int x4), some (.int (x5 + 1)), some (.int (x6 + t0)), some (.int x7), some (.int t0)]) (st' := []) (σ' := σ) [(.iinc 5 1, 3, 1, 0, 0, 0), (.iload 6, 2, 0, 0, 0, 0), (.iload 8, 2, 0, 0, 0, 0), (.iadd, 1, 0, 0, 0, 0), (.istore 6, 2, 0, 0, 0, 0), (.goto 15, 3, 0, 0, 0, 118)] (pc2 := 118) (by decide +kernel) rfl trivial ?_
    refine h.drop (ls' := [some (.ref 0), none, some (.int x2), some (.int x3), some (.int x4), some (.int (x5 + 1)), some (.int (x6 + t0)), some (.int x7), none]) (And.intro rfl (And.intro rfl (And.intro rfl (And.intro rfl (And.intro rfl (And.intro rfl (And.intro rfl trivial))))))) ?_
    exact wX5_lastTurn_118 hm hkt_62 hf
def fX5_lastTurn_62 (σ : ST) (n : Nat) (x2 : Int32) (x3 : Int32) (x4 : Int32) (x5 : Int32) (x6 : Int32) (x7 : Int32) : Option Int32 := match n with
  | 0 => none
  | n + 1 =>
    if x7 < 0 then
      if x3 = 0 then
        fX5_lastTurn_135 x5 σ
      else
        fX5_lastTurn_135 x6 σ
    else
      if x7 < x2 then
        fX5_lastTurn_79 (fX5_lastTurn_62 σ n) x2 x3 x4 x5 x6 x7 0 σ
      else
        fX5_lastTurn_79 (fX5_lastTurn_62 σ n) x2 x3 x4 x5 x6 x7 x4 σ
set_option maxHeartbeats 4000000 in
theorem wX5_lastTurn_62 {l : Launch} {V : Nat → List (Option Value) → List Value → ST → Prop} {r : Int32} {σ : ST} (hm : BM l 5 cX5_lastTurn 9 (some .int) 0 0 (some (.int r)) σ V) : ∀ (n : Nat) (x2 : Int32) (x3 : Int32) (x4 : Int32) (x5 : Int32) (x6 : Int32) (x7 : Int32), fX5_lastTurn_62 σ n x2 x3 x4 x5 x6 x7 = some r → V 62 [some (.ref 0), none, some (.int x2), some (.int x3), some (.int x4), some (.int x5), some (.int x6), some (.int x7), none] [] σ := by
  have h := hm.bd
  intro n
  induction n with
  | zero => intro x2 x3 x4 x5 x6 x7 hf; cases hf
  | succ n ih =>
    intro x2 x3 x4 x5 x6 x7 hf
    rw [fX5_lastTurn_62] at hf
    refine h.run (o := []) (ls' := [some (.ref 0), none, some (.int x2), some (.int x3), some (.int x4), some (.int x5), some (.int x6), some (.int x7), none]) (st' := [.int x7]) (σ' := σ) [(.iload 7, 2, 0, 0, 0, 0)] (pc2 := 64) (by decide +kernel) rfl trivial ?_
    refine h.if_lt (tgt := 124) (show decode cX5_lastTurn 64 = .ok (.ifCond .lt 60, 3) by decide +kernel) (by decide) (fun c3 => ?_) (fun c3 => ?_)
    · rw [if_pos c3] at hf
      refine h.run (o := []) (ls' := [some (.ref 0), none, some (.int x2), some (.int x3), some (.int x4), some (.int x5), some (.int x6), some (.int x7), none]) (st' := [.int x3]) (σ' := σ) [(.iload_n 3, 1, 0, 0, 0, 0)] (pc2 := 125) (by decide +kernel) rfl trivial ?_
      refine h.if_ne (tgt := 133) (show decode cX5_lastTurn 125 = .ok (.ifCond .ne 8, 3) by decide +kernel) (by decide) (fun c1 => ?_) (fun c1 => ?_)
      · rw [if_neg c1] at hf
        refine h.run (o := []) (ls' := [some (.ref 0), none, some (.int x2), some (.int x3), some (.int x4), some (.int x5), some (.int x6), some (.int x7), none]) (st' := [.int x6]) (σ' := σ) [(.iload 6, 2, 0, 0, 0, 0)] (pc2 := 135) (by decide +kernel) rfl trivial ?_
        refine h.drop (ls' := [none, none, none, none, none, none, none, none, none]) trivial ?_
        exact wX5_lastTurn_135 hm hf
      · rw [if_pos c1] at hf
        show V 128 [some (.ref 0), none, some (.int x2), some (.int x3), some (.int x4), some (.int x5), some (.int x6), some (.int x7), none] [] σ
        refine h.run (o := []) (ls' := [some (.ref 0), none, some (.int x2), some (.int x3), some (.int x4), some (.int x5), some (.int x6), some (.int x7), none]) (st' := [.int x5]) (σ' := σ) [(.iload 5, 2, 0, 0, 0, 0), (.goto 5, 3, 0, 0, 0, 135)] (pc2 := 135) (by decide +kernel) rfl trivial ?_
        refine h.drop (ls' := [none, none, none, none, none, none, none, none, none]) trivial ?_
        exact wX5_lastTurn_135 hm hf
    · rw [if_neg c3] at hf
      show V 67 [some (.ref 0), none, some (.int x2), some (.int x3), some (.int x4), some (.int x5), some (.int x6), some (.int x7), none] [] σ
      refine h.run (o := []) (ls' := [some (.ref 0), none, some (.int x2), some (.int x3), some (.int x4), some (.int x5), some (.int x6), some (.int x7), none]) (st' := [.int x2, .int x7]) (σ' := σ) [(.iload 7, 2, 0, 0, 0, 0), (.iload_n 2, 1, 0, 0, 0, 0)] (pc2 := 70) (by decide +kernel) rfl trivial ?_
      refine h.icmp_lt (tgt := 78) (show decode cX5_lastTurn 70 = .ok (.if_icmp .lt 8, 3) by decide +kernel) (by decide) (fun c2 => ?_) (fun c2 => ?_)
      · rw [if_pos c2] at hf
        refine h.run (o := []) (ls' := [some (.ref 0), none, some (.int x2), some (.int x3), some (.int x4), some (.int x5), some (.int x6), some (.int x7), none]) (st' := [.int 0]) (σ' := σ) [(.iconst 0, 1, 0, 0, 0, 0)] (pc2 := 79) (by decide +kernel) rfl trivial ?_
        exact wX5_lastTurn_79 hm ih hf
      · rw [if_neg c2] at hf
        show V 73 [some (.ref 0), none, some (.int x2), some (.int x3), some (.int x4), some (.int x5), some (.int x6), some (.int x7), none] [] σ
        refine h.run (o := []) (ls' := [some (.ref 0), none, some (.int x2), some (.int x3), some (.int x4), some (.int x5), some (.int x6), some (.int x7), none]) (st' := [.int x4]) (σ' := σ) [(.iload 4, 2, 0, 0, 0, 0), (.goto 4, 3, 0, 0, 0, 79)] (pc2 := 79) (by decide +kernel) rfl trivial ?_
        exact wX5_lastTurn_79 hm ih hf
def fX5_lastTurn (x1 : Int32) (x2 : Int32) (x3 : Int32) (σ : ST) : Option Int32 :=
  if x1 < 1 then
    fX5_lastTurn_30 σ
  else
    if 12 < x1 then
      fX5_lastTurn_30 σ
    else
      if x2 < 0 then
        fX5_lastTurn_30 σ
      else
        if 12 < x2 then
          fX5_lastTurn_30 σ
        else
          if x3 < 0 then
            fX5_lastTurn_30 σ
          else
            if x3 ≤ 1 then
              fX5_lastTurn_62 σ FU x2 x3 (((σ.1 1 0) * (σ.1 1 1)) / 2) 0 0 (x1 - 1)
            else
              fX5_lastTurn_30 σ
set_option maxHeartbeats 4000000 in
theorem kmX5_lastTurn (l : Launch) {x1 : Int32} {x2 : Int32} {x3 : Int32} {σ : ST} {r : Int32} (hf : fX5_lastTurn x1 x2 x3 σ = some r) : KM l yX5_lastTurn cX5_lastTurn 9 (some .int) 0 0 [.ref 0, .int x1, .int x2, .int x3] σ (some (.int r)) σ := by
  refine KM.intro (ow := 5) (by decide +kernel) rfl (Nat.le_of_ble_eq_true rfl) (fun V hm => ?_)
  show V 0 [some (.ref 0), some (.int x1), some (.int x2), some (.int x3), none, none, none, none, none] [] σ
  have h := hm.bd
  unfold fX5_lastTurn at hf
  refine h.run (o := []) (ls' := [some (.ref 0), some (.int x1), some (.int x2), some (.int x3), none, none, none, none, none]) (st' := [.int 1, .int x1]) (σ' := σ) [(.iload_n 1, 1, 0, 0, 0, 0), (.iconst 1, 1, 1, 0, 0, 0)] (pc2 := 2) (by decide +kernel) rfl trivial ?_
  refine h.icmp_lt (tgt := 30) (show decode cX5_lastTurn 2 = .ok (.if_icmp .lt 28, 3) by decide +kernel) (by decide) (fun c6 => ?_) (fun c6 => ?_)
  · rw [if_pos c6] at hf
    refine h.drop (ls' := [none, none, none, none, none, none, none, none, none]) trivial ?_
    exact wX5_lastTurn_30 hm hf
  · rw [if_neg c6] at hf
    show V 5 [some (.ref 0), some (.int x1), some (.int x2), some (.int x3), none, none, none, none, none] [] σ
    refine h.run (o := []) (ls' := [some (.ref 0), some (.int x1), some (.int x2), some (.int x3), none, none, none, none, none]) (st' := [.int 12, .int x1]) (σ' := σ) [(.iload_n 1, 1, 0, 0, 0, 0), (.bipush 12, 2, 12, 0, 0, 0)] (pc2 := 8) (by decide +kernel) rfl trivial ?_
    refine h.icmp_gt (tgt := 30) (show decode cX5_lastTurn 8 = .ok (.if_icmp .gt 22, 3) by decide +kernel) (by decide) (fun c5 => ?_) (fun c5 => ?_)
    · rw [if_pos c5] at hf
      refine h.drop (ls' := [none, none, none, none, none, none, none, none, none]) trivial ?_
      exact wX5_lastTurn_30 hm hf
    · rw [if_neg c5] at hf
      show V 11 [some (.ref 0), some (.int x1), some (.int x2), some (.int x3), none, none, none, none, none] [] σ
      refine h.run (o := []) (ls' := [some (.ref 0), some (.int x1), some (.int x2), some (.int x3), none, none, none, none, none]) (st' := [.int x2]) (σ' := σ) [(.iload_n 2, 1, 0, 0, 0, 0)] (pc2 := 12) (by decide +kernel) rfl trivial ?_
      refine h.if_lt (tgt := 30) (show decode cX5_lastTurn 12 = .ok (.ifCond .lt 18, 3) by decide +kernel) (by decide) (fun c4 => ?_) (fun c4 => ?_)
      · rw [if_pos c4] at hf
        refine h.drop (ls' := [none, none, none, none, none, none, none, none, none]) trivial ?_
        exact wX5_lastTurn_30 hm hf
      · rw [if_neg c4] at hf
        show V 15 [some (.ref 0), some (.int x1), some (.int x2), some (.int x3), none, none, none, none, none] [] σ
        refine h.run (o := []) (ls' := [some (.ref 0), some (.int x1), some (.int x2), some (.int x3), none, none, none, none, none]) (st' := [.int 12, .int x2]) (σ' := σ) [(.iload_n 2, 1, 0, 0, 0, 0), (.bipush 12, 2, 12, 0, 0, 0)] (pc2 := 18) (by decide +kernel) rfl trivial ?_
        refine h.icmp_gt (tgt := 30) (show decode cX5_lastTurn 18 = .ok (.if_icmp .gt 12, 3) by decide +kernel) (by decide) (fun c3 => ?_) (fun c3 => ?_)
        · rw [if_pos c3] at hf
          refine h.drop (ls' := [none, none, none, none, none, none, none, none, none]) trivial ?_
          exact wX5_lastTurn_30 hm hf
        · rw [if_neg c3] at hf
          show V 21 [some (.ref 0), some (.int x1), some (.int x2), some (.int x3), none, none, none, none, none] [] σ
          refine h.run (o := []) (ls' := [some (.ref 0), some (.int x1), some (.int x2), some (.int x3), none, none, none, none, none]) (st' := [.int x3]) (σ' := σ) [(.iload_n 3, 1, 0, 0, 0, 0)] (pc2 := 22) (by decide +kernel) rfl trivial ?_
          refine h.if_lt (tgt := 30) (show decode cX5_lastTurn 22 = .ok (.ifCond .lt 8, 3) by decide +kernel) (by decide) (fun c2 => ?_) (fun c2 => ?_)
          · rw [if_pos c2] at hf
            refine h.drop (ls' := [none, none, none, none, none, none, none, none, none]) trivial ?_
            exact wX5_lastTurn_30 hm hf
          · rw [if_neg c2] at hf
            show V 25 [some (.ref 0), some (.int x1), some (.int x2), some (.int x3), none, none, none, none, none] [] σ
            refine h.run (o := []) (ls' := [some (.ref 0), some (.int x1), some (.int x2), some (.int x3), none, none, none, none, none]) (st' := [.int 1, .int x3]) (σ' := σ) [(.iload_n 3, 1, 0, 0, 0, 0), (.iconst 1, 1, 1, 0, 0, 0)] (pc2 := 27) (by decide +kernel) rfl trivial ?_
            refine h.icmp_le (tgt := 32) (show decode cX5_lastTurn 27 = .ok (.if_icmp .le 5, 3) by decide +kernel) (by decide) (fun c1 => ?_) (fun c1 => ?_)
            · rw [if_pos c1] at hf
              refine h.run (o := [kd 0 = 5, kd 1 = 0, kd 0 = 5, kd 1 = 0, ¬ 2 = 0]) (ls' := [some (.ref 0), some (.int x1), some (.int x2), some (.int x3), some (.int (((σ.1 1 0) * (σ.1 1 1)) / 2)), some (.int 0), some (.int 0), some (.int (x1 - 1)), none]) (st' := []) (σ' := σ) [(.aload_n 0, 1, 0, 0, 0, 0), (.getfield 10, 3, 0, 0, 5, 0), (.getfield 107, 3, 0, 0, 0, 0), (.aload_n 0, 1, 0, 0, 0, 0), (.getfield 10, 3, 0, 0, 5, 0), (.getfield 110, 3, 0, 0, 0, 1), (.imul, 1, 0, 0, 0, 0), (.iconst 2, 1, 2, 0, 0, 0), (.idiv, 1, 0, 0, 0, 0), (.istore 4, 2, 0, 0, 0, 0), (.iconst 0, 1, 0, 0, 0, 0), (.istore 5, 2, 0, 0, 0, 0), (.iconst 0, 1, 0, 0, 0, 0), (.istore 6, 2, 0, 0, 0, 0), (.iload_n 1, 1, 0, 0, 0, 0), (.iconst 1, 1, 1, 0, 0, 0), (.isub, 1, 0, 0, 0, 0), (.istore 7, 2, 0, 0, 0, 0)] (pc2 := 62) (by decide +kernel) rfl (And.intro kd_0 (And.intro kd_1 (And.intro kd_0 (And.intro kd_1 (And.intro (by decide) trivial))))) ?_
              refine h.drop (ls' := [some (.ref 0), none, some (.int x2), some (.int x3), some (.int (((σ.1 1 0) * (σ.1 1 1)) / 2)), some (.int 0), some (.int 0), some (.int (x1 - 1)), none]) (And.intro rfl (And.intro rfl (And.intro rfl (And.intro rfl (And.intro rfl (And.intro rfl (And.intro rfl trivial))))))) ?_
              exact wX5_lastTurn_62 hm FU x2 x3 (((σ.1 1 0) * (σ.1 1 1)) / 2) 0 0 (x1 - 1) hf
            · rw [if_neg c1] at hf
              show V 30 [some (.ref 0), some (.int x1), some (.int x2), some (.int x3), none, none, none, none, none] [] σ
              refine h.drop (ls' := [none, none, none, none, none, none, none, none, none]) trivial ?_
              exact wX5_lastTurn_30 hm hf
def fX5_refusalAsRows_14 (σ : ST) : Option Int32 :=
  some (-11)
set_option maxHeartbeats 4000000 in
theorem wX5_refusalAsRows_14 {l : Launch} {V : Nat → List (Option Value) → List Value → ST → Prop} {r : Int32} {σ : ST} (hm : BM l 5 cX5_refusalAsRows 2 (some .int) 0 0 (some (.int r)) σ V) (hf : fX5_refusalAsRows_14 σ = some r) : V 14 [none, none] [] σ := by
  have h := hm.bd
  unfold fX5_refusalAsRows_14 at hf
  refine h.run (o := []) (ls' := [none, none]) (st' := [.int (-11)]) (σ' := σ) [(.bipush (-11), 2, (-11), 0, 0, 0)] (pc2 := 16) (by decide +kernel) rfl trivial ?_
  obtain rfl := Option.some.inj hf
  exact hm.iret (by decide +kernel)
def fX5_refusalAsRows_39 (t0 : Int32) (σ : ST) : Option Int32 :=
  some t0
set_option maxHeartbeats 4000000 in
theorem wX5_refusalAsRows_39 {l : Launch} {V : Nat → List (Option Value) → List Value → ST → Prop} {r : Int32} {σ : ST} {t0 : Int32} (hm : BM l 5 cX5_refusalAsRows 2 (some .int) 0 0 (some (.int r)) σ V) (hf : fX5_refusalAsRows_39 t0 σ = some r) : V 39 [none, none] [.int t0] σ := by
  have h := hm.bd
  unfold fX5_refusalAsRows_39 at hf
  obtain rfl := Option.some.inj hf
  exact hm.iret (by decide +kernel)
def fX5_refusalAsRows_33 (σ : ST) : Option Int32 :=
  fX5_refusalAsRows_39 (-12) σ
set_option maxHeartbeats 4000000 in
theorem wX5_refusalAsRows_33 {l : Launch} {V : Nat → List (Option Value) → List Value → ST → Prop} {r : Int32} {σ : ST} (hm : BM l 5 cX5_refusalAsRows 2 (some .int) 0 0 (some (.int r)) σ V) (hf : fX5_refusalAsRows_33 σ = some r) : V 33 [none, none] [] σ := by
  have h := hm.bd
  unfold fX5_refusalAsRows_33 at hf
  refine h.run (o := []) (ls' := [none, none]) (st' := [.int (-12)]) (σ' := σ) [(.bipush (-12), 2, (-12), 0, 0, 0), (.goto 4, 3, 0, 0, 0, 39)] (pc2 := 39) (by decide +kernel) rfl trivial ?_
  exact wX5_refusalAsRows_39 hm hf
def fX5_refusalAsRows (k0 : Nat) (k1 : Nat) (σ : ST) : Option Int32 :=
  if (σ.1 k0 0) = 0 then
    fX5_refusalAsRows_14 σ
  else
    if (σ.1 k1 0) = 0 then
      fX5_refusalAsRows_14 σ
    else
      if (σ.1 k0 0) = 2 then
        if (σ.1 k1 0) = 2 then
          fX5_refusalAsRows_39 0 σ
        else
          fX5_refusalAsRows_33 σ
      else
        fX5_refusalAsRows_33 σ
set_option maxHeartbeats 4000000 in
theorem kmX5_refusalAsRows (l : Launch) {k0 : Nat} {k1 : Nat} {σ : ST} {r : Int32} (hk0 : kd k0 = 3) (hk1 : kd k1 = 3) (hf : fX5_refusalAsRows k0 k1 σ = some r) : KM l yX5_refusalAsRows cX5_refusalAsRows 2 (some .int) 0 0 [.ref k0, .ref k1] σ (some (.int r)) σ := by
  refine KM.intro (ow := 5) (by decide +kernel) rfl (Nat.le_of_ble_eq_true rfl) (fun V hm => ?_)
  show V 0 [some (.ref k0), some (.ref k1)] [] σ
  have h := hm.bd
  unfold fX5_refusalAsRows at hf
  refine h.run (o := [kd k0 = 3]) (ls' := [some (.ref k0), some (.ref k1)]) (st' := [.int (σ.1 k0 0)]) (σ' := σ) [(.aload_n 0, 1, 0, 0, 0, 0), (.getfield 204, 3, 0, 0, 3, 0)] (pc2 := 4) (by decide +kernel) rfl (And.intro hk0 trivial) ?_
  refine h.if_eq (tgt := 14) (show decode cX5_refusalAsRows 4 = .ok (.ifCond .eq 10, 3) by decide +kernel) (by decide) (fun c4 => ?_) (fun c4 => ?_)
  · rw [if_pos c4] at hf
    refine h.drop (ls' := [none, none]) trivial ?_
    exact wX5_refusalAsRows_14 hm hf
  · rw [if_neg c4] at hf
    show V 7 [some (.ref k0), some (.ref k1)] [] σ
    refine h.run (o := [kd k1 = 3]) (ls' := [some (.ref k0), some (.ref k1)]) (st' := [.int (σ.1 k1 0)]) (σ' := σ) [(.aload_n 1, 1, 0, 0, 0, 0), (.getfield 204, 3, 0, 0, 3, 0)] (pc2 := 11) (by decide +kernel) rfl (And.intro hk1 trivial) ?_
    refine h.if_ne (tgt := 17) (show decode cX5_refusalAsRows 11 = .ok (.ifCond .ne 6, 3) by decide +kernel) (by decide) (fun c3 => ?_) (fun c3 => ?_)
    · rw [if_neg c3] at hf
      refine h.run (o := [kd k0 = 3]) (ls' := [some (.ref k0), some (.ref k1)]) (st' := [.int 2, .int (σ.1 k0 0)]) (σ' := σ) [(.aload_n 0, 1, 0, 0, 0, 0), (.getfield 204, 3, 0, 0, 3, 0), (.iconst 2, 1, 2, 0, 0, 0)] (pc2 := 22) (by decide +kernel) rfl (And.intro hk0 trivial) ?_
      refine h.icmp_ne (tgt := 33) (show decode cX5_refusalAsRows 22 = .ok (.if_icmp .ne 11, 3) by decide +kernel) (by decide) (fun c2 => ?_) (fun c2 => ?_)
      · rw [if_neg c2] at hf
        refine h.drop (ls' := [none, none]) trivial ?_
        exact wX5_refusalAsRows_33 hm hf
      · rw [if_pos c2] at hf
        show V 25 [some (.ref k0), some (.ref k1)] [] σ
        refine h.run (o := [kd k1 = 3]) (ls' := [some (.ref k0), some (.ref k1)]) (st' := [.int 2, .int (σ.1 k1 0)]) (σ' := σ) [(.aload_n 1, 1, 0, 0, 0, 0), (.getfield 204, 3, 0, 0, 3, 0), (.iconst 2, 1, 2, 0, 0, 0)] (pc2 := 30) (by decide +kernel) rfl (And.intro hk1 trivial) ?_
        refine h.icmp_eq (tgt := 38) (show decode cX5_refusalAsRows 30 = .ok (.if_icmp .eq 8, 3) by decide +kernel) (by decide) (fun c1 => ?_) (fun c1 => ?_)
        · rw [if_pos c1] at hf
          refine h.run (o := []) (ls' := [some (.ref k0), some (.ref k1)]) (st' := [.int 0]) (σ' := σ) [(.iconst 0, 1, 0, 0, 0, 0)] (pc2 := 39) (by decide +kernel) rfl trivial ?_
          refine h.drop (ls' := [none, none]) trivial ?_
          exact wX5_refusalAsRows_39 hm hf
        · rw [if_neg c1] at hf
          show V 33 [some (.ref k0), some (.ref k1)] [] σ
          refine h.drop (ls' := [none, none]) trivial ?_
          exact wX5_refusalAsRows_33 hm hf
    · rw [if_pos c3] at hf
      show V 14 [some (.ref k0), some (.ref k1)] [] σ
      refine h.drop (ls' := [none, none]) trivial ?_
      exact wX5_refusalAsRows_14 hm hf
def fX5_lands_22 (σ : ST) : Option Int32 :=
  some (-1000000001)
set_option maxHeartbeats 4000000 in
theorem wX5_lands_22 {l : Launch} {V : Nat → List (Option Value) → List Value → ST → Prop} {r : Int32} {σ : ST} (hm : BM l 5 cX5_lands 6 (some .int) 3 65 (some (.int r)) σ V) (hf : fX5_lands_22 σ = some r) : V 22 [none, none, none, none, none, none] [] σ := by
  have h := hm.bd
  unfold fX5_lands_22 at hf
  refine h.run (o := []) (ls' := [none, none, none, none, none, none]) (st' := [.int (-1000000001)]) (σ' := σ) [(.ldc 153, 2, (-1000000001), 0, 0, 0)] (pc2 := 24) (by decide +kernel) rfl trivial ?_
  obtain rfl := Option.some.inj hf
  exact hm.iret (by decide +kernel)
def fX5_lands_73 (σ : ST) : Option Int32 :=
  some (-1000000013)
set_option maxHeartbeats 4000000 in
theorem wX5_lands_73 {l : Launch} {V : Nat → List (Option Value) → List Value → ST → Prop} {r : Int32} {σ : ST} (hm : BM l 5 cX5_lands 6 (some .int) 3 65 (some (.int r)) σ V) (hf : fX5_lands_73 σ = some r) : V 73 [none, none, none, none, none, none] [] σ := by
  have h := hm.bd
  unfold fX5_lands_73 at hf
  refine h.run (o := []) (ls' := [none, none, none, none, none, none]) (st' := [.int (-1000000013)]) (σ' := σ) [(.ldc 187, 2, (-1000000013), 0, 0, 0)] (pc2 := 75) (by decide +kernel) rfl trivial ?_
  obtain rfl := Option.some.inj hf
  exact hm.iret (by decide +kernel)
def fX5_lands (x1 : Int32) (x2 : Int32) (σ : ST) : Option Int32 :=
  bR (fX5_shelfAt x1 σ) fun o1 =>
  match o1 with
  | none =>
    bR (fX5_shelfAt x2 σ) fun o2 =>
    match o2 with
    | none =>
      fX5_lands_22 σ
    | some s2 =>
      fX5_lands_22 σ
  | some s1 =>
    bR (fX5_shelfAt x2 σ) fun o3 =>
    match o3 with
    | none =>
      fX5_lands_22 σ
    | some s3 =>
      bR (fX5_refusalAsRows s1 s3 σ) fun a4 =>
      if a4 = 0 then
        bR (fX3_isOfSendings s1 (σ.1 1 0) σ) fun a5 =>
        if a5 = 0 then
          fX5_lands_73 σ
        else
          bR (fX3_isOfSendings s3 (σ.1 1 0) σ) fun a6 =>
          if a6 = 0 then
            fX5_lands_73 σ
          else
            bR (fX3_sum s1 σ) fun a7 =>
            bR (fX3_sum s3 σ) fun a8 =>
            some ((a7 * (σ.1 s3 6)) - (a8 * (σ.1 s1 6)))
      else
        some ((-1000000000) + a4)
set_option maxHeartbeats 4000000 in
theorem kmX5_lands (l : Launch) {x1 : Int32} {x2 : Int32} {σ : ST} {r : Int32} (hf : fX5_lands x1 x2 σ = some r) : KM l yX5_lands cX5_lands 6 (some .int) 3 65 [.ref 0, .int x1, .int x2] σ (some (.int r)) σ := by
  refine KM.intro (ow := 5) (by decide +kernel) rfl (Nat.le_of_ble_eq_true rfl) (fun V hm => ?_)
  show V 0 [some (.ref 0), some (.int x1), some (.int x2), none, none, none] [] σ
  have h := hm.bd
  unfold fX5_lands at hf
  refine h.run (o := []) (ls' := [some (.ref 0), some (.int x1), some (.int x2), none, none, none]) (st' := [.int x1, .ref 0]) (σ' := σ) [(.aload_n 0, 1, 0, 0, 0, 0), (.iload_n 1, 1, 0, 0, 0, 0)] (pc2 := 2) (by decide +kernel) rfl trivial ?_
  obtain ⟨o1, e1, hf⟩ := bR_some hf
  refine h.callV (as := [.int x1]) (rest := []) (by decide +kernel) lk5_44 cwX5_shelfAt kd_0 (kmX5_shelfAt l e1) rfl (Nat.le_of_ble_eq_true rfl) (Nat.le_of_ble_eq_true rfl) (Nat.le_of_ble_eq_true rfl) ?_
  cases o1 with
  | none =>
    dsimp only at hf
    show V 5 [some (.ref 0), some (.int x1), some (.int x2), none, none, none] [.null] σ
    refine h.run (o := []) (ls' := [some (.ref 0), some (.int x1), some (.int x2), some (.null), none, none]) (st' := [.int x2, .ref 0]) (σ' := σ) [(.astore_n 3, 1, 0, 0, 0, 0), (.aload_n 0, 1, 0, 0, 0, 0), (.iload_n 2, 1, 0, 0, 0, 0)] (pc2 := 8) (by decide +kernel) rfl trivial ?_
    obtain ⟨o2, e2, hf⟩ := bR_some hf
    refine h.callV (as := [.int x2]) (rest := []) (by decide +kernel) lk5_44 cwX5_shelfAt kd_0 (kmX5_shelfAt l e2) rfl (Nat.le_of_ble_eq_true rfl) (Nat.le_of_ble_eq_true rfl) (Nat.le_of_ble_eq_true rfl) ?_
    cases o2 with
    | none =>
      dsimp only at hf
      show V 11 [some (.ref 0), some (.int x1), some (.int x2), some (.null), none, none] [.null] σ
      refine h.run (o := []) (ls' := [some (.ref 0), some (.int x1), some (.int x2), some (.null), some (.null), none]) (st' := [.null]) (σ' := σ) [(.astore 4, 2, 0, 0, 0, 0), (.aload_n 3, 1, 0, 0, 0, 0)] (pc2 := 14) (by decide +kernel) rfl trivial ?_
      refine h.ifnullN (show decode cX5_lands 14 = .ok (.ifnull 8, 3) by decide +kernel) (tgt := 22) (by decide) ?_
      refine h.drop (ls' := [none, none, none, none, none, none]) trivial ?_
      exact wX5_lands_22 hm hf
    | some s2 =>
      dsimp only at hf
      have hs2 : kd s2 = 3 := shelfAt_kd e2
      show V 11 [some (.ref 0), some (.int x1), some (.int x2), some (.null), none, none] [.ref s2] σ
      refine h.run (o := []) (ls' := [some (.ref 0), some (.int x1), some (.int x2), some (.null), some (.ref s2), none]) (st' := [.null]) (σ' := σ) [(.astore 4, 2, 0, 0, 0, 0), (.aload_n 3, 1, 0, 0, 0, 0)] (pc2 := 14) (by decide +kernel) rfl trivial ?_
      refine h.ifnullN (show decode cX5_lands 14 = .ok (.ifnull 8, 3) by decide +kernel) (tgt := 22) (by decide) ?_
      refine h.drop (ls' := [none, none, none, none, none, none]) trivial ?_
      exact wX5_lands_22 hm hf
  | some s1 =>
    dsimp only at hf
    have hs1 : kd s1 = 3 := shelfAt_kd e1
    show V 5 [some (.ref 0), some (.int x1), some (.int x2), none, none, none] [.ref s1] σ
    refine h.run (o := []) (ls' := [some (.ref 0), some (.int x1), some (.int x2), some (.ref s1), none, none]) (st' := [.int x2, .ref 0]) (σ' := σ) [(.astore_n 3, 1, 0, 0, 0, 0), (.aload_n 0, 1, 0, 0, 0, 0), (.iload_n 2, 1, 0, 0, 0, 0)] (pc2 := 8) (by decide +kernel) rfl trivial ?_
    obtain ⟨o3, e3, hf⟩ := bR_some hf
    refine h.callV (as := [.int x2]) (rest := []) (by decide +kernel) lk5_44 cwX5_shelfAt kd_0 (kmX5_shelfAt l e3) rfl (Nat.le_of_ble_eq_true rfl) (Nat.le_of_ble_eq_true rfl) (Nat.le_of_ble_eq_true rfl) ?_
    cases o3 with
    | none =>
      dsimp only at hf
      show V 11 [some (.ref 0), some (.int x1), some (.int x2), some (.ref s1), none, none] [.null] σ
      refine h.run (o := []) (ls' := [some (.ref 0), some (.int x1), some (.int x2), some (.ref s1), some (.null), none]) (st' := [.ref s1]) (σ' := σ) [(.astore 4, 2, 0, 0, 0, 0), (.aload_n 3, 1, 0, 0, 0, 0)] (pc2 := 14) (by decide +kernel) rfl trivial ?_
      refine h.ifnull (show decode cX5_lands 14 = .ok (.ifnull 8, 3) by decide +kernel) ?_
      show V 17 [some (.ref 0), some (.int x1), some (.int x2), some (.ref s1), some (.null), none] [] σ
      refine h.run (o := []) (ls' := [some (.ref 0), some (.int x1), some (.int x2), some (.ref s1), some (.null), none]) (st' := [.null]) (σ' := σ) [(.aload 4, 2, 0, 0, 0, 0)] (pc2 := 19) (by decide +kernel) rfl trivial ?_
      refine h.ifnonnullN (show decode cX5_lands 19 = .ok (.ifnonnull 6, 3) by decide +kernel) ?_
      show V 22 [some (.ref 0), some (.int x1), some (.int x2), some (.ref s1), some (.null), none] [] σ
      refine h.drop (ls' := [none, none, none, none, none, none]) trivial ?_
      exact wX5_lands_22 hm hf
    | some s3 =>
      dsimp only at hf
      have hs3 : kd s3 = 3 := shelfAt_kd e3
      show V 11 [some (.ref 0), some (.int x1), some (.int x2), some (.ref s1), none, none] [.ref s3] σ
      refine h.run (o := []) (ls' := [some (.ref 0), some (.int x1), some (.int x2), some (.ref s1), some (.ref s3), none]) (st' := [.ref s1]) (σ' := σ) [(.astore 4, 2, 0, 0, 0, 0), (.aload_n 3, 1, 0, 0, 0, 0)] (pc2 := 14) (by decide +kernel) rfl trivial ?_
      refine h.ifnull (show decode cX5_lands 14 = .ok (.ifnull 8, 3) by decide +kernel) ?_
      show V 17 [some (.ref 0), some (.int x1), some (.int x2), some (.ref s1), some (.ref s3), none] [] σ
      refine h.run (o := []) (ls' := [some (.ref 0), some (.int x1), some (.int x2), some (.ref s1), some (.ref s3), none]) (st' := [.ref s3]) (σ' := σ) [(.aload 4, 2, 0, 0, 0, 0)] (pc2 := 19) (by decide +kernel) rfl trivial ?_
      refine h.ifnonnull (show decode cX5_lands 19 = .ok (.ifnonnull 6, 3) by decide +kernel) (tgt := 25) (by decide) ?_
      refine h.run (o := []) (ls' := [some (.ref 0), some (.int x1), some (.int x2), some (.ref s1), some (.ref s3), none]) (st' := [.ref s3, .ref s1]) (σ' := σ) [(.aload_n 3, 1, 0, 0, 0, 0), (.aload 4, 2, 0, 0, 0, 0)] (pc2 := 28) (by decide +kernel) rfl trivial ?_
      obtain ⟨a4, e4, hf⟩ := bR_some hf
      refine h.callS (as := [.ref s1, .ref s3]) (rest := []) (by decide +kernel) lk5_179 cwX5_refusalAsRows (kmX5_refusalAsRows l hs1 hs3 e4) rfl (Nat.le_of_ble_eq_true rfl) (Nat.le_of_ble_eq_true rfl) (Nat.le_of_ble_eq_true rfl) ?_
      show V 31 [some (.ref 0), some (.int x1), some (.int x2), some (.ref s1), some (.ref s3), none] [.int a4] σ
      refine h.run (o := []) (ls' := [some (.ref 0), some (.int x1), some (.int x2), some (.ref s1), some (.ref s3), some (.int a4)]) (st' := [.int a4]) (σ' := σ) [(.istore 5, 2, 0, 0, 0, 0), (.iload 5, 2, 0, 0, 0, 0)] (pc2 := 35) (by decide +kernel) rfl trivial ?_
      refine h.if_eq (tgt := 44) (show decode cX5_lands 35 = .ok (.ifCond .eq 9, 3) by decide +kernel) (by decide) (fun c11 => ?_) (fun c11 => ?_)
      · rw [if_pos c11] at hf
        refine h.run (o := [kd 0 = 5, kd 1 = 0]) (ls' := [some (.ref 0), some (.int x1), some (.int x2), some (.ref s1), some (.ref s3), some (.int a4)]) (st' := [.int (σ.1 1 0), .ref s1]) (σ' := σ) [(.aload_n 3, 1, 0, 0, 0, 0), (.aload_n 0, 1, 0, 0, 0, 0), (.getfield 10, 3, 0, 0, 5, 0), (.getfield 107, 3, 0, 0, 0, 0)] (pc2 := 52) (by decide +kernel) rfl (And.intro kd_0 (And.intro kd_1 trivial)) ?_
        obtain ⟨a5, e5, hf⟩ := bR_some hf
        refine h.callV (as := [.int (σ.1 1 0)]) (rest := []) (by decide +kernel) lk5_184 cwX3_isOfSendings hs1 (kmX3_isOfSendings l hs1 e5) rfl (Nat.le_of_ble_eq_true rfl) (Nat.le_of_ble_eq_true rfl) (Nat.le_of_ble_eq_true rfl) ?_
        show V 55 [some (.ref 0), some (.int x1), some (.int x2), some (.ref s1), some (.ref s3), some (.int a4)] [.int a5] σ
        refine h.if_eq (tgt := 73) (show decode cX5_lands 55 = .ok (.ifCond .eq 18, 3) by decide +kernel) (by decide) (fun c10 => ?_) (fun c10 => ?_)
        · rw [if_pos c10] at hf
          refine h.drop (ls' := [none, none, none, none, none, none]) trivial ?_
          exact wX5_lands_73 hm hf
        · rw [if_neg c10] at hf
          show V 58 [some (.ref 0), some (.int x1), some (.int x2), some (.ref s1), some (.ref s3), some (.int a4)] [] σ
          refine h.run (o := [kd 0 = 5, kd 1 = 0]) (ls' := [some (.ref 0), some (.int x1), some (.int x2), some (.ref s1), some (.ref s3), some (.int a4)]) (st' := [.int (σ.1 1 0), .ref s3]) (σ' := σ) [(.aload 4, 2, 0, 0, 0, 0), (.aload_n 0, 1, 0, 0, 0, 0), (.getfield 10, 3, 0, 0, 5, 0), (.getfield 107, 3, 0, 0, 0, 0)] (pc2 := 67) (by decide +kernel) rfl (And.intro kd_0 (And.intro kd_1 trivial)) ?_
          obtain ⟨a6, e6, hf⟩ := bR_some hf
          refine h.callV (as := [.int (σ.1 1 0)]) (rest := []) (by decide +kernel) lk5_184 cwX3_isOfSendings hs3 (kmX3_isOfSendings l hs3 e6) rfl (Nat.le_of_ble_eq_true rfl) (Nat.le_of_ble_eq_true rfl) (Nat.le_of_ble_eq_true rfl) ?_
          show V 70 [some (.ref 0), some (.int x1), some (.int x2), some (.ref s1), some (.ref s3), some (.int a4)] [.int a6] σ
          refine h.if_ne (tgt := 76) (show decode cX5_lands 70 = .ok (.ifCond .ne 6, 3) by decide +kernel) (by decide) (fun c9 => ?_) (fun c9 => ?_)
          · rw [if_neg c9] at hf
            refine h.run (o := []) (ls' := [some (.ref 0), some (.int x1), some (.int x2), some (.ref s1), some (.ref s3), some (.int a4)]) (st' := [.ref s1]) (σ' := σ) [(.aload_n 3, 1, 0, 0, 0, 0)] (pc2 := 77) (by decide +kernel) rfl trivial ?_
            obtain ⟨a7, e7, hf⟩ := bR_some hf
            refine h.callV (as := []) (rest := []) (by decide +kernel) lk5_188 cwX3_sum hs1 (kmX3_sum l hs1 e7) rfl (Nat.le_of_ble_eq_true rfl) (Nat.le_of_ble_eq_true rfl) (Nat.le_of_ble_eq_true rfl) ?_
            show V 80 [some (.ref 0), some (.int x1), some (.int x2), some (.ref s1), some (.ref s3), some (.int a4)] [.int a7] σ
            refine h.run (o := [kd s3 = 3]) (ls' := [some (.ref 0), some (.int x1), some (.int x2), some (.ref s1), some (.ref s3), some (.int a4)]) (st' := [.ref s3, .int (a7 * (σ.1 s3 6))]) (σ' := σ) [(.aload 4, 2, 0, 0, 0, 0), (.getfield 135, 3, 0, 0, 3, 6), (.imul, 1, 0, 0, 0, 0), (.aload 4, 2, 0, 0, 0, 0)] (pc2 := 88) (by decide +kernel) rfl (And.intro hs3 trivial) ?_
            obtain ⟨a8, e8, hf⟩ := bR_some hf
            refine h.callV (as := []) (rest := [.int (a7 * (σ.1 s3 6))]) (by decide +kernel) lk5_188 cwX3_sum hs3 (kmX3_sum l hs3 e8) rfl (Nat.le_of_ble_eq_true rfl) (Nat.le_of_ble_eq_true rfl) (Nat.le_of_ble_eq_true rfl) ?_
            show V 91 [some (.ref 0), some (.int x1), some (.int x2), some (.ref s1), some (.ref s3), some (.int a4)] [.int a8, .int (a7 * (σ.1 s3 6))] σ
            refine h.run (o := [kd s1 = 3]) (ls' := [some (.ref 0), some (.int x1), some (.int x2), some (.ref s1), some (.ref s3), some (.int a4)]) (st' := [.int ((a7 * (σ.1 s3 6)) - (a8 * (σ.1 s1 6)))]) (σ' := σ) [(.aload_n 3, 1, 0, 0, 0, 0), (.getfield 135, 3, 0, 0, 3, 6), (.imul, 1, 0, 0, 0, 0), (.isub, 1, 0, 0, 0, 0)] (pc2 := 97) (by decide +kernel) rfl (And.intro hs1 trivial) ?_
            obtain rfl := Option.some.inj hf
            exact hm.iret (by decide +kernel)
          · rw [if_pos c9] at hf
            show V 73 [some (.ref 0), some (.int x1), some (.int x2), some (.ref s1), some (.ref s3), some (.int a4)] [] σ
            refine h.drop (ls' := [none, none, none, none, none, none]) trivial ?_
            exact wX5_lands_73 hm hf
      · rw [if_neg c11] at hf
        show V 38 [some (.ref 0), some (.int x1), some (.int x2), some (.ref s1), some (.ref s3), some (.int a4)] [] σ
        refine h.run (o := []) (ls' := [some (.ref 0), some (.int x1), some (.int x2), some (.ref s1), some (.ref s3), some (.int a4)]) (st' := [.int ((-1000000000) + a4)]) (σ' := σ) [(.ldc 183, 2, (-1000000000), 0, 0, 0), (.iload 5, 2, 0, 0, 0, 0), (.iadd, 1, 0, 0, 0, 0)] (pc2 := 43) (by decide +kernel) rfl trivial ?_
        obtain rfl := Option.some.inj hf
        exact hm.iret (by decide +kernel)
def fX5_words_22 (σ : ST) : Option Int32 :=
  some (-1000000001)
set_option maxHeartbeats 4000000 in
theorem wX5_words_22 {l : Launch} {V : Nat → List (Option Value) → List Value → ST → Prop} {r : Int32} {σ : ST} (hm : BM l 5 cX5_words 9 (some .int) 3 66 (some (.int r)) σ V) (hf : fX5_words_22 σ = some r) : V 22 [none, none, none, none, none, none, none, none, none] [] σ := by
  have h := hm.bd
  unfold fX5_words_22 at hf
  refine h.run (o := []) (ls' := [none, none, none, none, none, none, none, none, none]) (st' := [.int (-1000000001)]) (σ' := σ) [(.ldc 153, 2, (-1000000001), 0, 0, 0)] (pc2 := 24) (by decide +kernel) rfl trivial ?_
  obtain rfl := Option.some.inj hf
  exact hm.iret (by decide +kernel)
def fX5_words_80 (σ : ST) (kt_65 : Nat → Nat → Int32 → Int32 → Option Int32) (n : Nat) (k3 : Nat) (k4 : Nat) (x6 : Int32) (x7 : Int32) (x8 : Int32) : Option Int32 := match n with
  | 0 => none
  | n + 1 =>
    if (σ.1 k3 6) ≤ x8 then
      kt_65 k3 k4 x6 (x7 + 1)
    else
      bR (fX3_signOf k3 x7 x8 σ) fun a1 =>
      bR (fX3_signOf k4 x7 x8 σ) fun a2 =>
      fX5_words_80 σ kt_65 n k3 k4 (x6 + (a1 * a2)) x7 (x8 + 1)
set_option maxHeartbeats 4000000 in
theorem wX5_words_80 {l : Launch} {V : Nat → List (Option Value) → List Value → ST → Prop} {r : Int32} {σ : ST} {kt_65 : Nat → Nat → Int32 → Int32 → Option Int32} (hm : BM l 5 cX5_words 9 (some .int) 3 66 (some (.int r)) σ V) (hkt_65 : ∀ (k3 : Nat) (k4 : Nat) (x6 : Int32) (x7 : Int32), kd k3 = 3 → kd k4 = 3 → kt_65 k3 k4 x6 x7 = some r → V 65 [none, none, none, some (.ref k3), some (.ref k4), none, some (.int x6), some (.int x7), none] [] σ) : ∀ (n : Nat) (k3 : Nat) (k4 : Nat) (x6 : Int32) (x7 : Int32) (x8 : Int32) (hk3 : kd k3 = 3) (hk4 : kd k4 = 3), fX5_words_80 σ kt_65 n k3 k4 x6 x7 x8 = some r → V 80 [none, none, none, some (.ref k3), some (.ref k4), none, some (.int x6), some (.int x7), some (.int x8)] [] σ := by
  have h := hm.bd
  intro n
  induction n with
  | zero => intro k3 k4 x6 x7 x8 hk3 hk4 hf; cases hf
  | succ n ih =>
    intro k3 k4 x6 x7 x8 hk3 hk4 hf
    rw [fX5_words_80] at hf
    refine h.run (o := [kd k3 = 3]) (ls' := [none, none, none, some (.ref k3), some (.ref k4), none, some (.int x6), some (.int x7), some (.int x8)]) (st' := [.int (σ.1 k3 6), .int x8]) (σ' := σ) [(.iload 8, 2, 0, 0, 0, 0), (.aload_n 3, 1, 0, 0, 0, 0), (.getfield 135, 3, 0, 0, 3, 6)] (pc2 := 86) (by decide +kernel) rfl (And.intro hk3 trivial) ?_
    refine h.icmp_ge (tgt := 118) (show decode cX5_words 86 = .ok (.if_icmp .ge 32, 3) by decide +kernel) (by decide) (fun c3 => ?_) (fun c3 => ?_)
    · rw [if_pos c3] at hf
      refine h.run (o := []) (ls' := [none, none, none, some (.ref k3), some (.ref k4), none, some (.int x6), some (.int (x7 + 1)), some (.int x8)]) (st' := []) (σ' := σ) [(.iinc 7 1, 3, 1, 0, 0, 0), (.goto (-56), 3, 0, 0, 0, 65)] (pc2 := 65) (by decide +kernel) rfl trivial ?_
      refine h.drop (ls' := [none, none, none, some (.ref k3), some (.ref k4), none, some (.int x6), some (.int (x7 + 1)), none]) (And.intro rfl (And.intro rfl (And.intro rfl (And.intro rfl trivial)))) ?_
      exact hkt_65 k3 k4 x6 (x7 + 1) hk3 hk4 hf
    · rw [if_neg c3] at hf
      show V 89 [none, none, none, some (.ref k3), some (.ref k4), none, some (.int x6), some (.int x7), some (.int x8)] [] σ
      refine h.run (o := []) (ls' := [none, none, none, some (.ref k3), some (.ref k4), none, some (.int x6), some (.int x7), some (.int x8)]) (st' := [.int x8, .int x7, .ref k3, .int x6]) (σ' := σ) [(.iload 6, 2, 0, 0, 0, 0), (.aload_n 3, 1, 0, 0, 0, 0), (.iload 7, 2, 0, 0, 0, 0), (.iload 8, 2, 0, 0, 0, 0)] (pc2 := 96) (by decide +kernel) rfl trivial ?_
      obtain ⟨a1, e1, hf⟩ := bR_some hf
      refine h.callV (as := [.int x7, .int x8]) (rest := [.int x6]) (by decide +kernel) lk5_191 cwX3_signOf hk3 (kmX3_signOf l hk3 e1) rfl (Nat.le_of_ble_eq_true rfl) (Nat.le_of_ble_eq_true rfl) (Nat.le_of_ble_eq_true rfl) ?_
      show V 99 [none, none, none, some (.ref k3), some (.ref k4), none, some (.int x6), some (.int x7), some (.int x8)] [.int a1, .int x6] σ
      refine h.run (o := []) (ls' := [none, none, none, some (.ref k3), some (.ref k4), none, some (.int x6), some (.int x7), some (.int x8)]) (st' := [.int x8, .int x7, .ref k4, .int a1, .int x6]) (σ' := σ) [(.aload 4, 2, 0, 0, 0, 0), (.iload 7, 2, 0, 0, 0, 0), (.iload 8, 2, 0, 0, 0, 0)] (pc2 := 105) (by decide +kernel) rfl trivial ?_
      obtain ⟨a2, e2, hf⟩ := bR_some hf
      refine h.callV (as := [.int x7, .int x8]) (rest := [.int a1, .int x6]) (by decide +kernel) lk5_191 cwX3_signOf hk4 (kmX3_signOf l hk4 e2) rfl (Nat.le_of_ble_eq_true rfl) (Nat.le_of_ble_eq_true rfl) (Nat.le_of_ble_eq_true rfl) ?_
      show V 108 [none, none, none, some (.ref k3), some (.ref k4), none, some (.int x6), some (.int x7), some (.int x8)] [.int a2, .int a1, .int x6] σ
      refine h.run (o := []) (ls' := [none, none, none, some (.ref k3), some (.ref k4), none, some (.int (x6 + (a1 * a2))), some (.int x7), some (.int (x8 + 1))]) (st' := []) (σ' := σ) [(.imul, 1, 0, 0, 0, 0), (.iadd, 1, 0, 0, 0, 0), (.istore 6, 2, 0, 0, 0, 0), (.iinc 8 1, 3, 1, 0, 0, 0), (.goto (-35), 3, 0, 0, 0, 80)] (pc2 := 80) (by decide +kernel) rfl trivial ?_
      exact ih k3 k4 (x6 + (a1 * a2)) x7 (x8 + 1) hk3 hk4 hf
def fX5_words_65 (σ : ST) (n : Nat) (k3 : Nat) (k4 : Nat) (x6 : Int32) (x7 : Int32) : Option Int32 := match n with
  | 0 => none
  | n + 1 =>
    if (σ.1 k3 6) ≤ x7 then
      some x6
    else
      fX5_words_80 σ (fX5_words_65 σ n) FU k3 k4 x6 x7 (x7 + 1)
set_option maxHeartbeats 4000000 in
theorem wX5_words_65 {l : Launch} {V : Nat → List (Option Value) → List Value → ST → Prop} {r : Int32} {σ : ST} (hm : BM l 5 cX5_words 9 (some .int) 3 66 (some (.int r)) σ V) : ∀ (n : Nat) (k3 : Nat) (k4 : Nat) (x6 : Int32) (x7 : Int32) (hk3 : kd k3 = 3) (hk4 : kd k4 = 3), fX5_words_65 σ n k3 k4 x6 x7 = some r → V 65 [none, none, none, some (.ref k3), some (.ref k4), none, some (.int x6), some (.int x7), none] [] σ := by
  have h := hm.bd
  intro n
  induction n with
  | zero => intro k3 k4 x6 x7 hk3 hk4 hf; cases hf
  | succ n ih =>
    intro k3 k4 x6 x7 hk3 hk4 hf
    rw [fX5_words_65] at hf
    refine h.run (o := [kd k3 = 3]) (ls' := [none, none, none, some (.ref k3), some (.ref k4), none, some (.int x6), some (.int x7), none]) (st' := [.int (σ.1 k3 6), .int x7]) (σ' := σ) [(.iload 7, 2, 0, 0, 0, 0), (.aload_n 3, 1, 0, 0, 0, 0), (.getfield 135, 3, 0, 0, 3, 6)] (pc2 := 71) (by decide +kernel) rfl (And.intro hk3 trivial) ?_
    refine h.icmp_ge (tgt := 124) (show decode cX5_words 71 = .ok (.if_icmp .ge 53, 3) by decide +kernel) (by decide) (fun c1 => ?_) (fun c1 => ?_)
    · rw [if_pos c1] at hf
      refine h.run (o := []) (ls' := [none, none, none, some (.ref k3), some (.ref k4), none, some (.int x6), some (.int x7), none]) (st' := [.int x6]) (σ' := σ) [(.iload 6, 2, 0, 0, 0, 0)] (pc2 := 126) (by decide +kernel) rfl trivial ?_
      obtain rfl := Option.some.inj hf
      exact hm.iret (by decide +kernel)
    · rw [if_neg c1] at hf
      show V 74 [none, none, none, some (.ref k3), some (.ref k4), none, some (.int x6), some (.int x7), none] [] σ
      refine h.run (o := []) (ls' := [none, none, none, some (.ref k3), some (.ref k4), none, some (.int x6), some (.int x7), some (.int (x7 + 1))]) (st' := []) (σ' := σ) [(.iload 7, 2, 0, 0, 0, 0), (.iconst 1, 1, 1, 0, 0, 0), (.iadd, 1, 0, 0, 0, 0), (.istore 8, 2, 0, 0, 0, 0)] (pc2 := 80) (by decide +kernel) rfl trivial ?_
      exact wX5_words_80 hm ih FU k3 k4 x6 x7 (x7 + 1) hk3 hk4 hf
def fX5_words (x1 : Int32) (x2 : Int32) (σ : ST) : Option Int32 :=
  bR (fX5_shelfAt x1 σ) fun o1 =>
  match o1 with
  | none =>
    bR (fX5_shelfAt x2 σ) fun o2 =>
    match o2 with
    | none =>
      fX5_words_22 σ
    | some s2 =>
      fX5_words_22 σ
  | some s1 =>
    bR (fX5_shelfAt x2 σ) fun o3 =>
    match o3 with
    | none =>
      fX5_words_22 σ
    | some s3 =>
      bR (fX5_refusalAsRows s1 s3 σ) fun a4 =>
      if a4 = 0 then
        if (σ.1 s1 6) = (σ.1 s3 6) then
          fX5_words_65 σ FU s1 s3 0 0
        else
          some (-1000000013)
      else
        some ((-1000000000) + a4)
set_option maxHeartbeats 4000000 in
theorem kmX5_words (l : Launch) {x1 : Int32} {x2 : Int32} {σ : ST} {r : Int32} (hf : fX5_words x1 x2 σ = some r) : KM l yX5_words cX5_words 9 (some .int) 3 66 [.ref 0, .int x1, .int x2] σ (some (.int r)) σ := by
  refine KM.intro (ow := 5) (by decide +kernel) rfl (Nat.le_of_ble_eq_true rfl) (fun V hm => ?_)
  show V 0 [some (.ref 0), some (.int x1), some (.int x2), none, none, none, none, none, none] [] σ
  have h := hm.bd
  unfold fX5_words at hf
  refine h.run (o := []) (ls' := [some (.ref 0), some (.int x1), some (.int x2), none, none, none, none, none, none]) (st' := [.int x1, .ref 0]) (σ' := σ) [(.aload_n 0, 1, 0, 0, 0, 0), (.iload_n 1, 1, 0, 0, 0, 0)] (pc2 := 2) (by decide +kernel) rfl trivial ?_
  obtain ⟨o1, e1, hf⟩ := bR_some hf
  refine h.callV (as := [.int x1]) (rest := []) (by decide +kernel) lk5_44 cwX5_shelfAt kd_0 (kmX5_shelfAt l e1) rfl (Nat.le_of_ble_eq_true rfl) (Nat.le_of_ble_eq_true rfl) (Nat.le_of_ble_eq_true rfl) ?_
  cases o1 with
  | none =>
    dsimp only at hf
    show V 5 [some (.ref 0), some (.int x1), some (.int x2), none, none, none, none, none, none] [.null] σ
    refine h.run (o := []) (ls' := [some (.ref 0), some (.int x1), some (.int x2), some (.null), none, none, none, none, none]) (st' := [.int x2, .ref 0]) (σ' := σ) [(.astore_n 3, 1, 0, 0, 0, 0), (.aload_n 0, 1, 0, 0, 0, 0), (.iload_n 2, 1, 0, 0, 0, 0)] (pc2 := 8) (by decide +kernel) rfl trivial ?_
    obtain ⟨o2, e2, hf⟩ := bR_some hf
    refine h.callV (as := [.int x2]) (rest := []) (by decide +kernel) lk5_44 cwX5_shelfAt kd_0 (kmX5_shelfAt l e2) rfl (Nat.le_of_ble_eq_true rfl) (Nat.le_of_ble_eq_true rfl) (Nat.le_of_ble_eq_true rfl) ?_
    cases o2 with
    | none =>
      dsimp only at hf
      show V 11 [some (.ref 0), some (.int x1), some (.int x2), some (.null), none, none, none, none, none] [.null] σ
      refine h.run (o := []) (ls' := [some (.ref 0), some (.int x1), some (.int x2), some (.null), some (.null), none, none, none, none]) (st' := [.null]) (σ' := σ) [(.astore 4, 2, 0, 0, 0, 0), (.aload_n 3, 1, 0, 0, 0, 0)] (pc2 := 14) (by decide +kernel) rfl trivial ?_
      refine h.ifnullN (show decode cX5_words 14 = .ok (.ifnull 8, 3) by decide +kernel) (tgt := 22) (by decide) ?_
      refine h.drop (ls' := [none, none, none, none, none, none, none, none, none]) trivial ?_
      exact wX5_words_22 hm hf
    | some s2 =>
      dsimp only at hf
      have hs2 : kd s2 = 3 := shelfAt_kd e2
      show V 11 [some (.ref 0), some (.int x1), some (.int x2), some (.null), none, none, none, none, none] [.ref s2] σ
      refine h.run (o := []) (ls' := [some (.ref 0), some (.int x1), some (.int x2), some (.null), some (.ref s2), none, none, none, none]) (st' := [.null]) (σ' := σ) [(.astore 4, 2, 0, 0, 0, 0), (.aload_n 3, 1, 0, 0, 0, 0)] (pc2 := 14) (by decide +kernel) rfl trivial ?_
      refine h.ifnullN (show decode cX5_words 14 = .ok (.ifnull 8, 3) by decide +kernel) (tgt := 22) (by decide) ?_
      refine h.drop (ls' := [none, none, none, none, none, none, none, none, none]) trivial ?_
      exact wX5_words_22 hm hf
  | some s1 =>
    dsimp only at hf
    have hs1 : kd s1 = 3 := shelfAt_kd e1
    show V 5 [some (.ref 0), some (.int x1), some (.int x2), none, none, none, none, none, none] [.ref s1] σ
    refine h.run (o := []) (ls' := [some (.ref 0), some (.int x1), some (.int x2), some (.ref s1), none, none, none, none, none]) (st' := [.int x2, .ref 0]) (σ' := σ) [(.astore_n 3, 1, 0, 0, 0, 0), (.aload_n 0, 1, 0, 0, 0, 0), (.iload_n 2, 1, 0, 0, 0, 0)] (pc2 := 8) (by decide +kernel) rfl trivial ?_
    obtain ⟨o3, e3, hf⟩ := bR_some hf
    refine h.callV (as := [.int x2]) (rest := []) (by decide +kernel) lk5_44 cwX5_shelfAt kd_0 (kmX5_shelfAt l e3) rfl (Nat.le_of_ble_eq_true rfl) (Nat.le_of_ble_eq_true rfl) (Nat.le_of_ble_eq_true rfl) ?_
    cases o3 with
    | none =>
      dsimp only at hf
      show V 11 [some (.ref 0), some (.int x1), some (.int x2), some (.ref s1), none, none, none, none, none] [.null] σ
      refine h.run (o := []) (ls' := [some (.ref 0), some (.int x1), some (.int x2), some (.ref s1), some (.null), none, none, none, none]) (st' := [.ref s1]) (σ' := σ) [(.astore 4, 2, 0, 0, 0, 0), (.aload_n 3, 1, 0, 0, 0, 0)] (pc2 := 14) (by decide +kernel) rfl trivial ?_
      refine h.ifnull (show decode cX5_words 14 = .ok (.ifnull 8, 3) by decide +kernel) ?_
      show V 17 [some (.ref 0), some (.int x1), some (.int x2), some (.ref s1), some (.null), none, none, none, none] [] σ
      refine h.run (o := []) (ls' := [some (.ref 0), some (.int x1), some (.int x2), some (.ref s1), some (.null), none, none, none, none]) (st' := [.null]) (σ' := σ) [(.aload 4, 2, 0, 0, 0, 0)] (pc2 := 19) (by decide +kernel) rfl trivial ?_
      refine h.ifnonnullN (show decode cX5_words 19 = .ok (.ifnonnull 6, 3) by decide +kernel) ?_
      show V 22 [some (.ref 0), some (.int x1), some (.int x2), some (.ref s1), some (.null), none, none, none, none] [] σ
      refine h.drop (ls' := [none, none, none, none, none, none, none, none, none]) trivial ?_
      exact wX5_words_22 hm hf
    | some s3 =>
      dsimp only at hf
      have hs3 : kd s3 = 3 := shelfAt_kd e3
      show V 11 [some (.ref 0), some (.int x1), some (.int x2), some (.ref s1), none, none, none, none, none] [.ref s3] σ
      refine h.run (o := []) (ls' := [some (.ref 0), some (.int x1), some (.int x2), some (.ref s1), some (.ref s3), none, none, none, none]) (st' := [.ref s1]) (σ' := σ) [(.astore 4, 2, 0, 0, 0, 0), (.aload_n 3, 1, 0, 0, 0, 0)] (pc2 := 14) (by decide +kernel) rfl trivial ?_
      refine h.ifnull (show decode cX5_words 14 = .ok (.ifnull 8, 3) by decide +kernel) ?_
      show V 17 [some (.ref 0), some (.int x1), some (.int x2), some (.ref s1), some (.ref s3), none, none, none, none] [] σ
      refine h.run (o := []) (ls' := [some (.ref 0), some (.int x1), some (.int x2), some (.ref s1), some (.ref s3), none, none, none, none]) (st' := [.ref s3]) (σ' := σ) [(.aload 4, 2, 0, 0, 0, 0)] (pc2 := 19) (by decide +kernel) rfl trivial ?_
      refine h.ifnonnull (show decode cX5_words 19 = .ok (.ifnonnull 6, 3) by decide +kernel) (tgt := 25) (by decide) ?_
      refine h.run (o := []) (ls' := [some (.ref 0), some (.int x1), some (.int x2), some (.ref s1), some (.ref s3), none, none, none, none]) (st' := [.ref s3, .ref s1]) (σ' := σ) [(.aload_n 3, 1, 0, 0, 0, 0), (.aload 4, 2, 0, 0, 0, 0)] (pc2 := 28) (by decide +kernel) rfl trivial ?_
      obtain ⟨a4, e4, hf⟩ := bR_some hf
      refine h.callS (as := [.ref s1, .ref s3]) (rest := []) (by decide +kernel) lk5_179 cwX5_refusalAsRows (kmX5_refusalAsRows l hs1 hs3 e4) rfl (Nat.le_of_ble_eq_true rfl) (Nat.le_of_ble_eq_true rfl) (Nat.le_of_ble_eq_true rfl) ?_
      show V 31 [some (.ref 0), some (.int x1), some (.int x2), some (.ref s1), some (.ref s3), none, none, none, none] [.int a4] σ
      refine h.run (o := []) (ls' := [some (.ref 0), some (.int x1), some (.int x2), some (.ref s1), some (.ref s3), some (.int a4), none, none, none]) (st' := [.int a4]) (σ' := σ) [(.istore 5, 2, 0, 0, 0, 0), (.iload 5, 2, 0, 0, 0, 0)] (pc2 := 35) (by decide +kernel) rfl trivial ?_
      refine h.if_eq (tgt := 44) (show decode cX5_words 35 = .ok (.ifCond .eq 9, 3) by decide +kernel) (by decide) (fun c6 => ?_) (fun c6 => ?_)
      · rw [if_pos c6] at hf
        refine h.run (o := [kd s1 = 3, kd s3 = 3]) (ls' := [some (.ref 0), some (.int x1), some (.int x2), some (.ref s1), some (.ref s3), some (.int a4), none, none, none]) (st' := [.int (σ.1 s3 6), .int (σ.1 s1 6)]) (σ' := σ) [(.aload_n 3, 1, 0, 0, 0, 0), (.getfield 135, 3, 0, 0, 3, 6), (.aload 4, 2, 0, 0, 0, 0), (.getfield 135, 3, 0, 0, 3, 6)] (pc2 := 53) (by decide +kernel) rfl (And.intro hs1 (And.intro hs3 trivial)) ?_
        refine h.icmp_eq (tgt := 59) (show decode cX5_words 53 = .ok (.if_icmp .eq 6, 3) by decide +kernel) (by decide) (fun c5 => ?_) (fun c5 => ?_)
        · rw [if_pos c5] at hf
          refine h.run (o := []) (ls' := [some (.ref 0), some (.int x1), some (.int x2), some (.ref s1), some (.ref s3), some (.int a4), some (.int 0), some (.int 0), none]) (st' := []) (σ' := σ) [(.iconst 0, 1, 0, 0, 0, 0), (.istore 6, 2, 0, 0, 0, 0), (.iconst 0, 1, 0, 0, 0, 0), (.istore 7, 2, 0, 0, 0, 0)] (pc2 := 65) (by decide +kernel) rfl trivial ?_
          refine h.drop (ls' := [none, none, none, some (.ref s1), some (.ref s3), none, some (.int 0), some (.int 0), none]) (And.intro rfl (And.intro rfl (And.intro rfl (And.intro rfl trivial)))) ?_
          exact wX5_words_65 hm FU s1 s3 0 0 hs1 hs3 hf
        · rw [if_neg c5] at hf
          show V 56 [some (.ref 0), some (.int x1), some (.int x2), some (.ref s1), some (.ref s3), some (.int a4), none, none, none] [] σ
          refine h.run (o := []) (ls' := [some (.ref 0), some (.int x1), some (.int x2), some (.ref s1), some (.ref s3), some (.int a4), none, none, none]) (st' := [.int (-1000000013)]) (σ' := σ) [(.ldc 187, 2, (-1000000013), 0, 0, 0)] (pc2 := 58) (by decide +kernel) rfl trivial ?_
          obtain rfl := Option.some.inj hf
          exact hm.iret (by decide +kernel)
      · rw [if_neg c6] at hf
        show V 38 [some (.ref 0), some (.int x1), some (.int x2), some (.ref s1), some (.ref s3), some (.int a4), none, none, none] [] σ
        refine h.run (o := []) (ls' := [some (.ref 0), some (.int x1), some (.int x2), some (.ref s1), some (.ref s3), some (.int a4), none, none, none]) (st' := [.int ((-1000000000) + a4)]) (σ' := σ) [(.ldc 183, 2, (-1000000000), 0, 0, 0), (.iload 5, 2, 0, 0, 0, 0), (.iadd, 1, 0, 0, 0, 0)] (pc2 := 43) (by decide +kernel) rfl trivial ?_
        obtain rfl := Option.some.inj hf
        exact hm.iret (by decide +kernel)
def fX5_howUnlike (x1 : Int32) (x2 : Int32) (x3 : Int32) (x4 : Int32) (σ : ST) : Option (Int32 × ST) :=
  bR (fX5_bring x1 x3 σ) fun σ1 =>
  bI (fX1_wouldSend (setI σ1 3 1 x4)) fun a2 σ2 =>
  bR (fX5_bring x2 x3 σ2) fun σ3 =>
  bI (fX1_wouldSend (setI σ3 3 1 x4)) fun a4 σ4 =>
  some (iabs (a2 - a4), σ4)
set_option maxHeartbeats 4000000 in
theorem kmX5_howUnlike (l : Launch) {x1 : Int32} {x2 : Int32} {x3 : Int32} {x4 : Int32} {σ : ST} {r : Int32} {τ : ST} (hf : fX5_howUnlike x1 x2 x3 x4 σ = some (r, τ)) : KM l yX5_howUnlike cX5_howUnlike 6 (some .int) 5 114 [.ref 0, .int x1, .int x2, .int x3, .int x4] σ (some (.int r)) τ := by
  refine KM.intro (ow := 5) (by decide +kernel) rfl (Nat.le_of_ble_eq_true rfl) (fun V hm => ?_)
  show V 0 [some (.ref 0), some (.int x1), some (.int x2), some (.int x3), some (.int x4), none] [] σ
  have h := hm.bd
  unfold fX5_howUnlike at hf
  refine h.run (o := []) (ls' := [some (.ref 0), some (.int x1), some (.int x2), some (.int x3), some (.int x4), none]) (st' := [.int x3, .int x1, .ref 0]) (σ' := σ) [(.aload_n 0, 1, 0, 0, 0, 0), (.iload_n 1, 1, 0, 0, 0, 0), (.iload_n 3, 1, 0, 0, 0, 0)] (pc2 := 3) (by decide +kernel) rfl trivial ?_
  obtain ⟨σ1, e1, hf⟩ := bR_some hf
  refine h.callV (as := [.int x1, .int x3]) (rest := []) (by decide +kernel) lk5_139 cwX5_bring kd_0 (kmX5_bring l e1) rfl (Nat.le_of_ble_eq_true rfl) (Nat.le_of_ble_eq_true rfl) (Nat.le_of_ble_eq_true rfl) ?_
  show V 6 [some (.ref 0), some (.int x1), some (.int x2), some (.int x3), some (.int x4), none] [] σ1
  refine h.run (o := [kd 0 = 5, kd 3 = 1, kd 0 = 5]) (ls' := [some (.ref 0), some (.int x1), some (.int x2), some (.int x3), some (.int x4), none]) (st' := [.ref 3]) (σ' := setI σ1 3 1 x4) [(.aload_n 0, 1, 0, 0, 0, 0), (.getfield 26, 3, 0, 0, 5, 3), (.iload 4, 2, 0, 0, 0, 0), (.putfield 274, 3, 0, 0, 1, 1), (.aload_n 0, 1, 0, 0, 0, 0), (.getfield 26, 3, 0, 0, 5, 3)] (pc2 := 19) (by decide +kernel) rfl (And.intro kd_0 (And.intro kd_3 (And.intro kd_0 trivial))) ?_
  obtain ⟨a2, σ2, e2, hf⟩ := bI_some hf
  refine h.callV (as := []) (rest := []) (by decide +kernel) lk5_143 cwX1_wouldSend kd_3 (kmX1_wouldSend l e2) rfl (Nat.le_of_ble_eq_true rfl) (Nat.le_of_ble_eq_true rfl) (Nat.le_of_ble_eq_true rfl) ?_
  show V 22 [some (.ref 0), some (.int x1), some (.int x2), some (.int x3), some (.int x4), none] [.int a2] σ2
  refine h.run (o := []) (ls' := [some (.ref 0), some (.int x1), some (.int x2), some (.int x3), some (.int x4), some (.int a2)]) (st' := [.int x3, .int x2, .ref 0]) (σ' := σ2) [(.istore 5, 2, 0, 0, 0, 0), (.aload_n 0, 1, 0, 0, 0, 0), (.iload_n 2, 1, 0, 0, 0, 0), (.iload_n 3, 1, 0, 0, 0, 0)] (pc2 := 27) (by decide +kernel) rfl trivial ?_
  obtain ⟨σ3, e3, hf⟩ := bR_some hf
  refine h.callV (as := [.int x2, .int x3]) (rest := []) (by decide +kernel) lk5_139 cwX5_bring kd_0 (kmX5_bring l e3) rfl (Nat.le_of_ble_eq_true rfl) (Nat.le_of_ble_eq_true rfl) (Nat.le_of_ble_eq_true rfl) ?_
  show V 30 [some (.ref 0), some (.int x1), some (.int x2), some (.int x3), some (.int x4), some (.int a2)] [] σ3
  refine h.run (o := [kd 0 = 5, kd 3 = 1, kd 0 = 5]) (ls' := [some (.ref 0), some (.int x1), some (.int x2), some (.int x3), some (.int x4), some (.int a2)]) (st' := [.ref 3, .int a2]) (σ' := setI σ3 3 1 x4) [(.aload_n 0, 1, 0, 0, 0, 0), (.getfield 26, 3, 0, 0, 5, 3), (.iload 4, 2, 0, 0, 0, 0), (.putfield 274, 3, 0, 0, 1, 1), (.iload 5, 2, 0, 0, 0, 0), (.aload_n 0, 1, 0, 0, 0, 0), (.getfield 26, 3, 0, 0, 5, 3)] (pc2 := 45) (by decide +kernel) rfl (And.intro kd_0 (And.intro kd_3 (And.intro kd_0 trivial))) ?_
  obtain ⟨a4, σ4, e4, hf⟩ := bI_some hf
  refine h.callV (as := []) (rest := [.int a2]) (by decide +kernel) lk5_143 cwX1_wouldSend kd_3 (kmX1_wouldSend l e4) rfl (Nat.le_of_ble_eq_true rfl) (Nat.le_of_ble_eq_true rfl) (Nat.le_of_ble_eq_true rfl) ?_
  show V 48 [some (.ref 0), some (.int x1), some (.int x2), some (.int x3), some (.int x4), some (.int a2)] [.int a4, .int a2] σ4
  refine h.run (o := []) (ls' := [some (.ref 0), some (.int x1), some (.int x2), some (.int x3), some (.int x4), some (.int a2)]) (st' := [.int (a2 - a4)]) (σ' := σ4) [(.isub, 1, 0, 0, 0, 0)] (pc2 := 49) (by decide +kernel) rfl trivial ?_
  refine h.nabs jw_l298 (by decide +kernel) (Nat.le_of_ble_eq_true rfl) (Nat.le_of_ble_eq_true rfl) ?_
  show V 52 [some (.ref 0), some (.int x1), some (.int x2), some (.int x3), some (.int x4), some (.int a2)] [.int (iabs (a2 - a4))] σ4
  obtain ⟨rfl, rfl⟩ := Prod.mk.inj (Option.some.inj hf)
  exact hm.iret (by decide +kernel)
def fX5_parts_34 (σ : ST) : Option (Int32 × ST) :=
  some ((-1), σ)
set_option maxHeartbeats 4000000 in
theorem wX5_parts_34 {l : Launch} {V : Nat → List (Option Value) → List Value → ST → Prop} {r : Int32} {τ : ST} {σ : ST} (hm : BM l 5 cX5_parts 9 (some .int) 6 139 (some (.int r)) τ V) (hf : fX5_parts_34 σ = some (r, τ)) : V 34 [none, none, none, none, none, none, none, none, none] [] σ := by
  have h := hm.bd
  unfold fX5_parts_34 at hf
  refine h.run (o := []) (ls' := [none, none, none, none, none, none, none, none, none]) (st' := [.int (-1)]) (σ' := σ) [(.iconst (-1), 1, (-1), 0, 0, 0)] (pc2 := 35) (by decide +kernel) rfl trivial ?_
  obtain ⟨rfl, rfl⟩ := Prod.mk.inj (Option.some.inj hf)
  exact hm.iret (by decide +kernel)
def fX5_parts_102 (t0 : Int32) (σ : ST) : Option (Int32 × ST) :=
  some (t0, σ)
set_option maxHeartbeats 4000000 in
theorem wX5_parts_102 {l : Launch} {V : Nat → List (Option Value) → List Value → ST → Prop} {r : Int32} {τ : ST} {σ : ST} {t0 : Int32} (hm : BM l 5 cX5_parts 9 (some .int) 6 139 (some (.int r)) τ V) (hf : fX5_parts_102 t0 σ = some (r, τ)) : V 102 [none, none, none, none, none, none, none, none, none] [.int t0] σ := by
  have h := hm.bd
  unfold fX5_parts_102 at hf
  obtain ⟨rfl, rfl⟩ := Prod.mk.inj (Option.some.inj hf)
  exact hm.iret (by decide +kernel)
def fX5_parts_84 (kt_52 : Int32 → Int32 → Int32 → Int32 → Int32 → Int32 → Int32 → ST → Option (Int32 × ST)) (x1 : Int32) (x2 : Int32) (x3 : Int32) (x4 : Int32) (x5 : Int32) (x6 : Int32) (x7 : Int32) (σ : ST) : Option (Int32 × ST) :=
  kt_52 x1 x2 x3 x4 x5 x6 (x7 + 1) σ
set_option maxHeartbeats 4000000 in
theorem wX5_parts_84 {l : Launch} {V : Nat → List (Option Value) → List Value → ST → Prop} {r : Int32} {τ : ST} {σ : ST} {x1 : Int32} {x2 : Int32} {x3 : Int32} {x4 : Int32} {x5 : Int32} {x6 : Int32} {x7 : Int32} {kt_52 : Int32 → Int32 → Int32 → Int32 → Int32 → Int32 → Int32 → ST → Option (Int32 × ST)} (hm : BM l 5 cX5_parts 9 (some .int) 6 139 (some (.int r)) τ V) (hkt_52 : ∀ (x1 : Int32) (x2 : Int32) (x3 : Int32) (x4 : Int32) (x5 : Int32) (x6 : Int32) (x7 : Int32) (σ : ST), kt_52 x1 x2 x3 x4 x5 x6 x7 σ = some (r, τ) → V 52 [some (.ref 0), some (.int x1), some (.int x2), some (.int x3), some (.int x4), some (.int x5), some (.int x6), some (.int x7), none] [] σ) (hf : fX5_parts_84 kt_52 x1 x2 x3 x4 x5 x6 x7 σ = some (r, τ)) : V 84 [some (.ref 0), some (.int x1), some (.int x2), some (.int x3), some (.int x4), some (.int x5), some (.int x6), some (.int x7), none] [] σ := by
  have h := hm.bd
  unfold fX5_parts_84 at hf
  refine h.run (o := []) (ls' := [some (.ref 0), some (.int x1), some (.int x2), some (.int x3), some (.int x4), some (.int x5), some (.int x6), some (.int (x7 + 1)), none]) (st' := []) (σ' := σ) [(.iinc 7 1, 3, 1, 0, 0, 0), (.goto (-35), 3, 0, 0, 0, 52)] (pc2 := 52) (by decide +kernel) rfl trivial ?_
  exact hkt_52 x1 x2 x3 x4 x5 x6 (x7 + 1) _ hf
def fX5_parts_52 (n : Nat) (x1 : Int32) (x2 : Int32) (x3 : Int32) (x4 : Int32) (x5 : Int32) (x6 : Int32) (x7 : Int32) (σ : ST) : Option (Int32 × ST) := match n with
  | 0 => none
  | n + 1 =>
    if 5 < x7 then
      if x4 = 0 then
        fX5_parts_102 x5 σ
      else
        fX5_parts_102 x6 σ
    else
      bI (fX5_howUnlike x1 x2 x3 x7 σ) fun a2 σ2 =>
      if a2 ≤ x6 then
        fX5_parts_84 (fX5_parts_52 n) x1 x2 x3 x4 x5 x6 x7 σ2
      else
        fX5_parts_84 (fX5_parts_52 n) x1 x2 x3 x4 x7 a2 x7 σ2
set_option maxHeartbeats 4000000 in
theorem wX5_parts_52 {l : Launch} {V : Nat → List (Option Value) → List Value → ST → Prop} {r : Int32} {τ : ST} (hm : BM l 5 cX5_parts 9 (some .int) 6 139 (some (.int r)) τ V) : ∀ (n : Nat) (x1 : Int32) (x2 : Int32) (x3 : Int32) (x4 : Int32) (x5 : Int32) (x6 : Int32) (x7 : Int32) (σ : ST), fX5_parts_52 n x1 x2 x3 x4 x5 x6 x7 σ = some (r, τ) → V 52 [some (.ref 0), some (.int x1), some (.int x2), some (.int x3), some (.int x4), some (.int x5), some (.int x6), some (.int x7), none] [] σ := by
  have h := hm.bd
  intro n
  induction n with
  | zero => intro x1 x2 x3 x4 x5 x6 x7 σ hf; cases hf
  | succ n ih =>
    intro x1 x2 x3 x4 x5 x6 x7 σ hf
    rw [fX5_parts_52] at hf
    refine h.run (o := []) (ls' := [some (.ref 0), some (.int x1), some (.int x2), some (.int x3), some (.int x4), some (.int x5), some (.int x6), some (.int x7), none]) (st' := [.int 5, .int x7]) (σ' := σ) [(.iload 7, 2, 0, 0, 0, 0), (.iconst 5, 1, 5, 0, 0, 0)] (pc2 := 55) (by decide +kernel) rfl trivial ?_
    refine h.icmp_gt (tgt := 90) (show decode cX5_parts 55 = .ok (.if_icmp .gt 35, 3) by decide +kernel) (by decide) (fun c4 => ?_) (fun c4 => ?_)
    · rw [if_pos c4] at hf
      refine h.run (o := []) (ls' := [some (.ref 0), some (.int x1), some (.int x2), some (.int x3), some (.int x4), some (.int x5), some (.int x6), some (.int x7), none]) (st' := [.int x4]) (σ' := σ) [(.iload 4, 2, 0, 0, 0, 0)] (pc2 := 92) (by decide +kernel) rfl trivial ?_
      refine h.if_ne (tgt := 100) (show decode cX5_parts 92 = .ok (.ifCond .ne 8, 3) by decide +kernel) (by decide) (fun c1 => ?_) (fun c1 => ?_)
      · rw [if_neg c1] at hf
        refine h.run (o := []) (ls' := [some (.ref 0), some (.int x1), some (.int x2), some (.int x3), some (.int x4), some (.int x5), some (.int x6), some (.int x7), none]) (st' := [.int x6]) (σ' := σ) [(.iload 6, 2, 0, 0, 0, 0)] (pc2 := 102) (by decide +kernel) rfl trivial ?_
        refine h.drop (ls' := [none, none, none, none, none, none, none, none, none]) trivial ?_
        exact wX5_parts_102 hm hf
      · rw [if_pos c1] at hf
        show V 95 [some (.ref 0), some (.int x1), some (.int x2), some (.int x3), some (.int x4), some (.int x5), some (.int x6), some (.int x7), none] [] σ
        refine h.run (o := []) (ls' := [some (.ref 0), some (.int x1), some (.int x2), some (.int x3), some (.int x4), some (.int x5), some (.int x6), some (.int x7), none]) (st' := [.int x5]) (σ' := σ) [(.iload 5, 2, 0, 0, 0, 0), (.goto 5, 3, 0, 0, 0, 102)] (pc2 := 102) (by decide +kernel) rfl trivial ?_
        refine h.drop (ls' := [none, none, none, none, none, none, none, none, none]) trivial ?_
        exact wX5_parts_102 hm hf
    · rw [if_neg c4] at hf
      show V 58 [some (.ref 0), some (.int x1), some (.int x2), some (.int x3), some (.int x4), some (.int x5), some (.int x6), some (.int x7), none] [] σ
      refine h.run (o := []) (ls' := [some (.ref 0), some (.int x1), some (.int x2), some (.int x3), some (.int x4), some (.int x5), some (.int x6), some (.int x7), none]) (st' := [.int x7, .int x3, .int x2, .int x1, .ref 0]) (σ' := σ) [(.aload_n 0, 1, 0, 0, 0, 0), (.iload_n 1, 1, 0, 0, 0, 0), (.iload_n 2, 1, 0, 0, 0, 0), (.iload_n 3, 1, 0, 0, 0, 0), (.iload 7, 2, 0, 0, 0, 0)] (pc2 := 64) (by decide +kernel) rfl trivial ?_
      obtain ⟨a2, σ2, e2, hf⟩ := bI_some hf
      refine h.callV (as := [.int x1, .int x2, .int x3, .int x7]) (rest := []) (by decide +kernel) lk5_194 cwX5_howUnlike kd_0 (kmX5_howUnlike l e2) rfl (Nat.le_of_ble_eq_true rfl) (Nat.le_of_ble_eq_true rfl) (Nat.le_of_ble_eq_true rfl) ?_
      show V 67 [some (.ref 0), some (.int x1), some (.int x2), some (.int x3), some (.int x4), some (.int x5), some (.int x6), some (.int x7), none] [.int a2] σ2
      refine h.run (o := []) (ls' := [some (.ref 0), some (.int x1), some (.int x2), some (.int x3), some (.int x4), some (.int x5), some (.int x6), some (.int x7), some (.int a2)]) (st' := [.int x6, .int a2]) (σ' := σ2) [(.istore 8, 2, 0, 0, 0, 0), (.iload 8, 2, 0, 0, 0, 0), (.iload 6, 2, 0, 0, 0, 0)] (pc2 := 73) (by decide +kernel) rfl trivial ?_
      refine h.icmp_le (tgt := 84) (show decode cX5_parts 73 = .ok (.if_icmp .le 11, 3) by decide +kernel) (by decide) (fun c3 => ?_) (fun c3 => ?_)
      · rw [if_pos c3] at hf
        refine h.drop (ls' := [some (.ref 0), some (.int x1), some (.int x2), some (.int x3), some (.int x4), some (.int x5), some (.int x6), some (.int x7), none]) (And.intro rfl (And.intro rfl (And.intro rfl (And.intro rfl (And.intro rfl (And.intro rfl (And.intro rfl (And.intro rfl trivial)))))))) ?_
        exact wX5_parts_84 hm ih hf
      · rw [if_neg c3] at hf
        show V 76 [some (.ref 0), some (.int x1), some (.int x2), some (.int x3), some (.int x4), some (.int x5), some (.int x6), some (.int x7), some (.int a2)] [] σ2
        refine h.run (o := []) (ls' := [some (.ref 0), some (.int x1), some (.int x2), some (.int x3), some (.int x4), some (.int x7), some (.int a2), some (.int x7), some (.int a2)]) (st' := []) (σ' := σ2) [(.iload 8, 2, 0, 0, 0, 0), (.istore 6, 2, 0, 0, 0, 0), (.iload 7, 2, 0, 0, 0, 0), (.istore 5, 2, 0, 0, 0, 0)] (pc2 := 84) (by decide +kernel) rfl trivial ?_
        refine h.drop (ls' := [some (.ref 0), some (.int x1), some (.int x2), some (.int x3), some (.int x4), some (.int x7), some (.int a2), some (.int x7), none]) (And.intro rfl (And.intro rfl (And.intro rfl (And.intro rfl (And.intro rfl (And.intro rfl (And.intro rfl (And.intro rfl trivial)))))))) ?_
        exact wX5_parts_84 hm ih hf
def fX5_parts (x1 : Int32) (x2 : Int32) (x3 : Int32) (x4 : Int32) (σ : ST) : Option (Int32 × ST) :=
  bR (fX5_areThere x1 x3 σ) fun a1 =>
  if a1 = 0 then
    fX5_parts_34 σ
  else
    bR (fX5_areThere x2 x3 σ) fun a2 =>
    if a2 = 0 then
      fX5_parts_34 σ
    else
      if x1 = x2 then
        fX5_parts_34 σ
      else
        if x4 < 0 then
          fX5_parts_34 σ
        else
          if x4 ≤ 1 then
            bI (fX5_howUnlike x1 x2 x3 1 σ) fun a3 σ3 =>
            fX5_parts_52 FU x1 x2 x3 x4 1 a3 2 σ3
          else
            fX5_parts_34 σ
set_option maxHeartbeats 4000000 in
theorem kmX5_parts (l : Launch) {x1 : Int32} {x2 : Int32} {x3 : Int32} {x4 : Int32} {σ : ST} {r : Int32} {τ : ST} (hf : fX5_parts x1 x2 x3 x4 σ = some (r, τ)) : KM l yX5_parts cX5_parts 9 (some .int) 6 139 [.ref 0, .int x1, .int x2, .int x3, .int x4] σ (some (.int r)) τ := by
  refine KM.intro (ow := 5) (by decide +kernel) rfl (Nat.le_of_ble_eq_true rfl) (fun V hm => ?_)
  show V 0 [some (.ref 0), some (.int x1), some (.int x2), some (.int x3), some (.int x4), none, none, none, none] [] σ
  have h := hm.bd
  unfold fX5_parts at hf
  refine h.run (o := []) (ls' := [some (.ref 0), some (.int x1), some (.int x2), some (.int x3), some (.int x4), none, none, none, none]) (st' := [.int x3, .int x1, .ref 0]) (σ' := σ) [(.aload_n 0, 1, 0, 0, 0, 0), (.iload_n 1, 1, 0, 0, 0, 0), (.iload_n 3, 1, 0, 0, 0, 0)] (pc2 := 3) (by decide +kernel) rfl trivial ?_
  obtain ⟨a1, e1, hf⟩ := bR_some hf
  refine h.callV (as := [.int x1, .int x3]) (rest := []) (by decide +kernel) lk5_117 cwX5_areThere kd_0 (kmX5_areThere l e1) rfl (Nat.le_of_ble_eq_true rfl) (Nat.le_of_ble_eq_true rfl) (Nat.le_of_ble_eq_true rfl) ?_
  show V 6 [some (.ref 0), some (.int x1), some (.int x2), some (.int x3), some (.int x4), none, none, none, none] [.int a1] σ
  refine h.if_eq (tgt := 34) (show decode cX5_parts 6 = .ok (.ifCond .eq 28, 3) by decide +kernel) (by decide) (fun c8 => ?_) (fun c8 => ?_)
  · rw [if_pos c8] at hf
    refine h.drop (ls' := [none, none, none, none, none, none, none, none, none]) trivial ?_
    exact wX5_parts_34 hm hf
  · rw [if_neg c8] at hf
    show V 9 [some (.ref 0), some (.int x1), some (.int x2), some (.int x3), some (.int x4), none, none, none, none] [] σ
    refine h.run (o := []) (ls' := [some (.ref 0), some (.int x1), some (.int x2), some (.int x3), some (.int x4), none, none, none, none]) (st' := [.int x3, .int x2, .ref 0]) (σ' := σ) [(.aload_n 0, 1, 0, 0, 0, 0), (.iload_n 2, 1, 0, 0, 0, 0), (.iload_n 3, 1, 0, 0, 0, 0)] (pc2 := 12) (by decide +kernel) rfl trivial ?_
    obtain ⟨a2, e2, hf⟩ := bR_some hf
    refine h.callV (as := [.int x2, .int x3]) (rest := []) (by decide +kernel) lk5_117 cwX5_areThere kd_0 (kmX5_areThere l e2) rfl (Nat.le_of_ble_eq_true rfl) (Nat.le_of_ble_eq_true rfl) (Nat.le_of_ble_eq_true rfl) ?_
    show V 15 [some (.ref 0), some (.int x1), some (.int x2), some (.int x3), some (.int x4), none, none, none, none] [.int a2] σ
    refine h.if_eq (tgt := 34) (show decode cX5_parts 15 = .ok (.ifCond .eq 19, 3) by decide +kernel) (by decide) (fun c7 => ?_) (fun c7 => ?_)
    · rw [if_pos c7] at hf
      refine h.drop (ls' := [none, none, none, none, none, none, none, none, none]) trivial ?_
      exact wX5_parts_34 hm hf
    · rw [if_neg c7] at hf
      show V 18 [some (.ref 0), some (.int x1), some (.int x2), some (.int x3), some (.int x4), none, none, none, none] [] σ
      refine h.run (o := []) (ls' := [some (.ref 0), some (.int x1), some (.int x2), some (.int x3), some (.int x4), none, none, none, none]) (st' := [.int x2, .int x1]) (σ' := σ) [(.iload_n 1, 1, 0, 0, 0, 0), (.iload_n 2, 1, 0, 0, 0, 0)] (pc2 := 20) (by decide +kernel) rfl trivial ?_
      refine h.icmp_eq (tgt := 34) (show decode cX5_parts 20 = .ok (.if_icmp .eq 14, 3) by decide +kernel) (by decide) (fun c6 => ?_) (fun c6 => ?_)
      · rw [if_pos c6] at hf
        refine h.drop (ls' := [none, none, none, none, none, none, none, none, none]) trivial ?_
        exact wX5_parts_34 hm hf
      · rw [if_neg c6] at hf
        show V 23 [some (.ref 0), some (.int x1), some (.int x2), some (.int x3), some (.int x4), none, none, none, none] [] σ
        refine h.run (o := []) (ls' := [some (.ref 0), some (.int x1), some (.int x2), some (.int x3), some (.int x4), none, none, none, none]) (st' := [.int x4]) (σ' := σ) [(.iload 4, 2, 0, 0, 0, 0)] (pc2 := 25) (by decide +kernel) rfl trivial ?_
        refine h.if_lt (tgt := 34) (show decode cX5_parts 25 = .ok (.ifCond .lt 9, 3) by decide +kernel) (by decide) (fun c5 => ?_) (fun c5 => ?_)
        · rw [if_pos c5] at hf
          refine h.drop (ls' := [none, none, none, none, none, none, none, none, none]) trivial ?_
          exact wX5_parts_34 hm hf
        · rw [if_neg c5] at hf
          show V 28 [some (.ref 0), some (.int x1), some (.int x2), some (.int x3), some (.int x4), none, none, none, none] [] σ
          refine h.run (o := []) (ls' := [some (.ref 0), some (.int x1), some (.int x2), some (.int x3), some (.int x4), none, none, none, none]) (st' := [.int 1, .int x4]) (σ' := σ) [(.iload 4, 2, 0, 0, 0, 0), (.iconst 1, 1, 1, 0, 0, 0)] (pc2 := 31) (by decide +kernel) rfl trivial ?_
          refine h.icmp_le (tgt := 36) (show decode cX5_parts 31 = .ok (.if_icmp .le 5, 3) by decide +kernel) (by decide) (fun c4 => ?_) (fun c4 => ?_)
          · rw [if_pos c4] at hf
            refine h.run (o := []) (ls' := [some (.ref 0), some (.int x1), some (.int x2), some (.int x3), some (.int x4), some (.int 1), none, none, none]) (st' := [.int 1, .int x3, .int x2, .int x1, .ref 0]) (σ' := σ) [(.iconst 1, 1, 1, 0, 0, 0), (.istore 5, 2, 0, 0, 0, 0), (.aload_n 0, 1, 0, 0, 0, 0), (.iload_n 1, 1, 0, 0, 0, 0), (.iload_n 2, 1, 0, 0, 0, 0), (.iload_n 3, 1, 0, 0, 0, 0), (.iconst 1, 1, 1, 0, 0, 0)] (pc2 := 44) (by decide +kernel) rfl trivial ?_
            obtain ⟨a3, σ3, e3, hf⟩ := bI_some hf
            refine h.callV (as := [.int x1, .int x2, .int x3, .int 1]) (rest := []) (by decide +kernel) lk5_194 cwX5_howUnlike kd_0 (kmX5_howUnlike l e3) rfl (Nat.le_of_ble_eq_true rfl) (Nat.le_of_ble_eq_true rfl) (Nat.le_of_ble_eq_true rfl) ?_
            show V 47 [some (.ref 0), some (.int x1), some (.int x2), some (.int x3), some (.int x4), some (.int 1), none, none, none] [.int a3] σ3
            refine h.run (o := []) (ls' := [some (.ref 0), some (.int x1), some (.int x2), some (.int x3), some (.int x4), some (.int 1), some (.int a3), some (.int 2), none]) (st' := []) (σ' := σ3) [(.istore 6, 2, 0, 0, 0, 0), (.iconst 2, 1, 2, 0, 0, 0), (.istore 7, 2, 0, 0, 0, 0)] (pc2 := 52) (by decide +kernel) rfl trivial ?_
            exact wX5_parts_52 hm FU x1 x2 x3 x4 1 a3 2 _ hf
          · rw [if_neg c4] at hf
            show V 34 [some (.ref 0), some (.int x1), some (.int x2), some (.int x3), some (.int x4), none, none, none, none] [] σ
            refine h.drop (ls' := [none, none, none, none, none, none, none, none, none]) trivial ?_
            exact wX5_parts_34 hm hf
def fX5_image (σ : ST) : Option (Int32 × ST) :=
  bR (fX0_become 2 1 σ) fun σ1 =>
  some ((setI σ1 0 2 1).1 10 3, setI σ1 0 2 1)
set_option maxHeartbeats 4000000 in
theorem kmX5_image (l : Launch) {σ : ST} {r : Int32} {τ : ST} (hf : fX5_image σ = some (r, τ)) : KM l yX5_image cX5_image 1 (some .int) 3 82 [.ref 0] σ (some (.int r)) τ := by
  refine KM.intro (ow := 5) (by decide +kernel) rfl (Nat.le_of_ble_eq_true rfl) (fun V hm => ?_)
  show V 0 [some (.ref 0)] [] σ
  have h := hm.bd
  unfold fX5_image at hf
  refine h.run (o := [kd 0 = 5, kd 0 = 5]) (ls' := [some (.ref 0)]) (st' := [.ref 1, .ref 2]) (σ' := σ) [(.aload_n 0, 1, 0, 0, 0, 0), (.getfield 16, 3, 0, 0, 5, 1), (.aload_n 0, 1, 0, 0, 0, 0), (.getfield 10, 3, 0, 0, 5, 0)] (pc2 := 8) (by decide +kernel) rfl (And.intro kd_0 (And.intro kd_0 trivial)) ?_
  obtain ⟨σ1, e1, hf⟩ := bR_some hf
  refine h.callV (as := [.ref 1]) (rest := []) (by decide +kernel) lk5_198 cwX0_become kd_2 (kmX0_become l kd_2 kd_1 e1) rfl (Nat.le_of_ble_eq_true rfl) (Nat.le_of_ble_eq_true rfl) (Nat.le_of_ble_eq_true rfl) ?_
  show V 11 [some (.ref 0)] [] σ1
  refine h.run (o := [kd 0 = 5, isb 1 = true, kd 0 = 5, kd 1 = 0, kd 10 = 4]) (ls' := [some (.ref 0)]) (st' := [.int ((setI σ1 0 2 1).1 10 3)]) (σ' := setI σ1 0 2 1) [(.aload_n 0, 1, 0, 0, 0, 0), (.iconst 1, 1, 1, 0, 0, 0), (.putfield 19, 3, 0, 0, 105, 2), (.aload_n 0, 1, 0, 0, 0, 0), (.getfield 10, 3, 0, 0, 5, 0), (.getfield 104, 3, 0, 0, 0, 5), (.getfield 71, 3, 0, 0, 4, 3)] (pc2 := 26) (by decide +kernel) rfl (And.intro kd_0 (And.intro rfl (And.intro kd_0 (And.intro kd_1 (And.intro kd_10 trivial))))) ?_
  obtain ⟨rfl, rfl⟩ := Prod.mk.inj (Option.some.inj hf)
  exact hm.iret (by decide +kernel)
def fX5_restore (σ : ST) : Option (Int32 × ST) :=
  if (σ.1 0 2) = 0 then
    some ((-3), σ)
  else
    bR (fX0_become 1 2 σ) fun σ1 =>
    some (σ1.1 10 3, σ1)
set_option maxHeartbeats 4000000 in
theorem kmX5_restore (l : Launch) {σ : ST} {r : Int32} {τ : ST} (hf : fX5_restore σ = some (r, τ)) : KM l yX5_restore cX5_restore 1 (some .int) 3 82 [.ref 0] σ (some (.int r)) τ := by
  refine KM.intro (ow := 5) (by decide +kernel) rfl (Nat.le_of_ble_eq_true rfl) (fun V hm => ?_)
  show V 0 [some (.ref 0)] [] σ
  have h := hm.bd
  unfold fX5_restore at hf
  refine h.run (o := [kd 0 = 5]) (ls' := [some (.ref 0)]) (st' := [.int (σ.1 0 2)]) (σ' := σ) [(.aload_n 0, 1, 0, 0, 0, 0), (.getfield 19, 3, 0, 0, 5, 2)] (pc2 := 4) (by decide +kernel) rfl (And.intro kd_0 trivial) ?_
  refine h.if_ne (tgt := 10) (show decode cX5_restore 4 = .ok (.ifCond .ne 6, 3) by decide +kernel) (by decide) (fun c2 => ?_) (fun c2 => ?_)
  · rw [if_neg c2] at hf
    refine h.run (o := [kd 0 = 5, kd 0 = 5]) (ls' := [some (.ref 0)]) (st' := [.ref 2, .ref 1]) (σ' := σ) [(.aload_n 0, 1, 0, 0, 0, 0), (.getfield 10, 3, 0, 0, 5, 0), (.aload_n 0, 1, 0, 0, 0, 0), (.getfield 16, 3, 0, 0, 5, 1)] (pc2 := 18) (by decide +kernel) rfl (And.intro kd_0 (And.intro kd_0 trivial)) ?_
    obtain ⟨σ1, e1, hf⟩ := bR_some hf
    refine h.callV (as := [.ref 2]) (rest := []) (by decide +kernel) lk5_198 cwX0_become kd_1 (kmX0_become l kd_1 kd_2 e1) rfl (Nat.le_of_ble_eq_true rfl) (Nat.le_of_ble_eq_true rfl) (Nat.le_of_ble_eq_true rfl) ?_
    show V 21 [some (.ref 0)] [] σ1
    refine h.run (o := [kd 0 = 5, kd 1 = 0, kd 10 = 4]) (ls' := [some (.ref 0)]) (st' := [.int (σ1.1 10 3)]) (σ' := σ1) [(.aload_n 0, 1, 0, 0, 0, 0), (.getfield 10, 3, 0, 0, 5, 0), (.getfield 104, 3, 0, 0, 0, 5), (.getfield 71, 3, 0, 0, 4, 3)] (pc2 := 31) (by decide +kernel) rfl (And.intro kd_0 (And.intro kd_1 (And.intro kd_10 trivial))) ?_
    obtain ⟨rfl, rfl⟩ := Prod.mk.inj (Option.some.inj hf)
    exact hm.iret (by decide +kernel)
  · rw [if_pos c2] at hf
    show V 7 [some (.ref 0)] [] σ
    refine h.run (o := []) (ls' := [some (.ref 0)]) (st' := [.int (-3)]) (σ' := σ) [(.bipush (-3), 2, (-3), 0, 0, 0)] (pc2 := 9) (by decide +kernel) rfl trivial ?_
    obtain ⟨rfl, rfl⟩ := Prod.mk.inj (Option.some.inj hf)
    exact hm.iret (by decide +kernel)
end
section
/-! Printed by wip/whole/prt.py: functions and walks. -/
def fX5_count (x1 : Int32) (σ : ST) : Option Int32 :=
  if x1 = 0 then
    some (σ.1 6 3)
  else
    if x1 = 1 then
      some (σ.1 8 3)
    else
      if x1 = 2 then
        some (σ.1 10 3)
      else
        if x1 = 3 then
          bR (fX4_sum 10 2 σ) fun a4 =>
          some a4
        else
          if x1 = 4 then
            bR (fX4_sum 10 4 σ) fun a6 =>
            some a6
          else
            if x1 = 5 then
              some (σ.1 1 0)
            else
              if x1 = 6 then
                some (σ.1 1 1)
              else
                some (-1)
set_option maxHeartbeats 4000000 in
theorem kmX5_count (l : Launch) {x1 : Int32} {σ : ST} {r : Int32} (hf : fX5_count x1 σ = some r) : KM l yX5_count cX5_count 2 (some .int) 3 69 [.ref 0, .int x1] σ (some (.int r)) σ := by
  refine KM.intro (ow := 5) (by decide +kernel) rfl (Nat.le_of_ble_eq_true rfl) (fun V hm => ?_)
  show V 0 [some (.ref 0), some (.int x1)] [] σ
  have h := hm.bd
  unfold fX5_count at hf
  refine h.run (o := []) (ls' := [some (.ref 0), some (.int x1)]) (st' := [.int x1]) (σ' := σ) [(.iload_n 1, 1, 0, 0, 0, 0)] (pc2 := 1) (by decide +kernel) rfl trivial ?_
  by_cases c1 : x1 = 0
  · rw [if_pos c1] at hf
    refine h.tableIn (off := 43) (tgt := 44) (show decode cX5_count 1 = .ok (.tableswitch 116 0 6 #[43, 54, 65, 76, 88, 100, 108], 43) by decide +kernel) (by rw [c1]; decide) (by rw [c1]; decide) (by rw [c1]; decide) (by decide) ?_
    refine h.run (o := [kd 0 = 5, kd 1 = 0, kd 6 = 4]) (ls' := [some (.ref 0), some (.int x1)]) (st' := [.int (σ.1 6 3)]) (σ' := σ) [(.aload_n 0, 1, 0, 0, 0, 0), (.getfield 10, 3, 0, 0, 5, 0), (.getfield 80, 3, 0, 0, 0, 3), (.getfield 71, 3, 0, 0, 4, 3)] (pc2 := 54) (by decide +kernel) rfl (And.intro kd_0 (And.intro kd_1 (And.intro kd_6 trivial))) ?_
    obtain rfl := Option.some.inj hf
    exact hm.iret (by decide +kernel)
  · rw [if_neg c1] at hf
    by_cases c2 : x1 = 1
    · rw [if_pos c2] at hf
      refine h.tableIn (off := 54) (tgt := 55) (show decode cX5_count 1 = .ok (.tableswitch 116 0 6 #[43, 54, 65, 76, 88, 100, 108], 43) by decide +kernel) (by rw [c2]; decide) (by rw [c2]; decide) (by rw [c2]; decide) (by decide) ?_
      refine h.run (o := [kd 0 = 5, kd 1 = 0, kd 8 = 4]) (ls' := [some (.ref 0), some (.int x1)]) (st' := [.int (σ.1 8 3)]) (σ' := σ) [(.aload_n 0, 1, 0, 0, 0, 0), (.getfield 10, 3, 0, 0, 5, 0), (.getfield 91, 3, 0, 0, 0, 4), (.getfield 71, 3, 0, 0, 4, 3)] (pc2 := 65) (by decide +kernel) rfl (And.intro kd_0 (And.intro kd_1 (And.intro kd_8 trivial))) ?_
      obtain rfl := Option.some.inj hf
      exact hm.iret (by decide +kernel)
    · rw [if_neg c2] at hf
      by_cases c3 : x1 = 2
      · rw [if_pos c3] at hf
        refine h.tableIn (off := 65) (tgt := 66) (show decode cX5_count 1 = .ok (.tableswitch 116 0 6 #[43, 54, 65, 76, 88, 100, 108], 43) by decide +kernel) (by rw [c3]; decide) (by rw [c3]; decide) (by rw [c3]; decide) (by decide) ?_
        refine h.run (o := [kd 0 = 5, kd 1 = 0, kd 10 = 4]) (ls' := [some (.ref 0), some (.int x1)]) (st' := [.int (σ.1 10 3)]) (σ' := σ) [(.aload_n 0, 1, 0, 0, 0, 0), (.getfield 10, 3, 0, 0, 5, 0), (.getfield 104, 3, 0, 0, 0, 5), (.getfield 71, 3, 0, 0, 4, 3)] (pc2 := 76) (by decide +kernel) rfl (And.intro kd_0 (And.intro kd_1 (And.intro kd_10 trivial))) ?_
        obtain rfl := Option.some.inj hf
        exact hm.iret (by decide +kernel)
      · rw [if_neg c3] at hf
        by_cases c5 : x1 = 3
        · rw [if_pos c5] at hf
          refine h.tableIn (off := 76) (tgt := 77) (show decode cX5_count 1 = .ok (.tableswitch 116 0 6 #[43, 54, 65, 76, 88, 100, 108], 43) by decide +kernel) (by rw [c5]; decide) (by rw [c5]; decide) (by rw [c5]; decide) (by decide) ?_
          refine h.run (o := [kd 0 = 5, kd 1 = 0]) (ls' := [some (.ref 0), some (.int x1)]) (st' := [.int 2, .ref 10]) (σ' := σ) [(.aload_n 0, 1, 0, 0, 0, 0), (.getfield 10, 3, 0, 0, 5, 0), (.getfield 104, 3, 0, 0, 0, 5), (.iconst 2, 1, 2, 0, 0, 0)] (pc2 := 85) (by decide +kernel) rfl (And.intro kd_0 (And.intro kd_1 trivial)) ?_
          obtain ⟨a4, e4, hf⟩ := bR_some hf
          refine h.callV (as := [.int 2]) (rest := []) (by decide +kernel) lk5_202 cwX4_sum kd_10 (kmX4_sum l kd_10 e4) rfl (Nat.le_of_ble_eq_true rfl) (Nat.le_of_ble_eq_true rfl) (Nat.le_of_ble_eq_true rfl) ?_
          show V 88 [some (.ref 0), some (.int x1)] [.int a4] σ
          obtain rfl := Option.some.inj hf
          exact hm.iret (by decide +kernel)
        · rw [if_neg c5] at hf
          by_cases c7 : x1 = 4
          · rw [if_pos c7] at hf
            refine h.tableIn (off := 88) (tgt := 89) (show decode cX5_count 1 = .ok (.tableswitch 116 0 6 #[43, 54, 65, 76, 88, 100, 108], 43) by decide +kernel) (by rw [c7]; decide) (by rw [c7]; decide) (by rw [c7]; decide) (by decide) ?_
            refine h.run (o := [kd 0 = 5, kd 1 = 0]) (ls' := [some (.ref 0), some (.int x1)]) (st' := [.int 4, .ref 10]) (σ' := σ) [(.aload_n 0, 1, 0, 0, 0, 0), (.getfield 10, 3, 0, 0, 5, 0), (.getfield 104, 3, 0, 0, 0, 5), (.iconst 4, 1, 4, 0, 0, 0)] (pc2 := 97) (by decide +kernel) rfl (And.intro kd_0 (And.intro kd_1 trivial)) ?_
            obtain ⟨a6, e6, hf⟩ := bR_some hf
            refine h.callV (as := [.int 4]) (rest := []) (by decide +kernel) lk5_202 cwX4_sum kd_10 (kmX4_sum l kd_10 e6) rfl (Nat.le_of_ble_eq_true rfl) (Nat.le_of_ble_eq_true rfl) (Nat.le_of_ble_eq_true rfl) ?_
            show V 100 [some (.ref 0), some (.int x1)] [.int a6] σ
            obtain rfl := Option.some.inj hf
            exact hm.iret (by decide +kernel)
          · rw [if_neg c7] at hf
            by_cases c8 : x1 = 5
            · rw [if_pos c8] at hf
              refine h.tableIn (off := 100) (tgt := 101) (show decode cX5_count 1 = .ok (.tableswitch 116 0 6 #[43, 54, 65, 76, 88, 100, 108], 43) by decide +kernel) (by rw [c8]; decide) (by rw [c8]; decide) (by rw [c8]; decide) (by decide) ?_
              refine h.run (o := [kd 0 = 5, kd 1 = 0]) (ls' := [some (.ref 0), some (.int x1)]) (st' := [.int (σ.1 1 0)]) (σ' := σ) [(.aload_n 0, 1, 0, 0, 0, 0), (.getfield 10, 3, 0, 0, 5, 0), (.getfield 107, 3, 0, 0, 0, 0)] (pc2 := 108) (by decide +kernel) rfl (And.intro kd_0 (And.intro kd_1 trivial)) ?_
              obtain rfl := Option.some.inj hf
              exact hm.iret (by decide +kernel)
            · rw [if_neg c8] at hf
              by_cases c9 : x1 = 6
              · rw [if_pos c9] at hf
                refine h.tableIn (off := 108) (tgt := 109) (show decode cX5_count 1 = .ok (.tableswitch 116 0 6 #[43, 54, 65, 76, 88, 100, 108], 43) by decide +kernel) (by rw [c9]; decide) (by rw [c9]; decide) (by rw [c9]; decide) (by decide) ?_
                refine h.run (o := [kd 0 = 5, kd 1 = 0]) (ls' := [some (.ref 0), some (.int x1)]) (st' := [.int (σ.1 1 1)]) (σ' := σ) [(.aload_n 0, 1, 0, 0, 0, 0), (.getfield 10, 3, 0, 0, 5, 0), (.getfield 110, 3, 0, 0, 0, 1)] (pc2 := 116) (by decide +kernel) rfl (And.intro kd_0 (And.intro kd_1 trivial)) ?_
                obtain rfl := Option.some.inj hf
                exact hm.iret (by decide +kernel)
              · rw [if_neg c9] at hf
                refine h.tableOut (tgt := 117) (show decode cX5_count 1 = .ok (.tableswitch 116 0 6 #[43, 54, 65, 76, 88, 100, 108], 43) by decide +kernel) (sw_out (fun i hl hh => ?_)) (by decide) ?_
                · rcases (show i = 0 ∨ i = 1 ∨ i = 2 ∨ i = 3 ∨ i = 4 ∨ i = 5 ∨ i = 6 by omega) with rfl | rfl | rfl | rfl | rfl | rfl | rfl
                  · exact sw_ne c1 (by decide)
                  · exact sw_ne c2 (by decide)
                  · exact sw_ne c3 (by decide)
                  · exact sw_ne c5 (by decide)
                  · exact sw_ne c7 (by decide)
                  · exact sw_ne c8 (by decide)
                  · exact sw_ne c9 (by decide)
                · refine h.run (o := []) (ls' := [some (.ref 0), some (.int x1)]) (st' := [.int (-1)]) (σ' := σ) [(.iconst (-1), 1, (-1), 0, 0, 0)] (pc2 := 118) (by decide +kernel) rfl trivial ?_
                  obtain rfl := Option.some.inj hf
                  exact hm.iret (by decide +kernel)
def fX5_keep_21 (σ : ST) : Option (Int32 × ST) :=
  some ((-1), σ)
set_option maxHeartbeats 4000000 in
theorem wX5_keep_21 {l : Launch} {V : Nat → List (Option Value) → List Value → ST → Prop} {r : Int32} {τ : ST} {σ : ST} (hm : BM l 5 cX5_keep 5 (some .int) 2 46 (some (.int r)) τ V) (hf : fX5_keep_21 σ = some (r, τ)) : V 21 [none, none, none, none, none] [] σ := by
  have h := hm.bd
  unfold fX5_keep_21 at hf
  refine h.run (o := []) (ls' := [none, none, none, none, none]) (st' := [.int (-1)]) (σ' := σ) [(.iconst (-1), 1, (-1), 0, 0, 0)] (pc2 := 22) (by decide +kernel) rfl trivial ?_
  obtain ⟨rfl, rfl⟩ := Prod.mk.inj (Option.some.inj hf)
  exact hm.iret (by decide +kernel)
def fX5_keep (x1 : Int32) (x2 : Int32) (x3 : Int32) (σ : ST) : Option (Int32 × ST) :=
  bR (fX5_shelfAt x1 σ) fun o1 =>
  match o1 with
  | none =>
    fX5_keep_21 σ
  | some s1 =>
    if x2 < 0 then
      fX5_keep_21 σ
    else
      if x2 ≤ 1 then
        if x2 = 0 then
          some (0, setI σ s1 0 0)
        else
          bR (fX4_has 6 x3 σ) fun a2 =>
          if a2 = 0 then
            some ((-1), σ)
          else
            bR (fX4_read 6 x3 0 (setI (setI σ s1 0 1) s1 1 x3)) fun a3 =>
            bR (fX4_read 6 x3 1 (setI (setI (setI σ s1 0 1) s1 1 x3) s1 2 a3)) fun a4 =>
            bR (fX4_read 6 x3 2 (setI (setI (setI (setI σ s1 0 1) s1 1 x3) s1 2 a3) s1 3 a4)) fun a5 =>
            some (0, setI (setI (setI (setI (setI σ s1 0 1) s1 1 x3) s1 2 a3) s1 3 a4) s1 4 a5)
      else
        fX5_keep_21 σ
set_option maxHeartbeats 4000000 in
theorem kmX5_keep (l : Launch) {x1 : Int32} {x2 : Int32} {x3 : Int32} {σ : ST} {r : Int32} {τ : ST} (hf : fX5_keep x1 x2 x3 σ = some (r, τ)) : KM l yX5_keep cX5_keep 5 (some .int) 2 46 [.ref 0, .int x1, .int x2, .int x3] σ (some (.int r)) τ := by
  refine KM.intro (ow := 5) (by decide +kernel) rfl (Nat.le_of_ble_eq_true rfl) (fun V hm => ?_)
  show V 0 [some (.ref 0), some (.int x1), some (.int x2), some (.int x3), none] [] σ
  have h := hm.bd
  unfold fX5_keep at hf
  refine h.run (o := []) (ls' := [some (.ref 0), some (.int x1), some (.int x2), some (.int x3), none]) (st' := [.int x1, .ref 0]) (σ' := σ) [(.aload_n 0, 1, 0, 0, 0, 0), (.iload_n 1, 1, 0, 0, 0, 0)] (pc2 := 2) (by decide +kernel) rfl trivial ?_
  obtain ⟨o1, e1, hf⟩ := bR_some hf
  refine h.callV (as := [.int x1]) (rest := []) (by decide +kernel) lk5_44 cwX5_shelfAt kd_0 (kmX5_shelfAt l e1) rfl (Nat.le_of_ble_eq_true rfl) (Nat.le_of_ble_eq_true rfl) (Nat.le_of_ble_eq_true rfl) ?_
  cases o1 with
  | none =>
    dsimp only at hf
    show V 5 [some (.ref 0), some (.int x1), some (.int x2), some (.int x3), none] [.null] σ
    refine h.run (o := []) (ls' := [some (.ref 0), some (.int x1), some (.int x2), some (.int x3), some (.null)]) (st' := [.null]) (σ' := σ) [(.astore 4, 2, 0, 0, 0, 0), (.aload 4, 2, 0, 0, 0, 0)] (pc2 := 9) (by decide +kernel) rfl trivial ?_
    refine h.ifnullN (show decode cX5_keep 9 = .ok (.ifnull 12, 3) by decide +kernel) (tgt := 21) (by decide) ?_
    refine h.drop (ls' := [none, none, none, none, none]) trivial ?_
    exact wX5_keep_21 hm hf
  | some s1 =>
    dsimp only at hf
    have hs1 : kd s1 = 3 := shelfAt_kd e1
    show V 5 [some (.ref 0), some (.int x1), some (.int x2), some (.int x3), none] [.ref s1] σ
    refine h.run (o := []) (ls' := [some (.ref 0), some (.int x1), some (.int x2), some (.int x3), some (.ref s1)]) (st' := [.ref s1]) (σ' := σ) [(.astore 4, 2, 0, 0, 0, 0), (.aload 4, 2, 0, 0, 0, 0)] (pc2 := 9) (by decide +kernel) rfl trivial ?_
    refine h.ifnull (show decode cX5_keep 9 = .ok (.ifnull 12, 3) by decide +kernel) ?_
    show V 12 [some (.ref 0), some (.int x1), some (.int x2), some (.int x3), some (.ref s1)] [] σ
    refine h.run (o := []) (ls' := [some (.ref 0), some (.int x1), some (.int x2), some (.int x3), some (.ref s1)]) (st' := [.int x2]) (σ' := σ) [(.iload_n 2, 1, 0, 0, 0, 0)] (pc2 := 13) (by decide +kernel) rfl trivial ?_
    refine h.if_lt (tgt := 21) (show decode cX5_keep 13 = .ok (.ifCond .lt 8, 3) by decide +kernel) (by decide) (fun c9 => ?_) (fun c9 => ?_)
    · rw [if_pos c9] at hf
      refine h.drop (ls' := [none, none, none, none, none]) trivial ?_
      exact wX5_keep_21 hm hf
    · rw [if_neg c9] at hf
      show V 16 [some (.ref 0), some (.int x1), some (.int x2), some (.int x3), some (.ref s1)] [] σ
      refine h.run (o := []) (ls' := [some (.ref 0), some (.int x1), some (.int x2), some (.int x3), some (.ref s1)]) (st' := [.int 1, .int x2]) (σ' := σ) [(.iload_n 2, 1, 0, 0, 0, 0), (.iconst 1, 1, 1, 0, 0, 0)] (pc2 := 18) (by decide +kernel) rfl trivial ?_
      refine h.icmp_le (tgt := 23) (show decode cX5_keep 18 = .ok (.if_icmp .le 5, 3) by decide +kernel) (by decide) (fun c8 => ?_) (fun c8 => ?_)
      · rw [if_pos c8] at hf
        refine h.run (o := []) (ls' := [some (.ref 0), some (.int x1), some (.int x2), some (.int x3), some (.ref s1)]) (st' := [.int x2]) (σ' := σ) [(.iload_n 2, 1, 0, 0, 0, 0)] (pc2 := 24) (by decide +kernel) rfl trivial ?_
        refine h.if_ne (tgt := 35) (show decode cX5_keep 24 = .ok (.ifCond .ne 11, 3) by decide +kernel) (by decide) (fun c7 => ?_) (fun c7 => ?_)
        · rw [if_neg c7] at hf
          refine h.run (o := [kd 0 = 5, kd 1 = 0]) (ls' := [some (.ref 0), some (.int x1), some (.int x2), some (.int x3), some (.ref s1)]) (st' := [.int x3, .ref 6]) (σ' := σ) [(.aload_n 0, 1, 0, 0, 0, 0), (.getfield 10, 3, 0, 0, 5, 0), (.getfield 80, 3, 0, 0, 0, 3), (.iload_n 3, 1, 0, 0, 0, 0)] (pc2 := 43) (by decide +kernel) rfl (And.intro kd_0 (And.intro kd_1 trivial)) ?_
          obtain ⟨a2, e2, hf⟩ := bR_some hf
          refine h.callV (as := [.int x3]) (rest := []) (by decide +kernel) lk5_83 cwX4_has kd_6 (kmX4_has l kd_6 e2) rfl (Nat.le_of_ble_eq_true rfl) (Nat.le_of_ble_eq_true rfl) (Nat.le_of_ble_eq_true rfl) ?_
          show V 46 [some (.ref 0), some (.int x1), some (.int x2), some (.int x3), some (.ref s1)] [.int a2] σ
          refine h.if_ne (tgt := 51) (show decode cX5_keep 46 = .ok (.ifCond .ne 5, 3) by decide +kernel) (by decide) (fun c6 => ?_) (fun c6 => ?_)
          · rw [if_neg c6] at hf
            refine h.run (o := [kd s1 = 3, kd s1 = 3, kd 0 = 5, kd 1 = 0]) (ls' := [some (.ref 0), some (.int x1), some (.int x2), some (.int x3), some (.ref s1)]) (st' := [.int 0, .int x3, .ref 6, .ref s1]) (σ' := setI (setI σ s1 0 1) s1 1 x3) [(.aload 4, 2, 0, 0, 0, 0), (.iconst 1, 1, 1, 0, 0, 0), (.putfield 204, 3, 0, 0, 3, 0), (.aload 4, 2, 0, 0, 0, 0), (.iload_n 3, 1, 0, 0, 0, 0), (.putfield 207, 3, 0, 0, 3, 1), (.aload 4, 2, 0, 0, 0, 0), (.aload_n 0, 1, 0, 0, 0, 0), (.getfield 10, 3, 0, 0, 5, 0), (.getfield 80, 3, 0, 0, 0, 3), (.iload_n 3, 1, 0, 0, 0, 0), (.iconst 0, 1, 0, 0, 0, 0)] (pc2 := 74) (by decide +kernel) rfl (And.intro hs1 (And.intro hs1 (And.intro kd_0 (And.intro kd_1 trivial)))) ?_
            obtain ⟨a3, e3, hf⟩ := bR_some hf
            refine h.callV (as := [.int x3, .int 0]) (rest := [.ref s1]) (by decide +kernel) lk5_87 cwX4_read kd_6 (kmX4_read l kd_6 e3) rfl (Nat.le_of_ble_eq_true rfl) (Nat.le_of_ble_eq_true rfl) (Nat.le_of_ble_eq_true rfl) ?_
            show V 77 [some (.ref 0), some (.int x1), some (.int x2), some (.int x3), some (.ref s1)] [.int a3, .ref s1] (setI (setI σ s1 0 1) s1 1 x3)
            refine h.run (o := [kd s1 = 3, kd 0 = 5, kd 1 = 0]) (ls' := [some (.ref 0), some (.int x1), some (.int x2), some (.int x3), some (.ref s1)]) (st' := [.int 1, .int x3, .ref 6, .ref s1]) (σ' := setI (setI (setI σ s1 0 1) s1 1 x3) s1 2 a3) [(.putfield 210, 3, 0, 0, 3, 2), (.aload 4, 2, 0, 0, 0, 0), (.aload_n 0, 1, 0, 0, 0, 0), (.getfield 10, 3, 0, 0, 5, 0), (.getfield 80, 3, 0, 0, 0, 3), (.iload_n 3, 1, 0, 0, 0, 0), (.iconst 1, 1, 1, 0, 0, 0)] (pc2 := 91) (by decide +kernel) rfl (And.intro hs1 (And.intro kd_0 (And.intro kd_1 trivial))) ?_
            obtain ⟨a4, e4, hf⟩ := bR_some hf
            refine h.callV (as := [.int x3, .int 1]) (rest := [.ref s1]) (by decide +kernel) lk5_87 cwX4_read kd_6 (kmX4_read l kd_6 e4) rfl (Nat.le_of_ble_eq_true rfl) (Nat.le_of_ble_eq_true rfl) (Nat.le_of_ble_eq_true rfl) ?_
            show V 94 [some (.ref 0), some (.int x1), some (.int x2), some (.int x3), some (.ref s1)] [.int a4, .ref s1] (setI (setI (setI σ s1 0 1) s1 1 x3) s1 2 a3)
            refine h.run (o := [kd s1 = 3, kd 0 = 5, kd 1 = 0]) (ls' := [some (.ref 0), some (.int x1), some (.int x2), some (.int x3), some (.ref s1)]) (st' := [.int 2, .int x3, .ref 6, .ref s1]) (σ' := setI (setI (setI (setI σ s1 0 1) s1 1 x3) s1 2 a3) s1 3 a4) [(.putfield 213, 3, 0, 0, 3, 3), (.aload 4, 2, 0, 0, 0, 0), (.aload_n 0, 1, 0, 0, 0, 0), (.getfield 10, 3, 0, 0, 5, 0), (.getfield 80, 3, 0, 0, 0, 3), (.iload_n 3, 1, 0, 0, 0, 0), (.iconst 2, 1, 2, 0, 0, 0)] (pc2 := 108) (by decide +kernel) rfl (And.intro hs1 (And.intro kd_0 (And.intro kd_1 trivial))) ?_
            obtain ⟨a5, e5, hf⟩ := bR_some hf
            refine h.callV (as := [.int x3, .int 2]) (rest := [.ref s1]) (by decide +kernel) lk5_87 cwX4_read kd_6 (kmX4_read l kd_6 e5) rfl (Nat.le_of_ble_eq_true rfl) (Nat.le_of_ble_eq_true rfl) (Nat.le_of_ble_eq_true rfl) ?_
            show V 111 [some (.ref 0), some (.int x1), some (.int x2), some (.int x3), some (.ref s1)] [.int a5, .ref s1] (setI (setI (setI (setI σ s1 0 1) s1 1 x3) s1 2 a3) s1 3 a4)
            refine h.run (o := [kd s1 = 3]) (ls' := [some (.ref 0), some (.int x1), some (.int x2), some (.int x3), some (.ref s1)]) (st' := [.int 0]) (σ' := setI (setI (setI (setI (setI σ s1 0 1) s1 1 x3) s1 2 a3) s1 3 a4) s1 4 a5) [(.putfield 216, 3, 0, 0, 3, 4), (.iconst 0, 1, 0, 0, 0, 0)] (pc2 := 115) (by decide +kernel) rfl (And.intro hs1 trivial) ?_
            obtain ⟨rfl, rfl⟩ := Prod.mk.inj (Option.some.inj hf)
            exact hm.iret (by decide +kernel)
          · rw [if_pos c6] at hf
            show V 49 [some (.ref 0), some (.int x1), some (.int x2), some (.int x3), some (.ref s1)] [] σ
            refine h.run (o := []) (ls' := [some (.ref 0), some (.int x1), some (.int x2), some (.int x3), some (.ref s1)]) (st' := [.int (-1)]) (σ' := σ) [(.iconst (-1), 1, (-1), 0, 0, 0)] (pc2 := 50) (by decide +kernel) rfl trivial ?_
            obtain ⟨rfl, rfl⟩ := Prod.mk.inj (Option.some.inj hf)
            exact hm.iret (by decide +kernel)
        · rw [if_pos c7] at hf
          show V 27 [some (.ref 0), some (.int x1), some (.int x2), some (.int x3), some (.ref s1)] [] σ
          refine h.run (o := [kd s1 = 3]) (ls' := [some (.ref 0), some (.int x1), some (.int x2), some (.int x3), some (.ref s1)]) (st' := [.int 0]) (σ' := setI σ s1 0 0) [(.aload 4, 2, 0, 0, 0, 0), (.iconst 0, 1, 0, 0, 0, 0), (.putfield 204, 3, 0, 0, 3, 0), (.iconst 0, 1, 0, 0, 0, 0)] (pc2 := 34) (by decide +kernel) rfl (And.intro hs1 trivial) ?_
          obtain ⟨rfl, rfl⟩ := Prod.mk.inj (Option.some.inj hf)
          exact hm.iret (by decide +kernel)
      · rw [if_neg c8] at hf
        show V 21 [some (.ref 0), some (.int x1), some (.int x2), some (.int x3), some (.ref s1)] [] σ
        refine h.drop (ls' := [none, none, none, none, none]) trivial ?_
        exact wX5_keep_21 hm hf
def fX5_row_27 (σ : ST) : Option (Int32 × ST) :=
  some ((-1), σ)
set_option maxHeartbeats 4000000 in
theorem wX5_row_27 {l : Launch} {V : Nat → List (Option Value) → List Value → ST → Prop} {r : Int32} {τ : ST} {σ : ST} (hm : BM l 5 cX5_row 5 (some .int) 1 23 (some (.int r)) τ V) (hf : fX5_row_27 σ = some (r, τ)) : V 27 [none, none, none, none, none] [] σ := by
  have h := hm.bd
  unfold fX5_row_27 at hf
  refine h.run (o := []) (ls' := [none, none, none, none, none]) (st' := [.int (-1)]) (σ' := σ) [(.iconst (-1), 1, (-1), 0, 0, 0)] (pc2 := 28) (by decide +kernel) rfl trivial ?_
  obtain ⟨rfl, rfl⟩ := Prod.mk.inj (Option.some.inj hf)
  exact hm.iret (by decide +kernel)
def fX5_row (x1 : Int32) (x2 : Int32) (x3 : Int32) (σ : ST) : Option (Int32 × ST) :=
  bR (fX5_shelfAt x1 σ) fun o1 =>
  match o1 with
  | none =>
    fX5_row_27 σ
  | some s1 =>
    if x2 < 0 then
      fX5_row_27 σ
    else
      if 2 < x2 then
        fX5_row_27 σ
      else
        if x3 ≤ 100 then
          if 0 ≤ x3 then
            bR (fX3_becomeRow s1 x2 x3 σ) fun σ2 =>
            some (0, σ2)
          else
            some ((-14), σ)
        else
          fX5_row_27 σ
set_option maxHeartbeats 4000000 in
theorem kmX5_row (l : Launch) {x1 : Int32} {x2 : Int32} {x3 : Int32} {σ : ST} {r : Int32} {τ : ST} (hf : fX5_row x1 x2 x3 σ = some (r, τ)) : KM l yX5_row cX5_row 5 (some .int) 1 23 [.ref 0, .int x1, .int x2, .int x3] σ (some (.int r)) τ := by
  refine KM.intro (ow := 5) (by decide +kernel) rfl (Nat.le_of_ble_eq_true rfl) (fun V hm => ?_)
  show V 0 [some (.ref 0), some (.int x1), some (.int x2), some (.int x3), none] [] σ
  have h := hm.bd
  unfold fX5_row at hf
  refine h.run (o := []) (ls' := [some (.ref 0), some (.int x1), some (.int x2), some (.int x3), none]) (st' := [.int x1, .ref 0]) (σ' := σ) [(.aload_n 0, 1, 0, 0, 0, 0), (.iload_n 1, 1, 0, 0, 0, 0)] (pc2 := 2) (by decide +kernel) rfl trivial ?_
  obtain ⟨o1, e1, hf⟩ := bR_some hf
  refine h.callV (as := [.int x1]) (rest := []) (by decide +kernel) lk5_44 cwX5_shelfAt kd_0 (kmX5_shelfAt l e1) rfl (Nat.le_of_ble_eq_true rfl) (Nat.le_of_ble_eq_true rfl) (Nat.le_of_ble_eq_true rfl) ?_
  cases o1 with
  | none =>
    dsimp only at hf
    show V 5 [some (.ref 0), some (.int x1), some (.int x2), some (.int x3), none] [.null] σ
    refine h.run (o := []) (ls' := [some (.ref 0), some (.int x1), some (.int x2), some (.int x3), some (.null)]) (st' := [.null]) (σ' := σ) [(.astore 4, 2, 0, 0, 0, 0), (.aload 4, 2, 0, 0, 0, 0)] (pc2 := 9) (by decide +kernel) rfl trivial ?_
    refine h.ifnullN (show decode cX5_row 9 = .ok (.ifnull 18, 3) by decide +kernel) (tgt := 27) (by decide) ?_
    refine h.drop (ls' := [none, none, none, none, none]) trivial ?_
    exact wX5_row_27 hm hf
  | some s1 =>
    dsimp only at hf
    have hs1 : kd s1 = 3 := shelfAt_kd e1
    show V 5 [some (.ref 0), some (.int x1), some (.int x2), some (.int x3), none] [.ref s1] σ
    refine h.run (o := []) (ls' := [some (.ref 0), some (.int x1), some (.int x2), some (.int x3), some (.ref s1)]) (st' := [.ref s1]) (σ' := σ) [(.astore 4, 2, 0, 0, 0, 0), (.aload 4, 2, 0, 0, 0, 0)] (pc2 := 9) (by decide +kernel) rfl trivial ?_
    refine h.ifnull (show decode cX5_row 9 = .ok (.ifnull 18, 3) by decide +kernel) ?_
    show V 12 [some (.ref 0), some (.int x1), some (.int x2), some (.int x3), some (.ref s1)] [] σ
    refine h.run (o := []) (ls' := [some (.ref 0), some (.int x1), some (.int x2), some (.int x3), some (.ref s1)]) (st' := [.int x2]) (σ' := σ) [(.iload_n 2, 1, 0, 0, 0, 0)] (pc2 := 13) (by decide +kernel) rfl trivial ?_
    refine h.if_lt (tgt := 27) (show decode cX5_row 13 = .ok (.ifCond .lt 14, 3) by decide +kernel) (by decide) (fun c6 => ?_) (fun c6 => ?_)
    · rw [if_pos c6] at hf
      refine h.drop (ls' := [none, none, none, none, none]) trivial ?_
      exact wX5_row_27 hm hf
    · rw [if_neg c6] at hf
      show V 16 [some (.ref 0), some (.int x1), some (.int x2), some (.int x3), some (.ref s1)] [] σ
      refine h.run (o := []) (ls' := [some (.ref 0), some (.int x1), some (.int x2), some (.int x3), some (.ref s1)]) (st' := [.int 2, .int x2]) (σ' := σ) [(.iload_n 2, 1, 0, 0, 0, 0), (.iconst 2, 1, 2, 0, 0, 0)] (pc2 := 18) (by decide +kernel) rfl trivial ?_
      refine h.icmp_gt (tgt := 27) (show decode cX5_row 18 = .ok (.if_icmp .gt 9, 3) by decide +kernel) (by decide) (fun c5 => ?_) (fun c5 => ?_)
      · rw [if_pos c5] at hf
        refine h.drop (ls' := [none, none, none, none, none]) trivial ?_
        exact wX5_row_27 hm hf
      · rw [if_neg c5] at hf
        show V 21 [some (.ref 0), some (.int x1), some (.int x2), some (.int x3), some (.ref s1)] [] σ
        refine h.run (o := []) (ls' := [some (.ref 0), some (.int x1), some (.int x2), some (.int x3), some (.ref s1)]) (st' := [.int 100, .int x3]) (σ' := σ) [(.iload_n 3, 1, 0, 0, 0, 0), (.bipush 100, 2, 100, 0, 0, 0)] (pc2 := 24) (by decide +kernel) rfl trivial ?_
        refine h.icmp_le (tgt := 29) (show decode cX5_row 24 = .ok (.if_icmp .le 5, 3) by decide +kernel) (by decide) (fun c4 => ?_) (fun c4 => ?_)
        · rw [if_pos c4] at hf
          refine h.run (o := []) (ls' := [some (.ref 0), some (.int x1), some (.int x2), some (.int x3), some (.ref s1)]) (st' := [.int x3]) (σ' := σ) [(.iload_n 3, 1, 0, 0, 0, 0)] (pc2 := 30) (by decide +kernel) rfl trivial ?_
          refine h.if_ge (tgt := 36) (show decode cX5_row 30 = .ok (.ifCond .ge 6, 3) by decide +kernel) (by decide) (fun c3 => ?_) (fun c3 => ?_)
          · rw [if_pos c3] at hf
            refine h.run (o := []) (ls' := [some (.ref 0), some (.int x1), some (.int x2), some (.int x3), some (.ref s1)]) (st' := [.int x3, .int x2, .ref s1]) (σ' := σ) [(.aload 4, 2, 0, 0, 0, 0), (.iload_n 2, 1, 0, 0, 0, 0), (.iload_n 3, 1, 0, 0, 0, 0)] (pc2 := 40) (by decide +kernel) rfl trivial ?_
            obtain ⟨σ2, e2, hf⟩ := bR_some hf
            refine h.callV (as := [.int x2, .int x3]) (rest := []) (by decide +kernel) lk5_217 cwX3_becomeRow hs1 (kmX3_becomeRow l hs1 e2) rfl (Nat.le_of_ble_eq_true rfl) (Nat.le_of_ble_eq_true rfl) (Nat.le_of_ble_eq_true rfl) ?_
            show V 43 [some (.ref 0), some (.int x1), some (.int x2), some (.int x3), some (.ref s1)] [] σ2
            refine h.run (o := []) (ls' := [some (.ref 0), some (.int x1), some (.int x2), some (.int x3), some (.ref s1)]) (st' := [.int 0]) (σ' := σ2) [(.iconst 0, 1, 0, 0, 0, 0)] (pc2 := 44) (by decide +kernel) rfl trivial ?_
            obtain ⟨rfl, rfl⟩ := Prod.mk.inj (Option.some.inj hf)
            exact hm.iret (by decide +kernel)
          · rw [if_neg c3] at hf
            show V 33 [some (.ref 0), some (.int x1), some (.int x2), some (.int x3), some (.ref s1)] [] σ
            refine h.run (o := []) (ls' := [some (.ref 0), some (.int x1), some (.int x2), some (.int x3), some (.ref s1)]) (st' := [.int (-14)]) (σ' := σ) [(.bipush (-14), 2, (-14), 0, 0, 0)] (pc2 := 35) (by decide +kernel) rfl trivial ?_
            obtain ⟨rfl, rfl⟩ := Prod.mk.inj (Option.some.inj hf)
            exact hm.iret (by decide +kernel)
        · rw [if_neg c4] at hf
          show V 27 [some (.ref 0), some (.int x1), some (.int x2), some (.int x3), some (.ref s1)] [] σ
          refine h.drop (ls' := [none, none, none, none, none]) trivial ?_
          exact wX5_row_27 hm hf
def fX5_put (x1 : Int32) (x2 : Int32) (x3 : Int32) (σ : ST) : Option (Int32 × ST) :=
  bR (fX5_shelfAt x1 σ) fun o1 =>
  match o1 with
  | none =>
    some ((-1), σ)
  | some s1 =>
    bR (fX3_refusalAsRow s1 σ) fun a2 =>
    if a2 = 0 then
      bR (fX3_has s1 x2 σ) fun a3 =>
      if a3 = 0 then
        some ((-13), σ)
      else
        bR (fX3_write s1 x2 x3 σ) fun σ4 =>
        some (0, σ4)
    else
      some (a2, σ)
set_option maxHeartbeats 4000000 in
theorem kmX5_put (l : Launch) {x1 : Int32} {x2 : Int32} {x3 : Int32} {σ : ST} {r : Int32} {τ : ST} (hf : fX5_put x1 x2 x3 σ = some (r, τ)) : KM l yX5_put cX5_put 6 (some .int) 2 43 [.ref 0, .int x1, .int x2, .int x3] σ (some (.int r)) τ := by
  refine KM.intro (ow := 5) (by decide +kernel) rfl (Nat.le_of_ble_eq_true rfl) (fun V hm => ?_)
  show V 0 [some (.ref 0), some (.int x1), some (.int x2), some (.int x3), none, none] [] σ
  have h := hm.bd
  unfold fX5_put at hf
  refine h.run (o := []) (ls' := [some (.ref 0), some (.int x1), some (.int x2), some (.int x3), none, none]) (st' := [.int x1, .ref 0]) (σ' := σ) [(.aload_n 0, 1, 0, 0, 0, 0), (.iload_n 1, 1, 0, 0, 0, 0)] (pc2 := 2) (by decide +kernel) rfl trivial ?_
  obtain ⟨o1, e1, hf⟩ := bR_some hf
  refine h.callV (as := [.int x1]) (rest := []) (by decide +kernel) lk5_44 cwX5_shelfAt kd_0 (kmX5_shelfAt l e1) rfl (Nat.le_of_ble_eq_true rfl) (Nat.le_of_ble_eq_true rfl) (Nat.le_of_ble_eq_true rfl) ?_
  cases o1 with
  | none =>
    dsimp only at hf
    show V 5 [some (.ref 0), some (.int x1), some (.int x2), some (.int x3), none, none] [.null] σ
    refine h.run (o := []) (ls' := [some (.ref 0), some (.int x1), some (.int x2), some (.int x3), some (.null), none]) (st' := [.null]) (σ' := σ) [(.astore 4, 2, 0, 0, 0, 0), (.aload 4, 2, 0, 0, 0, 0)] (pc2 := 9) (by decide +kernel) rfl trivial ?_
    refine h.ifnonnullN (show decode cX5_put 9 = .ok (.ifnonnull 5, 3) by decide +kernel) ?_
    show V 12 [some (.ref 0), some (.int x1), some (.int x2), some (.int x3), some (.null), none] [] σ
    refine h.run (o := []) (ls' := [some (.ref 0), some (.int x1), some (.int x2), some (.int x3), some (.null), none]) (st' := [.int (-1)]) (σ' := σ) [(.iconst (-1), 1, (-1), 0, 0, 0)] (pc2 := 13) (by decide +kernel) rfl trivial ?_
    obtain ⟨rfl, rfl⟩ := Prod.mk.inj (Option.some.inj hf)
    exact hm.iret (by decide +kernel)
  | some s1 =>
    dsimp only at hf
    have hs1 : kd s1 = 3 := shelfAt_kd e1
    show V 5 [some (.ref 0), some (.int x1), some (.int x2), some (.int x3), none, none] [.ref s1] σ
    refine h.run (o := []) (ls' := [some (.ref 0), some (.int x1), some (.int x2), some (.int x3), some (.ref s1), none]) (st' := [.ref s1]) (σ' := σ) [(.astore 4, 2, 0, 0, 0, 0), (.aload 4, 2, 0, 0, 0, 0)] (pc2 := 9) (by decide +kernel) rfl trivial ?_
    refine h.ifnonnull (show decode cX5_put 9 = .ok (.ifnonnull 5, 3) by decide +kernel) (tgt := 14) (by decide) ?_
    refine h.run (o := []) (ls' := [some (.ref 0), some (.int x1), some (.int x2), some (.int x3), some (.ref s1), none]) (st' := [.ref s1]) (σ' := σ) [(.aload 4, 2, 0, 0, 0, 0)] (pc2 := 16) (by decide +kernel) rfl trivial ?_
    obtain ⟨a2, e2, hf⟩ := bR_some hf
    refine h.callV (as := []) (rest := []) (by decide +kernel) lk5_48 cwX3_refusalAsRow hs1 (kmX3_refusalAsRow l hs1 e2) rfl (Nat.le_of_ble_eq_true rfl) (Nat.le_of_ble_eq_true rfl) (Nat.le_of_ble_eq_true rfl) ?_
    show V 19 [some (.ref 0), some (.int x1), some (.int x2), some (.int x3), some (.ref s1), none] [.int a2] σ
    refine h.run (o := []) (ls' := [some (.ref 0), some (.int x1), some (.int x2), some (.int x3), some (.ref s1), some (.int a2)]) (st' := [.int a2]) (σ' := σ) [(.istore 5, 2, 0, 0, 0, 0), (.iload 5, 2, 0, 0, 0, 0)] (pc2 := 23) (by decide +kernel) rfl trivial ?_
    refine h.if_eq (tgt := 29) (show decode cX5_put 23 = .ok (.ifCond .eq 6, 3) by decide +kernel) (by decide) (fun c6 => ?_) (fun c6 => ?_)
    · rw [if_pos c6] at hf
      refine h.run (o := []) (ls' := [some (.ref 0), some (.int x1), some (.int x2), some (.int x3), some (.ref s1), some (.int a2)]) (st' := [.int x2, .ref s1]) (σ' := σ) [(.aload 4, 2, 0, 0, 0, 0), (.iload_n 2, 1, 0, 0, 0, 0)] (pc2 := 32) (by decide +kernel) rfl trivial ?_
      obtain ⟨a3, e3, hf⟩ := bR_some hf
      refine h.callV (as := [.int x2]) (rest := []) (by decide +kernel) lk5_220 cwX3_has hs1 (kmX3_has l hs1 e3) rfl (Nat.le_of_ble_eq_true rfl) (Nat.le_of_ble_eq_true rfl) (Nat.le_of_ble_eq_true rfl) ?_
      show V 35 [some (.ref 0), some (.int x1), some (.int x2), some (.int x3), some (.ref s1), some (.int a2)] [.int a3] σ
      refine h.if_ne (tgt := 41) (show decode cX5_put 35 = .ok (.ifCond .ne 6, 3) by decide +kernel) (by decide) (fun c5 => ?_) (fun c5 => ?_)
      · rw [if_neg c5] at hf
        refine h.run (o := []) (ls' := [some (.ref 0), some (.int x1), some (.int x2), some (.int x3), some (.ref s1), some (.int a2)]) (st' := [.int x3, .int x2, .ref s1]) (σ' := σ) [(.aload 4, 2, 0, 0, 0, 0), (.iload_n 2, 1, 0, 0, 0, 0), (.iload_n 3, 1, 0, 0, 0, 0)] (pc2 := 45) (by decide +kernel) rfl trivial ?_
        obtain ⟨σ4, e4, hf⟩ := bR_some hf
        refine h.callV (as := [.int x2, .int x3]) (rest := []) (by decide +kernel) lk5_221 cwX3_write hs1 (kmX3_write l hs1 e4) rfl (Nat.le_of_ble_eq_true rfl) (Nat.le_of_ble_eq_true rfl) (Nat.le_of_ble_eq_true rfl) ?_
        show V 48 [some (.ref 0), some (.int x1), some (.int x2), some (.int x3), some (.ref s1), some (.int a2)] [] σ4
        refine h.run (o := []) (ls' := [some (.ref 0), some (.int x1), some (.int x2), some (.int x3), some (.ref s1), some (.int a2)]) (st' := [.int 0]) (σ' := σ4) [(.iconst 0, 1, 0, 0, 0, 0)] (pc2 := 49) (by decide +kernel) rfl trivial ?_
        obtain ⟨rfl, rfl⟩ := Prod.mk.inj (Option.some.inj hf)
        exact hm.iret (by decide +kernel)
      · rw [if_pos c5] at hf
        show V 38 [some (.ref 0), some (.int x1), some (.int x2), some (.int x3), some (.ref s1), some (.int a2)] [] σ
        refine h.run (o := []) (ls' := [some (.ref 0), some (.int x1), some (.int x2), some (.int x3), some (.ref s1), some (.int a2)]) (st' := [.int (-13)]) (σ' := σ) [(.bipush (-13), 2, (-13), 0, 0, 0)] (pc2 := 40) (by decide +kernel) rfl trivial ?_
        obtain ⟨rfl, rfl⟩ := Prod.mk.inj (Option.some.inj hf)
        exact hm.iret (by decide +kernel)
    · rw [if_neg c6] at hf
      show V 26 [some (.ref 0), some (.int x1), some (.int x2), some (.int x3), some (.ref s1), some (.int a2)] [] σ
      refine h.run (o := []) (ls' := [some (.ref 0), some (.int x1), some (.int x2), some (.int x3), some (.ref s1), some (.int a2)]) (st' := [.int a2]) (σ' := σ) [(.iload 5, 2, 0, 0, 0, 0)] (pc2 := 28) (by decide +kernel) rfl trivial ?_
      obtain ⟨rfl, rfl⟩ := Prod.mk.inj (Option.some.inj hf)
      exact hm.iret (by decide +kernel)
def fX5_copy_24 (σ : ST) : Option (Int32 × ST) :=
  some ((-1), σ)
set_option maxHeartbeats 4000000 in
theorem wX5_copy_24 {l : Launch} {V : Nat → List (Option Value) → List Value → ST → Prop} {r : Int32} {τ : ST} {σ : ST} (hm : BM l 5 cX5_copy 9 (some .int) 1 40 (some (.int r)) τ V) (hf : fX5_copy_24 σ = some (r, τ)) : V 24 [none, none, none, none, none, none, none, none, none] [] σ := by
  have h := hm.bd
  unfold fX5_copy_24 at hf
  refine h.run (o := []) (ls' := [none, none, none, none, none, none, none, none, none]) (st' := [.int (-1)]) (σ' := σ) [(.iconst (-1), 1, (-1), 0, 0, 0)] (pc2 := 25) (by decide +kernel) rfl trivial ?_
  obtain ⟨rfl, rfl⟩ := Prod.mk.inj (Option.some.inj hf)
  exact hm.iret (by decide +kernel)
def fX5_copy_82 (σ : ST) : Option (Int32 × ST) :=
  some ((-13), σ)
set_option maxHeartbeats 4000000 in
theorem wX5_copy_82 {l : Launch} {V : Nat → List (Option Value) → List Value → ST → Prop} {r : Int32} {τ : ST} {σ : ST} (hm : BM l 5 cX5_copy 9 (some .int) 1 40 (some (.int r)) τ V) (hf : fX5_copy_82 σ = some (r, τ)) : V 82 [none, none, none, none, none, none, none, none, none] [] σ := by
  have h := hm.bd
  unfold fX5_copy_82 at hf
  refine h.run (o := []) (ls' := [none, none, none, none, none, none, none, none, none]) (st' := [.int (-13)]) (σ' := σ) [(.bipush (-13), 2, (-13), 0, 0, 0)] (pc2 := 84) (by decide +kernel) rfl trivial ?_
  obtain ⟨rfl, rfl⟩ := Prod.mk.inj (Option.some.inj hf)
  exact hm.iret (by decide +kernel)
def fX5_copy (x1 : Int32) (x2 : Int32) (x3 : Int32) (x4 : Int32) (x5 : Int32) (σ : ST) : Option (Int32 × ST) :=
  bR (fX5_shelfAt x1 σ) fun o1 =>
  match o1 with
  | none =>
    bR (fX5_shelfAt x3 σ) fun o2 =>
    match o2 with
    | none =>
      fX5_copy_24 σ
    | some s2 =>
      fX5_copy_24 σ
  | some s1 =>
    bR (fX5_shelfAt x3 σ) fun o3 =>
    match o3 with
    | none =>
      fX5_copy_24 σ
    | some s3 =>
      bR (fX5_refusalAsRows s1 s3 σ) fun a4 =>
      if a4 = 0 then
        if (σ.1 s1 5) = (σ.1 s3 5) then
          bR (fX3_hasRun s1 x2 x5 σ) fun a5 =>
          if a5 = 0 then
            fX5_copy_82 σ
          else
            bR (fX3_hasRun s3 x4 x5 σ) fun a6 =>
            if a6 = 0 then
              fX5_copy_82 σ
            else
              gd (okCpy x2 x4 x5 (alen (s1 + 1)) (alen (s3 + 1))) <|
              some (x5, cpyI σ (s1 + 1) (s3 + 1) (x2 : Int32).toNatClampNeg (x4 : Int32).toNatClampNeg (x5 : Int32).toNatClampNeg)
        else
          some ((-12), σ)
      else
        some (a4, σ)
set_option maxHeartbeats 4000000 in
theorem kmX5_copy (l : Launch) {x1 : Int32} {x2 : Int32} {x3 : Int32} {x4 : Int32} {x5 : Int32} {σ : ST} {r : Int32} {τ : ST} (hf : fX5_copy x1 x2 x3 x4 x5 σ = some (r, τ)) : KM l yX5_copy cX5_copy 9 (some .int) 1 40 [.ref 0, .int x1, .int x2, .int x3, .int x4, .int x5] σ (some (.int r)) τ := by
  refine KM.intro (ow := 5) (by decide +kernel) rfl (Nat.le_of_ble_eq_true rfl) (fun V hm => ?_)
  show V 0 [some (.ref 0), some (.int x1), some (.int x2), some (.int x3), some (.int x4), some (.int x5), none, none, none] [] σ
  have h := hm.bd
  unfold fX5_copy at hf
  refine h.run (o := []) (ls' := [some (.ref 0), some (.int x1), some (.int x2), some (.int x3), some (.int x4), some (.int x5), none, none, none]) (st' := [.int x1, .ref 0]) (σ' := σ) [(.aload_n 0, 1, 0, 0, 0, 0), (.iload_n 1, 1, 0, 0, 0, 0)] (pc2 := 2) (by decide +kernel) rfl trivial ?_
  obtain ⟨o1, e1, hf⟩ := bR_some hf
  refine h.callV (as := [.int x1]) (rest := []) (by decide +kernel) lk5_44 cwX5_shelfAt kd_0 (kmX5_shelfAt l e1) rfl (Nat.le_of_ble_eq_true rfl) (Nat.le_of_ble_eq_true rfl) (Nat.le_of_ble_eq_true rfl) ?_
  cases o1 with
  | none =>
    dsimp only at hf
    show V 5 [some (.ref 0), some (.int x1), some (.int x2), some (.int x3), some (.int x4), some (.int x5), none, none, none] [.null] σ
    refine h.run (o := []) (ls' := [some (.ref 0), some (.int x1), some (.int x2), some (.int x3), some (.int x4), some (.int x5), some (.null), none, none]) (st' := [.int x3, .ref 0]) (σ' := σ) [(.astore 6, 2, 0, 0, 0, 0), (.aload_n 0, 1, 0, 0, 0, 0), (.iload_n 3, 1, 0, 0, 0, 0)] (pc2 := 9) (by decide +kernel) rfl trivial ?_
    obtain ⟨o2, e2, hf⟩ := bR_some hf
    refine h.callV (as := [.int x3]) (rest := []) (by decide +kernel) lk5_44 cwX5_shelfAt kd_0 (kmX5_shelfAt l e2) rfl (Nat.le_of_ble_eq_true rfl) (Nat.le_of_ble_eq_true rfl) (Nat.le_of_ble_eq_true rfl) ?_
    cases o2 with
    | none =>
      dsimp only at hf
      show V 12 [some (.ref 0), some (.int x1), some (.int x2), some (.int x3), some (.int x4), some (.int x5), some (.null), none, none] [.null] σ
      refine h.run (o := []) (ls' := [some (.ref 0), some (.int x1), some (.int x2), some (.int x3), some (.int x4), some (.int x5), some (.null), some (.null), none]) (st' := [.null]) (σ' := σ) [(.astore 7, 2, 0, 0, 0, 0), (.aload 6, 2, 0, 0, 0, 0)] (pc2 := 16) (by decide +kernel) rfl trivial ?_
      refine h.ifnullN (show decode cX5_copy 16 = .ok (.ifnull 8, 3) by decide +kernel) (tgt := 24) (by decide) ?_
      refine h.drop (ls' := [none, none, none, none, none, none, none, none, none]) trivial ?_
      exact wX5_copy_24 hm hf
    | some s2 =>
      dsimp only at hf
      have hs2 : kd s2 = 3 := shelfAt_kd e2
      show V 12 [some (.ref 0), some (.int x1), some (.int x2), some (.int x3), some (.int x4), some (.int x5), some (.null), none, none] [.ref s2] σ
      refine h.run (o := []) (ls' := [some (.ref 0), some (.int x1), some (.int x2), some (.int x3), some (.int x4), some (.int x5), some (.null), some (.ref s2), none]) (st' := [.null]) (σ' := σ) [(.astore 7, 2, 0, 0, 0, 0), (.aload 6, 2, 0, 0, 0, 0)] (pc2 := 16) (by decide +kernel) rfl trivial ?_
      refine h.ifnullN (show decode cX5_copy 16 = .ok (.ifnull 8, 3) by decide +kernel) (tgt := 24) (by decide) ?_
      refine h.drop (ls' := [none, none, none, none, none, none, none, none, none]) trivial ?_
      exact wX5_copy_24 hm hf
  | some s1 =>
    dsimp only at hf
    have hs1 : kd s1 = 3 := shelfAt_kd e1
    show V 5 [some (.ref 0), some (.int x1), some (.int x2), some (.int x3), some (.int x4), some (.int x5), none, none, none] [.ref s1] σ
    refine h.run (o := []) (ls' := [some (.ref 0), some (.int x1), some (.int x2), some (.int x3), some (.int x4), some (.int x5), some (.ref s1), none, none]) (st' := [.int x3, .ref 0]) (σ' := σ) [(.astore 6, 2, 0, 0, 0, 0), (.aload_n 0, 1, 0, 0, 0, 0), (.iload_n 3, 1, 0, 0, 0, 0)] (pc2 := 9) (by decide +kernel) rfl trivial ?_
    obtain ⟨o3, e3, hf⟩ := bR_some hf
    refine h.callV (as := [.int x3]) (rest := []) (by decide +kernel) lk5_44 cwX5_shelfAt kd_0 (kmX5_shelfAt l e3) rfl (Nat.le_of_ble_eq_true rfl) (Nat.le_of_ble_eq_true rfl) (Nat.le_of_ble_eq_true rfl) ?_
    cases o3 with
    | none =>
      dsimp only at hf
      show V 12 [some (.ref 0), some (.int x1), some (.int x2), some (.int x3), some (.int x4), some (.int x5), some (.ref s1), none, none] [.null] σ
      refine h.run (o := []) (ls' := [some (.ref 0), some (.int x1), some (.int x2), some (.int x3), some (.int x4), some (.int x5), some (.ref s1), some (.null), none]) (st' := [.ref s1]) (σ' := σ) [(.astore 7, 2, 0, 0, 0, 0), (.aload 6, 2, 0, 0, 0, 0)] (pc2 := 16) (by decide +kernel) rfl trivial ?_
      refine h.ifnull (show decode cX5_copy 16 = .ok (.ifnull 8, 3) by decide +kernel) ?_
      show V 19 [some (.ref 0), some (.int x1), some (.int x2), some (.int x3), some (.int x4), some (.int x5), some (.ref s1), some (.null), none] [] σ
      refine h.run (o := []) (ls' := [some (.ref 0), some (.int x1), some (.int x2), some (.int x3), some (.int x4), some (.int x5), some (.ref s1), some (.null), none]) (st' := [.null]) (σ' := σ) [(.aload 7, 2, 0, 0, 0, 0)] (pc2 := 21) (by decide +kernel) rfl trivial ?_
      refine h.ifnonnullN (show decode cX5_copy 21 = .ok (.ifnonnull 5, 3) by decide +kernel) ?_
      show V 24 [some (.ref 0), some (.int x1), some (.int x2), some (.int x3), some (.int x4), some (.int x5), some (.ref s1), some (.null), none] [] σ
      refine h.drop (ls' := [none, none, none, none, none, none, none, none, none]) trivial ?_
      exact wX5_copy_24 hm hf
    | some s3 =>
      dsimp only at hf
      have hs3 : kd s3 = 3 := shelfAt_kd e3
      show V 12 [some (.ref 0), some (.int x1), some (.int x2), some (.int x3), some (.int x4), some (.int x5), some (.ref s1), none, none] [.ref s3] σ
      refine h.run (o := []) (ls' := [some (.ref 0), some (.int x1), some (.int x2), some (.int x3), some (.int x4), some (.int x5), some (.ref s1), some (.ref s3), none]) (st' := [.ref s1]) (σ' := σ) [(.astore 7, 2, 0, 0, 0, 0), (.aload 6, 2, 0, 0, 0, 0)] (pc2 := 16) (by decide +kernel) rfl trivial ?_
      refine h.ifnull (show decode cX5_copy 16 = .ok (.ifnull 8, 3) by decide +kernel) ?_
      show V 19 [some (.ref 0), some (.int x1), some (.int x2), some (.int x3), some (.int x4), some (.int x5), some (.ref s1), some (.ref s3), none] [] σ
      refine h.run (o := []) (ls' := [some (.ref 0), some (.int x1), some (.int x2), some (.int x3), some (.int x4), some (.int x5), some (.ref s1), some (.ref s3), none]) (st' := [.ref s3]) (σ' := σ) [(.aload 7, 2, 0, 0, 0, 0)] (pc2 := 21) (by decide +kernel) rfl trivial ?_
      refine h.ifnonnull (show decode cX5_copy 21 = .ok (.ifnonnull 5, 3) by decide +kernel) (tgt := 26) (by decide) ?_
      refine h.run (o := []) (ls' := [some (.ref 0), some (.int x1), some (.int x2), some (.int x3), some (.int x4), some (.int x5), some (.ref s1), some (.ref s3), none]) (st' := [.ref s3, .ref s1]) (σ' := σ) [(.aload 6, 2, 0, 0, 0, 0), (.aload 7, 2, 0, 0, 0, 0)] (pc2 := 30) (by decide +kernel) rfl trivial ?_
      obtain ⟨a4, e4, hf⟩ := bR_some hf
      refine h.callS (as := [.ref s1, .ref s3]) (rest := []) (by decide +kernel) lk5_179 cwX5_refusalAsRows (kmX5_refusalAsRows l hs1 hs3 e4) rfl (Nat.le_of_ble_eq_true rfl) (Nat.le_of_ble_eq_true rfl) (Nat.le_of_ble_eq_true rfl) ?_
      show V 33 [some (.ref 0), some (.int x1), some (.int x2), some (.int x3), some (.int x4), some (.int x5), some (.ref s1), some (.ref s3), none] [.int a4] σ
      refine h.run (o := []) (ls' := [some (.ref 0), some (.int x1), some (.int x2), some (.int x3), some (.int x4), some (.int x5), some (.ref s1), some (.ref s3), some (.int a4)]) (st' := [.int a4]) (σ' := σ) [(.istore 8, 2, 0, 0, 0, 0), (.iload 8, 2, 0, 0, 0, 0)] (pc2 := 37) (by decide +kernel) rfl trivial ?_
      refine h.if_eq (tgt := 43) (show decode cX5_copy 37 = .ok (.ifCond .eq 6, 3) by decide +kernel) (by decide) (fun c11 => ?_) (fun c11 => ?_)
      · rw [if_pos c11] at hf
        refine h.run (o := [kd s1 = 3, kd s3 = 3]) (ls' := [some (.ref 0), some (.int x1), some (.int x2), some (.int x3), some (.int x4), some (.int x5), some (.ref s1), some (.ref s3), some (.int a4)]) (st' := [.int (σ.1 s3 5), .int (σ.1 s1 5)]) (σ' := σ) [(.aload 6, 2, 0, 0, 0, 0), (.getfield 52, 3, 0, 0, 3, 5), (.aload 7, 2, 0, 0, 0, 0), (.getfield 52, 3, 0, 0, 3, 5)] (pc2 := 53) (by decide +kernel) rfl (And.intro hs1 (And.intro hs3 trivial)) ?_
        refine h.icmp_eq (tgt := 59) (show decode cX5_copy 53 = .ok (.if_icmp .eq 6, 3) by decide +kernel) (by decide) (fun c10 => ?_) (fun c10 => ?_)
        · rw [if_pos c10] at hf
          refine h.run (o := []) (ls' := [some (.ref 0), some (.int x1), some (.int x2), some (.int x3), some (.int x4), some (.int x5), some (.ref s1), some (.ref s3), some (.int a4)]) (st' := [.int x5, .int x2, .ref s1]) (σ' := σ) [(.aload 6, 2, 0, 0, 0, 0), (.iload_n 2, 1, 0, 0, 0, 0), (.iload 5, 2, 0, 0, 0, 0)] (pc2 := 64) (by decide +kernel) rfl trivial ?_
          obtain ⟨a5, e5, hf⟩ := bR_some hf
          refine h.callV (as := [.int x2, .int x5]) (rest := []) (by decide +kernel) lk5_235 cwX3_hasRun hs1 (kmX3_hasRun l hs1 e5) rfl (Nat.le_of_ble_eq_true rfl) (Nat.le_of_ble_eq_true rfl) (Nat.le_of_ble_eq_true rfl) ?_
          show V 67 [some (.ref 0), some (.int x1), some (.int x2), some (.int x3), some (.int x4), some (.int x5), some (.ref s1), some (.ref s3), some (.int a4)] [.int a5] σ
          refine h.if_eq (tgt := 82) (show decode cX5_copy 67 = .ok (.ifCond .eq 15, 3) by decide +kernel) (by decide) (fun c9 => ?_) (fun c9 => ?_)
          · rw [if_pos c9] at hf
            refine h.drop (ls' := [none, none, none, none, none, none, none, none, none]) trivial ?_
            exact wX5_copy_82 hm hf
          · rw [if_neg c9] at hf
            show V 70 [some (.ref 0), some (.int x1), some (.int x2), some (.int x3), some (.int x4), some (.int x5), some (.ref s1), some (.ref s3), some (.int a4)] [] σ
            refine h.run (o := []) (ls' := [some (.ref 0), some (.int x1), some (.int x2), some (.int x3), some (.int x4), some (.int x5), some (.ref s1), some (.ref s3), some (.int a4)]) (st' := [.int x5, .int x4, .ref s3]) (σ' := σ) [(.aload 7, 2, 0, 0, 0, 0), (.iload 4, 2, 0, 0, 0, 0), (.iload 5, 2, 0, 0, 0, 0)] (pc2 := 76) (by decide +kernel) rfl trivial ?_
            obtain ⟨a6, e6, hf⟩ := bR_some hf
            refine h.callV (as := [.int x4, .int x5]) (rest := []) (by decide +kernel) lk5_235 cwX3_hasRun hs3 (kmX3_hasRun l hs3 e6) rfl (Nat.le_of_ble_eq_true rfl) (Nat.le_of_ble_eq_true rfl) (Nat.le_of_ble_eq_true rfl) ?_
            show V 79 [some (.ref 0), some (.int x1), some (.int x2), some (.int x3), some (.int x4), some (.int x5), some (.ref s1), some (.ref s3), some (.int a4)] [.int a6] σ
            refine h.if_ne (tgt := 85) (show decode cX5_copy 79 = .ok (.ifCond .ne 6, 3) by decide +kernel) (by decide) (fun c8 => ?_) (fun c8 => ?_)
            · rw [if_neg c8] at hf
              refine h.run (o := [kd s1 = 3, kd s3 = 3]) (ls' := [some (.ref 0), some (.int x1), some (.int x2), some (.int x3), some (.int x4), some (.int x5), some (.ref s1), some (.ref s3), some (.int a4)]) (st' := [.int x5, .int x4, .ref (s3 + 1), .int x2, .ref (s1 + 1)]) (σ' := σ) [(.aload 6, 2, 0, 0, 0, 0), (.getfield 238, 3, 0, 0, 3, 7), (.iload_n 2, 1, 0, 0, 0, 0), (.aload 7, 2, 0, 0, 0, 0), (.getfield 238, 3, 0, 0, 3, 7), (.iload 4, 2, 0, 0, 0, 0), (.iload 5, 2, 0, 0, 0, 0)] (pc2 := 100) (by decide +kernel) rfl (And.intro hs1 (And.intro hs3 trivial)) ?_
              obtain ⟨g7, hf⟩ := gd_some hf
              refine h.cpy jw_lc5 (by decide +kernel) (kd_S hs1).1 (kd_S hs3).1 g7 (Nat.le_of_ble_eq_true rfl) (Nat.le_of_ble_eq_true rfl) ?_
              show V 103 [some (.ref 0), some (.int x1), some (.int x2), some (.int x3), some (.int x4), some (.int x5), some (.ref s1), some (.ref s3), some (.int a4)] [] (cpyI σ (s1 + 1) (s3 + 1) (x2 : Int32).toNatClampNeg (x4 : Int32).toNatClampNeg (x5 : Int32).toNatClampNeg)
              refine h.run (o := []) (ls' := [some (.ref 0), some (.int x1), some (.int x2), some (.int x3), some (.int x4), some (.int x5), some (.ref s1), some (.ref s3), some (.int a4)]) (st' := [.int x5]) (σ' := cpyI σ (s1 + 1) (s3 + 1) (x2 : Int32).toNatClampNeg (x4 : Int32).toNatClampNeg (x5 : Int32).toNatClampNeg) [(.iload 5, 2, 0, 0, 0, 0)] (pc2 := 105) (by decide +kernel) rfl trivial ?_
              obtain ⟨rfl, rfl⟩ := Prod.mk.inj (Option.some.inj hf)
              exact hm.iret (by decide +kernel)
            · rw [if_pos c8] at hf
              show V 82 [some (.ref 0), some (.int x1), some (.int x2), some (.int x3), some (.int x4), some (.int x5), some (.ref s1), some (.ref s3), some (.int a4)] [] σ
              refine h.drop (ls' := [none, none, none, none, none, none, none, none, none]) trivial ?_
              exact wX5_copy_82 hm hf
        · rw [if_neg c10] at hf
          show V 56 [some (.ref 0), some (.int x1), some (.int x2), some (.int x3), some (.int x4), some (.int x5), some (.ref s1), some (.ref s3), some (.int a4)] [] σ
          refine h.run (o := []) (ls' := [some (.ref 0), some (.int x1), some (.int x2), some (.int x3), some (.int x4), some (.int x5), some (.ref s1), some (.ref s3), some (.int a4)]) (st' := [.int (-12)]) (σ' := σ) [(.bipush (-12), 2, (-12), 0, 0, 0)] (pc2 := 58) (by decide +kernel) rfl trivial ?_
          obtain ⟨rfl, rfl⟩ := Prod.mk.inj (Option.some.inj hf)
          exact hm.iret (by decide +kernel)
      · rw [if_neg c11] at hf
        show V 40 [some (.ref 0), some (.int x1), some (.int x2), some (.int x3), some (.int x4), some (.int x5), some (.ref s1), some (.ref s3), some (.int a4)] [] σ
        refine h.run (o := []) (ls' := [some (.ref 0), some (.int x1), some (.int x2), some (.int x3), some (.int x4), some (.int x5), some (.ref s1), some (.ref s3), some (.int a4)]) (st' := [.int a4]) (σ' := σ) [(.iload 8, 2, 0, 0, 0, 0)] (pc2 := 42) (by decide +kernel) rfl trivial ?_
        obtain ⟨rfl, rfl⟩ := Prod.mk.inj (Option.some.inj hf)
        exact hm.iret (by decide +kernel)
def fX5_faith_33 (t0 : Int32) (σ : ST) : Option Int32 :=
  some t0
set_option maxHeartbeats 4000000 in
theorem wX5_faith_33 {l : Launch} {V : Nat → List (Option Value) → List Value → ST → Prop} {r : Int32} {σ : ST} {t0 : Int32} (hm : BM l 5 cX5_faith 4 (some .int) 1 23 (some (.int r)) σ V) (hf : fX5_faith_33 t0 σ = some r) : V 33 [none, none, none, none] [.int t0] σ := by
  have h := hm.bd
  unfold fX5_faith_33 at hf
  obtain rfl := Option.some.inj hf
  exact hm.iret (by decide +kernel)
def fX5_faith (x1 : Int32) (σ : ST) : Option Int32 :=
  bR (fX5_shelfAt x1 σ) fun o1 =>
  match o1 with
  | none =>
    some (-1000000001)
  | some s1 =>
    bR (fX3_refusalAsSender s1 σ) fun a2 =>
    if a2 = 0 then
      bR (fX3_faithOfSender s1 σ) fun a3 =>
      fX5_faith_33 a3 σ
    else
      fX5_faith_33 ((-1000000000) + a2) σ
set_option maxHeartbeats 4000000 in
theorem kmX5_faith (l : Launch) {x1 : Int32} {σ : ST} {r : Int32} (hf : fX5_faith x1 σ = some r) : KM l yX5_faith cX5_faith 4 (some .int) 1 23 [.ref 0, .int x1] σ (some (.int r)) σ := by
  refine KM.intro (ow := 5) (by decide +kernel) rfl (Nat.le_of_ble_eq_true rfl) (fun V hm => ?_)
  show V 0 [some (.ref 0), some (.int x1), none, none] [] σ
  have h := hm.bd
  unfold fX5_faith at hf
  refine h.run (o := []) (ls' := [some (.ref 0), some (.int x1), none, none]) (st' := [.int x1, .ref 0]) (σ' := σ) [(.aload_n 0, 1, 0, 0, 0, 0), (.iload_n 1, 1, 0, 0, 0, 0)] (pc2 := 2) (by decide +kernel) rfl trivial ?_
  obtain ⟨o1, e1, hf⟩ := bR_some hf
  refine h.callV (as := [.int x1]) (rest := []) (by decide +kernel) lk5_44 cwX5_shelfAt kd_0 (kmX5_shelfAt l e1) rfl (Nat.le_of_ble_eq_true rfl) (Nat.le_of_ble_eq_true rfl) (Nat.le_of_ble_eq_true rfl) ?_
  cases o1 with
  | none =>
    dsimp only at hf
    show V 5 [some (.ref 0), some (.int x1), none, none] [.null] σ
    refine h.run (o := []) (ls' := [some (.ref 0), some (.int x1), some (.null), none]) (st' := [.null]) (σ' := σ) [(.astore_n 2, 1, 0, 0, 0, 0), (.aload_n 2, 1, 0, 0, 0, 0)] (pc2 := 7) (by decide +kernel) rfl trivial ?_
    refine h.ifnonnullN (show decode cX5_faith 7 = .ok (.ifnonnull 6, 3) by decide +kernel) ?_
    show V 10 [some (.ref 0), some (.int x1), some (.null), none] [] σ
    refine h.run (o := []) (ls' := [some (.ref 0), some (.int x1), some (.null), none]) (st' := [.int (-1000000001)]) (σ' := σ) [(.ldc 153, 2, (-1000000001), 0, 0, 0)] (pc2 := 12) (by decide +kernel) rfl trivial ?_
    obtain rfl := Option.some.inj hf
    exact hm.iret (by decide +kernel)
  | some s1 =>
    dsimp only at hf
    have hs1 : kd s1 = 3 := shelfAt_kd e1
    show V 5 [some (.ref 0), some (.int x1), none, none] [.ref s1] σ
    refine h.run (o := []) (ls' := [some (.ref 0), some (.int x1), some (.ref s1), none]) (st' := [.ref s1]) (σ' := σ) [(.astore_n 2, 1, 0, 0, 0, 0), (.aload_n 2, 1, 0, 0, 0, 0)] (pc2 := 7) (by decide +kernel) rfl trivial ?_
    refine h.ifnonnull (show decode cX5_faith 7 = .ok (.ifnonnull 6, 3) by decide +kernel) (tgt := 13) (by decide) ?_
    refine h.run (o := []) (ls' := [some (.ref 0), some (.int x1), some (.ref s1), none]) (st' := [.ref s1]) (σ' := σ) [(.aload_n 2, 1, 0, 0, 0, 0)] (pc2 := 14) (by decide +kernel) rfl trivial ?_
    obtain ⟨a2, e2, hf⟩ := bR_some hf
    refine h.callV (as := []) (rest := []) (by decide +kernel) lk5_248 cwX3_refusalAsSender hs1 (kmX3_refusalAsSender l hs1 e2) rfl (Nat.le_of_ble_eq_true rfl) (Nat.le_of_ble_eq_true rfl) (Nat.le_of_ble_eq_true rfl) ?_
    show V 17 [some (.ref 0), some (.int x1), some (.ref s1), none] [.int a2] σ
    refine h.run (o := []) (ls' := [some (.ref 0), some (.int x1), some (.ref s1), some (.int a2)]) (st' := [.int a2]) (σ' := σ) [(.istore_n 3, 1, 0, 0, 0, 0), (.iload_n 3, 1, 0, 0, 0, 0)] (pc2 := 19) (by decide +kernel) rfl trivial ?_
    refine h.if_eq (tgt := 29) (show decode cX5_faith 19 = .ok (.ifCond .eq 10, 3) by decide +kernel) (by decide) (fun c4 => ?_) (fun c4 => ?_)
    · rw [if_pos c4] at hf
      refine h.run (o := []) (ls' := [some (.ref 0), some (.int x1), some (.ref s1), some (.int a2)]) (st' := [.ref s1]) (σ' := σ) [(.aload_n 2, 1, 0, 0, 0, 0)] (pc2 := 30) (by decide +kernel) rfl trivial ?_
      obtain ⟨a3, e3, hf⟩ := bR_some hf
      refine h.callV (as := []) (rest := []) (by decide +kernel) lk5_251 cwX3_faithOfSender hs1 (kmX3_faithOfSender l hs1 e3) rfl (Nat.le_of_ble_eq_true rfl) (Nat.le_of_ble_eq_true rfl) (Nat.le_of_ble_eq_true rfl) ?_
      show V 33 [some (.ref 0), some (.int x1), some (.ref s1), some (.int a2)] [.int a3] σ
      refine h.drop (ls' := [none, none, none, none]) trivial ?_
      exact wX5_faith_33 hm hf
    · rw [if_neg c4] at hf
      show V 22 [some (.ref 0), some (.int x1), some (.ref s1), some (.int a2)] [] σ
      refine h.run (o := []) (ls' := [some (.ref 0), some (.int x1), some (.ref s1), some (.int a2)]) (st' := [.int ((-1000000000) + a2)]) (σ' := σ) [(.ldc 183, 2, (-1000000000), 0, 0, 0), (.iload_n 3, 1, 0, 0, 0, 0), (.iadd, 1, 0, 0, 0, 0), (.goto 7, 3, 0, 0, 0, 33)] (pc2 := 33) (by decide +kernel) rfl trivial ?_
      refine h.drop (ls' := [none, none, none, none]) trivial ?_
      exact wX5_faith_33 hm hf
end
