section
-- ===== PART A: goes FIRST, ahead of the names: the tables' words, and 'selects' of the private methods out of them =====
/-- a private method of a class that the tables say can be made, by its rows of tables_1 -/
def lw_okq (q : MethodName × Nat) : Prop := (q.1.cls ≠ "java/lang/invoke/MethodHandle" ∧ q.1.cls ≠ "java/lang/invoke/VarHandle") ∧ Cond.instantiable q.1.cls q.2 ∈ tables_1 ∧ Cond.privateMethod q.1 ∈ tables_1 ∧ Cond.instanceMethod q.1 ∈ tables_1
theorem lw_p0 : lw_okq (⟨"LastRest", "found", "(I)I"⟩, 9) := ⟨⟨by decide +kernel, by decide +kernel⟩, List.mem_of_getElem? (i := 14) (by decide +kernel), List.mem_of_getElem? (i := 309) (by decide +kernel), List.mem_of_getElem? (i := 310) (by decide +kernel)⟩
theorem lw_p1 : lw_okq (⟨"LastRest$Row", "make", "(II)V"⟩, 4) := ⟨⟨by decide +kernel, by decide +kernel⟩, List.mem_of_getElem? (i := 249) (by decide +kernel), List.mem_of_getElem? (i := 314) (by decide +kernel), List.mem_of_getElem? (i := 315) (by decide +kernel)⟩
theorem lw_p2 : lw_okq (⟨"LastRest", "foundNothing", "(I)I"⟩, 9) := ⟨⟨by decide +kernel, by decide +kernel⟩, List.mem_of_getElem? (i := 14) (by decide +kernel), List.mem_of_getElem? (i := 318) (by decide +kernel), List.mem_of_getElem? (i := 319) (by decide +kernel)⟩
theorem lw_p3 : lw_okq (⟨"LastRest$Row", "put", "(II)I"⟩, 4) := ⟨⟨by decide +kernel, by decide +kernel⟩, List.mem_of_getElem? (i := 249) (by decide +kernel), List.mem_of_getElem? (i := 326) (by decide +kernel), List.mem_of_getElem? (i := 327) (by decide +kernel)⟩
theorem lw_p4 : lw_okq (⟨"LastRest$Row", "cut", "(I)I"⟩, 4) := ⟨⟨by decide +kernel, by decide +kernel⟩, List.mem_of_getElem? (i := 249) (by decide +kernel), List.mem_of_getElem? (i := 330) (by decide +kernel), List.mem_of_getElem? (i := 331) (by decide +kernel)⟩
theorem lw_p5 : lw_okq (⟨"LastRest$Row", "holds", "(II)Z"⟩, 4) := ⟨⟨by decide +kernel, by decide +kernel⟩, List.mem_of_getElem? (i := 249) (by decide +kernel), List.mem_of_getElem? (i := 338) (by decide +kernel), List.mem_of_getElem? (i := 339) (by decide +kernel)⟩
theorem lw_p6 : lw_okq (⟨"LastRest$Reader", "append", "(I)I"⟩, 9) := ⟨⟨by decide +kernel, by decide +kernel⟩, List.mem_of_getElem? (i := 24) (by decide +kernel), List.mem_of_getElem? (i := 354) (by decide +kernel), List.mem_of_getElem? (i := 355) (by decide +kernel)⟩
theorem lw_p7 : lw_okq (⟨"LastRest$Reader", "readInto", "(LLastRest$Way;)Z"⟩, 9) := ⟨⟨by decide +kernel, by decide +kernel⟩, List.mem_of_getElem? (i := 24) (by decide +kernel), List.mem_of_getElem? (i := 362) (by decide +kernel), List.mem_of_getElem? (i := 363) (by decide +kernel)⟩
theorem lw_p8 : lw_okq (⟨"LastRest$Reader", "advance", "()V"⟩, 9) := ⟨⟨by decide +kernel, by decide +kernel⟩, List.mem_of_getElem? (i := 24) (by decide +kernel), List.mem_of_getElem? (i := 366) (by decide +kernel), List.mem_of_getElem? (i := 367) (by decide +kernel)⟩
theorem lw_p9 : lw_okq (⟨"LastRest$Reader", "takeFigures", "()V"⟩, 9) := ⟨⟨by decide +kernel, by decide +kernel⟩, List.mem_of_getElem? (i := 24) (by decide +kernel), List.mem_of_getElem? (i := 373) (by decide +kernel), List.mem_of_getElem? (i := 374) (by decide +kernel)⟩
theorem lw_p10 : lw_okq (⟨"LastRest$Reader", "readLegs", "(LLastRest$Way;)V"⟩, 9) := ⟨⟨by decide +kernel, by decide +kernel⟩, List.mem_of_getElem? (i := 24) (by decide +kernel), List.mem_of_getElem? (i := 377) (by decide +kernel), List.mem_of_getElem? (i := 378) (by decide +kernel)⟩
theorem lw_p11 : lw_okq (⟨"LastRest$Reader", "expect", "(I)V"⟩, 9) := ⟨⟨by decide +kernel, by decide +kernel⟩, List.mem_of_getElem? (i := 24) (by decide +kernel), List.mem_of_getElem? (i := 381) (by decide +kernel), List.mem_of_getElem? (i := 382) (by decide +kernel)⟩
theorem lw_p12 : lw_okq (⟨"LastRest$Reader", "blame", "(I)V"⟩, 9) := ⟨⟨by decide +kernel, by decide +kernel⟩, List.mem_of_getElem? (i := 24) (by decide +kernel), List.mem_of_getElem? (i := 385) (by decide +kernel), List.mem_of_getElem? (i := 386) (by decide +kernel)⟩
theorem lw_p13 : lw_okq (⟨"LastRest$Reader", "expectNumber", "(IIZ)I"⟩, 9) := ⟨⟨by decide +kernel, by decide +kernel⟩, List.mem_of_getElem? (i := 24) (by decide +kernel), List.mem_of_getElem? (i := 389) (by decide +kernel), List.mem_of_getElem? (i := 390) (by decide +kernel)⟩
theorem lw_p14 : lw_okq (⟨"LastRest$Reader", "accept", "(I)Z"⟩, 9) := ⟨⟨by decide +kernel, by decide +kernel⟩, List.mem_of_getElem? (i := 24) (by decide +kernel), List.mem_of_getElem? (i := 393) (by decide +kernel), List.mem_of_getElem? (i := 394) (by decide +kernel)⟩
theorem lw_p15 : lw_okq (⟨"LastRest$Reader", "readRule", "(LLastRest$Way;)V"⟩, 9) := ⟨⟨by decide +kernel, by decide +kernel⟩, List.mem_of_getElem? (i := 24) (by decide +kernel), List.mem_of_getElem? (i := 397) (by decide +kernel), List.mem_of_getElem? (i := 398) (by decide +kernel)⟩
def lw_privs_1 : List (MethodName × Nat) := [(⟨"LastRest", "found", "(I)I"⟩, 9), (⟨"LastRest$Row", "make", "(II)V"⟩, 4), (⟨"LastRest", "foundNothing", "(I)I"⟩, 9), (⟨"LastRest$Row", "put", "(II)I"⟩, 4), (⟨"LastRest$Row", "cut", "(I)I"⟩, 4), (⟨"LastRest$Row", "holds", "(II)Z"⟩, 4), (⟨"LastRest$Reader", "append", "(I)I"⟩, 9), (⟨"LastRest$Reader", "readInto", "(LLastRest$Way;)Z"⟩, 9), (⟨"LastRest$Reader", "advance", "()V"⟩, 9), (⟨"LastRest$Reader", "takeFigures", "()V"⟩, 9), (⟨"LastRest$Reader", "readLegs", "(LLastRest$Way;)V"⟩, 9), (⟨"LastRest$Reader", "expect", "(I)V"⟩, 9), (⟨"LastRest$Reader", "blame", "(I)V"⟩, 9), (⟨"LastRest$Reader", "expectNumber", "(IIZ)I"⟩, 9), (⟨"LastRest$Reader", "accept", "(I)Z"⟩, 9), (⟨"LastRest$Reader", "readRule", "(LLastRest$Way;)V"⟩, 9)]
theorem lw_r1 : ∀ q ∈ lw_privs_1, lw_okq q := List.forall_mem_cons.mpr ⟨lw_p0, List.forall_mem_cons.mpr ⟨lw_p1, List.forall_mem_cons.mpr ⟨lw_p2, List.forall_mem_cons.mpr ⟨lw_p3, List.forall_mem_cons.mpr ⟨lw_p4, List.forall_mem_cons.mpr ⟨lw_p5, List.forall_mem_cons.mpr ⟨lw_p6, List.forall_mem_cons.mpr ⟨lw_p7, List.forall_mem_cons.mpr ⟨lw_p8, List.forall_mem_cons.mpr ⟨lw_p9, List.forall_mem_cons.mpr ⟨lw_p10, List.forall_mem_cons.mpr ⟨lw_p11, List.forall_mem_cons.mpr ⟨lw_p12, List.forall_mem_cons.mpr ⟨lw_p13, List.forall_mem_cons.mpr ⟨lw_p14, List.forall_mem_cons.mpr ⟨lw_p15, fun _ h => absurd h List.not_mem_nil⟩⟩⟩⟩⟩⟩⟩⟩⟩⟩⟩⟩⟩⟩⟩⟩
theorem lw_p16 : lw_okq (⟨"LastRest$Reader", "readWalkers", "(LLastRest$Way;)V"⟩, 9) := ⟨⟨by decide +kernel, by decide +kernel⟩, List.mem_of_getElem? (i := 24) (by decide +kernel), List.mem_of_getElem? (i := 401) (by decide +kernel), List.mem_of_getElem? (i := 402) (by decide +kernel)⟩
theorem lw_p17 : lw_okq (⟨"LastRest$Reader", "expectSort", "(Z)I"⟩, 9) := ⟨⟨by decide +kernel, by decide +kernel⟩, List.mem_of_getElem? (i := 24) (by decide +kernel), List.mem_of_getElem? (i := 405) (by decide +kernel), List.mem_of_getElem? (i := 406) (by decide +kernel)⟩
theorem lw_p18 : lw_okq (⟨"LastRest$Walker", "begin", "(III)V"⟩, 7) := ⟨⟨by decide +kernel, by decide +kernel⟩, List.mem_of_getElem? (i := 75) (by decide +kernel), List.mem_of_getElem? (i := 412) (by decide +kernel), List.mem_of_getElem? (i := 413) (by decide +kernel)⟩
theorem lw_p19 : lw_okq (⟨"LastRest$Way", "become", "(LLastRest$Way;)V"⟩, 8) := ⟨⟨by decide +kernel, by decide +kernel⟩, List.mem_of_getElem? (i := 62) (by decide +kernel), List.mem_of_getElem? (i := 417) (by decide +kernel), List.mem_of_getElem? (i := 418) (by decide +kernel)⟩
theorem lw_p20 : lw_okq (⟨"LastRest$Party", "become", "(LLastRest$Party;)V"⟩, 3) := ⟨⟨by decide +kernel, by decide +kernel⟩, List.mem_of_getElem? (i := 68) (by decide +kernel), List.mem_of_getElem? (i := 422) (by decide +kernel), List.mem_of_getElem? (i := 423) (by decide +kernel)⟩
theorem lw_p21 : lw_okq (⟨"LastRest$Walker", "become", "(LLastRest$Walker;)V"⟩, 7) := ⟨⟨by decide +kernel, by decide +kernel⟩, List.mem_of_getElem? (i := 75) (by decide +kernel), List.mem_of_getElem? (i := 426) (by decide +kernel), List.mem_of_getElem? (i := 427) (by decide +kernel)⟩
theorem lw_p22 : lw_okq (⟨"LastRest$Acts", "forget", "()V"⟩, 3) := ⟨⟨by decide +kernel, by decide +kernel⟩, List.mem_of_getElem? (i := 183) (by decide +kernel), List.mem_of_getElem? (i := 430) (by decide +kernel), List.mem_of_getElem? (i := 431) (by decide +kernel)⟩
theorem lw_p23 : lw_okq (⟨"LastRest$Acts", "keep", "(LLastRest$Way;)V"⟩, 3) := ⟨⟨by decide +kernel, by decide +kernel⟩, List.mem_of_getElem? (i := 183) (by decide +kernel), List.mem_of_getElem? (i := 443) (by decide +kernel), List.mem_of_getElem? (i := 444) (by decide +kernel)⟩
theorem lw_p24 : lw_okq (⟨"LastRest$Way", "move", "(LLastRest$Party;III)V"⟩, 8) := ⟨⟨by decide +kernel, by decide +kernel⟩, List.mem_of_getElem? (i := 62) (by decide +kernel), List.mem_of_getElem? (i := 452) (by decide +kernel), List.mem_of_getElem? (i := 453) (by decide +kernel)⟩
theorem lw_p25 : lw_okq (⟨"LastRest$Party", "walkLeg", "(I)V"⟩, 3) := ⟨⟨by decide +kernel, by decide +kernel⟩, List.mem_of_getElem? (i := 68) (by decide +kernel), List.mem_of_getElem? (i := 456) (by decide +kernel), List.mem_of_getElem? (i := 457) (by decide +kernel)⟩
theorem lw_p26 : lw_okq (⟨"LastRest$Party", "firstToLeave", "()I"⟩, 3) := ⟨⟨by decide +kernel, by decide +kernel⟩, List.mem_of_getElem? (i := 68) (by decide +kernel), List.mem_of_getElem? (i := 460) (by decide +kernel), List.mem_of_getElem? (i := 461) (by decide +kernel)⟩
theorem lw_p27 : lw_okq (⟨"LastRest$Party", "isIn", "(I)Z"⟩, 3) := ⟨⟨by decide +kernel, by decide +kernel⟩, List.mem_of_getElem? (i := 68) (by decide +kernel), List.mem_of_getElem? (i := 464) (by decide +kernel), List.mem_of_getElem? (i := 465) (by decide +kernel)⟩
theorem lw_p28 : lw_okq (⟨"LastRest$Walker", "minutesFor", "(I)I"⟩, 7) := ⟨⟨by decide +kernel, by decide +kernel⟩, List.mem_of_getElem? (i := 75) (by decide +kernel), List.mem_of_getElem? (i := 468) (by decide +kernel), List.mem_of_getElem? (i := 469) (by decide +kernel)⟩
theorem lw_p29 : lw_okq (⟨"LastRest$Walker", "tiresBy", "(IZ)I"⟩, 7) := ⟨⟨by decide +kernel, by decide +kernel⟩, List.mem_of_getElem? (i := 75) (by decide +kernel), List.mem_of_getElem? (i := 475) (by decide +kernel), List.mem_of_getElem? (i := 476) (by decide +kernel)⟩
theorem lw_p30 : lw_okq (⟨"LastRest$Party", "leaveGate", "(II)V"⟩, 3) := ⟨⟨by decide +kernel, by decide +kernel⟩, List.mem_of_getElem? (i := 68) (by decide +kernel), List.mem_of_getElem? (i := 479) (by decide +kernel), List.mem_of_getElem? (i := 480) (by decide +kernel)⟩
theorem lw_p31 : lw_okq (⟨"LastRest$Party", "firstCame", "()I"⟩, 3) := ⟨⟨by decide +kernel, by decide +kernel⟩, List.mem_of_getElem? (i := 68) (by decide +kernel), List.mem_of_getElem? (i := 483) (by decide +kernel), List.mem_of_getElem? (i := 484) (by decide +kernel)⟩
def lw_privs_2 : List (MethodName × Nat) := [(⟨"LastRest$Reader", "readWalkers", "(LLastRest$Way;)V"⟩, 9), (⟨"LastRest$Reader", "expectSort", "(Z)I"⟩, 9), (⟨"LastRest$Walker", "begin", "(III)V"⟩, 7), (⟨"LastRest$Way", "become", "(LLastRest$Way;)V"⟩, 8), (⟨"LastRest$Party", "become", "(LLastRest$Party;)V"⟩, 3), (⟨"LastRest$Walker", "become", "(LLastRest$Walker;)V"⟩, 7), (⟨"LastRest$Acts", "forget", "()V"⟩, 3), (⟨"LastRest$Acts", "keep", "(LLastRest$Way;)V"⟩, 3), (⟨"LastRest$Way", "move", "(LLastRest$Party;III)V"⟩, 8), (⟨"LastRest$Party", "walkLeg", "(I)V"⟩, 3), (⟨"LastRest$Party", "firstToLeave", "()I"⟩, 3), (⟨"LastRest$Party", "isIn", "(I)Z"⟩, 3), (⟨"LastRest$Walker", "minutesFor", "(I)I"⟩, 7), (⟨"LastRest$Walker", "tiresBy", "(IZ)I"⟩, 7), (⟨"LastRest$Party", "leaveGate", "(II)V"⟩, 3), (⟨"LastRest$Party", "firstCame", "()I"⟩, 3)]
theorem lw_r2 : ∀ q ∈ lw_privs_2, lw_okq q := List.forall_mem_cons.mpr ⟨lw_p16, List.forall_mem_cons.mpr ⟨lw_p17, List.forall_mem_cons.mpr ⟨lw_p18, List.forall_mem_cons.mpr ⟨lw_p19, List.forall_mem_cons.mpr ⟨lw_p20, List.forall_mem_cons.mpr ⟨lw_p21, List.forall_mem_cons.mpr ⟨lw_p22, List.forall_mem_cons.mpr ⟨lw_p23, List.forall_mem_cons.mpr ⟨lw_p24, List.forall_mem_cons.mpr ⟨lw_p25, List.forall_mem_cons.mpr ⟨lw_p26, List.forall_mem_cons.mpr ⟨lw_p27, List.forall_mem_cons.mpr ⟨lw_p28, List.forall_mem_cons.mpr ⟨lw_p29, List.forall_mem_cons.mpr ⟨lw_p30, List.forall_mem_cons.mpr ⟨lw_p31, fun _ h => absurd h List.not_mem_nil⟩⟩⟩⟩⟩⟩⟩⟩⟩⟩⟩⟩⟩⟩⟩⟩
theorem lw_p32 : lw_okq (⟨"LastRest$Party", "lastCame", "()I"⟩, 3) := ⟨⟨by decide +kernel, by decide +kernel⟩, List.mem_of_getElem? (i := 68) (by decide +kernel), List.mem_of_getElem? (i := 487) (by decide +kernel), List.mem_of_getElem? (i := 488) (by decide +kernel)⟩
theorem lw_p33 : lw_okq (⟨"LastRest$Walker", "leaveAt", "(I)V"⟩, 7) := ⟨⟨by decide +kernel, by decide +kernel⟩, List.mem_of_getElem? (i := 75) (by decide +kernel), List.mem_of_getElem? (i := 495) (by decide +kernel), List.mem_of_getElem? (i := 496) (by decide +kernel)⟩
theorem lw_p34 : lw_okq (⟨"LastRest", "isWalker", "(I)Z"⟩, 9) := ⟨⟨by decide +kernel, by decide +kernel⟩, List.mem_of_getElem? (i := 14) (by decide +kernel), List.mem_of_getElem? (i := 510) (by decide +kernel), List.mem_of_getElem? (i := 511) (by decide +kernel)⟩
theorem lw_p35 : lw_okq (⟨"LastRest$Acts", "takeBack", "(LLastRest$Way;)V"⟩, 3) := ⟨⟨by decide +kernel, by decide +kernel⟩, List.mem_of_getElem? (i := 183) (by decide +kernel), List.mem_of_getElem? (i := 518) (by decide +kernel), List.mem_of_getElem? (i := 519) (by decide +kernel)⟩
theorem lw_p36 : lw_okq (⟨"LastRest$Foretold", "walkToHut", "(LLastRest$Way;II)I"⟩, 7) := ⟨⟨by decide +kernel, by decide +kernel⟩, List.mem_of_getElem? (i := 201) (by decide +kernel), List.mem_of_getElem? (i := 541) (by decide +kernel), List.mem_of_getElem? (i := 542) (by decide +kernel)⟩
theorem lw_p37 : lw_okq (⟨"LastRest$Foretold", "walkOn", "(LLastRest$Way;II)I"⟩, 7) := ⟨⟨by decide +kernel, by decide +kernel⟩, List.mem_of_getElem? (i := 201) (by decide +kernel), List.mem_of_getElem? (i := 546) (by decide +kernel), List.mem_of_getElem? (i := 547) (by decide +kernel)⟩
theorem lw_p38 : lw_okq (⟨"LastRest$Party", "lastMinute", "()I"⟩, 3) := ⟨⟨by decide +kernel, by decide +kernel⟩, List.mem_of_getElem? (i := 68) (by decide +kernel), List.mem_of_getElem? (i := 551) (by decide +kernel), List.mem_of_getElem? (i := 552) (by decide +kernel)⟩
theorem lw_p39 : lw_okq (⟨"LastRest$Foretold", "findSoonest", "(LLastRest$Way;)V"⟩, 7) := ⟨⟨by decide +kernel, by decide +kernel⟩, List.mem_of_getElem? (i := 201) (by decide +kernel), List.mem_of_getElem? (i := 563) (by decide +kernel), List.mem_of_getElem? (i := 564) (by decide +kernel)⟩
theorem lw_p40 : lw_okq (⟨"LastRest$Foretold", "startSearch", "()V"⟩, 7) := ⟨⟨by decide +kernel, by decide +kernel⟩, List.mem_of_getElem? (i := 201) (by decide +kernel), List.mem_of_getElem? (i := 567) (by decide +kernel), List.mem_of_getElem? (i := 568) (by decide +kernel)⟩
theorem lw_p41 : lw_okq (⟨"LastRest$Foretold", "keepIfLess", "(II)Z"⟩, 7) := ⟨⟨by decide +kernel, by decide +kernel⟩, List.mem_of_getElem? (i := 201) (by decide +kernel), List.mem_of_getElem? (i := 576) (by decide +kernel), List.mem_of_getElem? (i := 577) (by decide +kernel)⟩
theorem lw_p42 : lw_okq (⟨"LastRest$Foretold", "bestRule", "(I)I"⟩, 7) := ⟨⟨by decide +kernel, by decide +kernel⟩, List.mem_of_getElem? (i := 201) (by decide +kernel), List.mem_of_getElem? (i := 580) (by decide +kernel), List.mem_of_getElem? (i := 581) (by decide +kernel)⟩
theorem lw_p43 : lw_okq (⟨"LastRest$Foretold", "findFair", "(LLastRest$Way;)V"⟩, 7) := ⟨⟨by decide +kernel, by decide +kernel⟩, List.mem_of_getElem? (i := 201) (by decide +kernel), List.mem_of_getElem? (i := 592) (by decide +kernel), List.mem_of_getElem? (i := 593) (by decide +kernel)⟩
theorem lw_p44 : lw_okq (⟨"LastRest$Foretold", "greatestLoss", "()I"⟩, 7) := ⟨⟨by decide +kernel, by decide +kernel⟩, List.mem_of_getElem? (i := 201) (by decide +kernel), List.mem_of_getElem? (i := 596) (by decide +kernel), List.mem_of_getElem? (i := 597) (by decide +kernel)⟩
theorem lw_p45 : lw_okq (⟨"LastRest$Foretold", "findSacks", "(LLastRest$Way;)V"⟩, 7) := ⟨⟨by decide +kernel, by decide +kernel⟩, List.mem_of_getElem? (i := 201) (by decide +kernel), List.mem_of_getElem? (i := 606) (by decide +kernel), List.mem_of_getElem? (i := 607) (by decide +kernel)⟩
theorem lw_p46 : lw_okq (⟨"LastRest$Foretold", "nextOrder", "(I)Z"⟩, 7) := ⟨⟨by decide +kernel, by decide +kernel⟩, List.mem_of_getElem? (i := 201) (by decide +kernel), List.mem_of_getElem? (i := 611) (by decide +kernel), List.mem_of_getElem? (i := 612) (by decide +kernel)⟩
theorem lw_p47 : lw_okq (⟨"LastRest$Foretold", "swap", "(II)V"⟩, 7) := ⟨⟨by decide +kernel, by decide +kernel⟩, List.mem_of_getElem? (i := 201) (by decide +kernel), List.mem_of_getElem? (i := 615) (by decide +kernel), List.mem_of_getElem? (i := 616) (by decide +kernel)⟩
def lw_privs_3 : List (MethodName × Nat) := [(⟨"LastRest$Party", "lastCame", "()I"⟩, 3), (⟨"LastRest$Walker", "leaveAt", "(I)V"⟩, 7), (⟨"LastRest", "isWalker", "(I)Z"⟩, 9), (⟨"LastRest$Acts", "takeBack", "(LLastRest$Way;)V"⟩, 3), (⟨"LastRest$Foretold", "walkToHut", "(LLastRest$Way;II)I"⟩, 7), (⟨"LastRest$Foretold", "walkOn", "(LLastRest$Way;II)I"⟩, 7), (⟨"LastRest$Party", "lastMinute", "()I"⟩, 3), (⟨"LastRest$Foretold", "findSoonest", "(LLastRest$Way;)V"⟩, 7), (⟨"LastRest$Foretold", "startSearch", "()V"⟩, 7), (⟨"LastRest$Foretold", "keepIfLess", "(II)Z"⟩, 7), (⟨"LastRest$Foretold", "bestRule", "(I)I"⟩, 7), (⟨"LastRest$Foretold", "findFair", "(LLastRest$Way;)V"⟩, 7), (⟨"LastRest$Foretold", "greatestLoss", "()I"⟩, 7), (⟨"LastRest$Foretold", "findSacks", "(LLastRest$Way;)V"⟩, 7), (⟨"LastRest$Foretold", "nextOrder", "(I)Z"⟩, 7), (⟨"LastRest$Foretold", "swap", "(II)V"⟩, 7)]
theorem lw_r3 : ∀ q ∈ lw_privs_3, lw_okq q := List.forall_mem_cons.mpr ⟨lw_p32, List.forall_mem_cons.mpr ⟨lw_p33, List.forall_mem_cons.mpr ⟨lw_p34, List.forall_mem_cons.mpr ⟨lw_p35, List.forall_mem_cons.mpr ⟨lw_p36, List.forall_mem_cons.mpr ⟨lw_p37, List.forall_mem_cons.mpr ⟨lw_p38, List.forall_mem_cons.mpr ⟨lw_p39, List.forall_mem_cons.mpr ⟨lw_p40, List.forall_mem_cons.mpr ⟨lw_p41, List.forall_mem_cons.mpr ⟨lw_p42, List.forall_mem_cons.mpr ⟨lw_p43, List.forall_mem_cons.mpr ⟨lw_p44, List.forall_mem_cons.mpr ⟨lw_p45, List.forall_mem_cons.mpr ⟨lw_p46, List.forall_mem_cons.mpr ⟨lw_p47, fun _ h => absurd h List.not_mem_nil⟩⟩⟩⟩⟩⟩⟩⟩⟩⟩⟩⟩⟩⟩⟩⟩
theorem lw_p48 : lw_okq (⟨"LastRest$Foretold", "findParties", "(LLastRest$Way;)V"⟩, 7) := ⟨⟨by decide +kernel, by decide +kernel⟩, List.mem_of_getElem? (i := 201) (by decide +kernel), List.mem_of_getElem? (i := 623) (by decide +kernel), List.mem_of_getElem? (i := 624) (by decide +kernel)⟩
theorem lw_p49 : lw_okq (⟨"LastRest$Foretold", "walkSet", "(LLastRest$Way;I)I"⟩, 7) := ⟨⟨by decide +kernel, by decide +kernel⟩, List.mem_of_getElem? (i := 201) (by decide +kernel), List.mem_of_getElem? (i := 627) (by decide +kernel), List.mem_of_getElem? (i := 628) (by decide +kernel)⟩
theorem lw_p50 : lw_okq (⟨"LastRest$Foretold", "lastTurn", "(LLastRest$Way;)I"⟩, 7) := ⟨⟨by decide +kernel, by decide +kernel⟩, List.mem_of_getElem? (i := 201) (by decide +kernel), List.mem_of_getElem? (i := 635) (by decide +kernel), List.mem_of_getElem? (i := 636) (by decide +kernel)⟩
theorem lw_p51 : lw_okq (⟨"LastRest$Foretold", "walkBack", "(LLastRest$Way;I)I"⟩, 7) := ⟨⟨by decide +kernel, by decide +kernel⟩, List.mem_of_getElem? (i := 201) (by decide +kernel), List.mem_of_getElem? (i := 640) (by decide +kernel), List.mem_of_getElem? (i := 641) (by decide +kernel)⟩
theorem lw_p52 : lw_okq (⟨"LastRest$Foretold", "findFits", "(LLastRest$Way;ILLastRest$Row;II)V"⟩, 7) := ⟨⟨by decide +kernel, by decide +kernel⟩, List.mem_of_getElem? (i := 201) (by decide +kernel), List.mem_of_getElem? (i := 650) (by decide +kernel), List.mem_of_getElem? (i := 651) (by decide +kernel)⟩
theorem lw_p53 : lw_okq (⟨"LastRest$Foretold", "isSo", "(LLastRest$Way;IILLastRest$Row;II)Z"⟩, 7) := ⟨⟨by decide +kernel, by decide +kernel⟩, List.mem_of_getElem? (i := 201) (by decide +kernel), List.mem_of_getElem? (i := 654) (by decide +kernel), List.mem_of_getElem? (i := 655) (by decide +kernel)⟩
theorem lw_p54 : lw_okq (⟨"LastRest$Asker", "answer", "(LLastRest$Walker;II)I"⟩, 2) := ⟨⟨by decide +kernel, by decide +kernel⟩, List.mem_of_getElem? (i := 235) (by decide +kernel), List.mem_of_getElem? (i := 683) (by decide +kernel), List.mem_of_getElem? (i := 684) (by decide +kernel)⟩
theorem lw_p55 : lw_okq (⟨"LastRest$Asker", "sizeOf", "(LLastRest$Walker;II)I"⟩, 2) := ⟨⟨by decide +kernel, by decide +kernel⟩, List.mem_of_getElem? (i := 235) (by decide +kernel), List.mem_of_getElem? (i := 687) (by decide +kernel), List.mem_of_getElem? (i := 688) (by decide +kernel)⟩
theorem lw_p56 : lw_okq (⟨"LastRest$Asker", "begin", "(ILLastRest$Walker;II)I"⟩, 2) := ⟨⟨by decide +kernel, by decide +kernel⟩, List.mem_of_getElem? (i := 235) (by decide +kernel), List.mem_of_getElem? (i := 696) (by decide +kernel), List.mem_of_getElem? (i := 697) (by decide +kernel)⟩
theorem lw_p57 : lw_okq (⟨"LastRest$Asker", "leaveTrace", "(I)V"⟩, 2) := ⟨⟨by decide +kernel, by decide +kernel⟩, List.mem_of_getElem? (i := 235) (by decide +kernel), List.mem_of_getElem? (i := 700) (by decide +kernel), List.mem_of_getElem? (i := 701) (by decide +kernel)⟩
theorem lw_p58 : lw_okq (⟨"LastRest$Asker", "markOf", "(LLastRest$Walker;II)I"⟩, 2) := ⟨⟨by decide +kernel, by decide +kernel⟩, List.mem_of_getElem? (i := 235) (by decide +kernel), List.mem_of_getElem? (i := 704) (by decide +kernel), List.mem_of_getElem? (i := 705) (by decide +kernel)⟩
theorem lw_p59 : lw_okq (⟨"LastRest", "countRows", "()I"⟩, 9) := ⟨⟨by decide +kernel, by decide +kernel⟩, List.mem_of_getElem? (i := 14) (by decide +kernel), List.mem_of_getElem? (i := 718) (by decide +kernel), List.mem_of_getElem? (i := 719) (by decide +kernel)⟩
theorem lw_p60 : lw_okq (⟨"LastRestModel", "find", "(I)I"⟩, 28) := ⟨⟨by decide +kernel, by decide +kernel⟩, List.mem_of_getElem? (i := 726) (by decide +kernel), List.mem_of_getElem? (i := 831) (by decide +kernel), List.mem_of_getElem? (i := 832) (by decide +kernel)⟩
theorem lw_p61 : lw_okq (⟨"LastRestModel", "well", "(I)I"⟩, 28) := ⟨⟨by decide +kernel, by decide +kernel⟩, List.mem_of_getElem? (i := 726) (by decide +kernel), List.mem_of_getElem? (i := 836) (by decide +kernel), List.mem_of_getElem? (i := 837) (by decide +kernel)⟩
theorem lw_p62 : lw_okq (⟨"LastRestModel", "readWay", "()Z"⟩, 28) := ⟨⟨by decide +kernel, by decide +kernel⟩, List.mem_of_getElem? (i := 726) (by decide +kernel), List.mem_of_getElem? (i := 865) (by decide +kernel), List.mem_of_getElem? (i := 866) (by decide +kernel)⟩
theorem lw_p63 : lw_okq (⟨"LastRestModel", "nextToken", "()V"⟩, 28) := ⟨⟨by decide +kernel, by decide +kernel⟩, List.mem_of_getElem? (i := 726) (by decide +kernel), List.mem_of_getElem? (i := 869) (by decide +kernel), List.mem_of_getElem? (i := 870) (by decide +kernel)⟩
def lw_privs_4 : List (MethodName × Nat) := [(⟨"LastRest$Foretold", "findParties", "(LLastRest$Way;)V"⟩, 7), (⟨"LastRest$Foretold", "walkSet", "(LLastRest$Way;I)I"⟩, 7), (⟨"LastRest$Foretold", "lastTurn", "(LLastRest$Way;)I"⟩, 7), (⟨"LastRest$Foretold", "walkBack", "(LLastRest$Way;I)I"⟩, 7), (⟨"LastRest$Foretold", "findFits", "(LLastRest$Way;ILLastRest$Row;II)V"⟩, 7), (⟨"LastRest$Foretold", "isSo", "(LLastRest$Way;IILLastRest$Row;II)Z"⟩, 7), (⟨"LastRest$Asker", "answer", "(LLastRest$Walker;II)I"⟩, 2), (⟨"LastRest$Asker", "sizeOf", "(LLastRest$Walker;II)I"⟩, 2), (⟨"LastRest$Asker", "begin", "(ILLastRest$Walker;II)I"⟩, 2), (⟨"LastRest$Asker", "leaveTrace", "(I)V"⟩, 2), (⟨"LastRest$Asker", "markOf", "(LLastRest$Walker;II)I"⟩, 2), (⟨"LastRest", "countRows", "()I"⟩, 9), (⟨"LastRestModel", "find", "(I)I"⟩, 28), (⟨"LastRestModel", "well", "(I)I"⟩, 28), (⟨"LastRestModel", "readWay", "()Z"⟩, 28), (⟨"LastRestModel", "nextToken", "()V"⟩, 28)]
theorem lw_r4 : ∀ q ∈ lw_privs_4, lw_okq q := List.forall_mem_cons.mpr ⟨lw_p48, List.forall_mem_cons.mpr ⟨lw_p49, List.forall_mem_cons.mpr ⟨lw_p50, List.forall_mem_cons.mpr ⟨lw_p51, List.forall_mem_cons.mpr ⟨lw_p52, List.forall_mem_cons.mpr ⟨lw_p53, List.forall_mem_cons.mpr ⟨lw_p54, List.forall_mem_cons.mpr ⟨lw_p55, List.forall_mem_cons.mpr ⟨lw_p56, List.forall_mem_cons.mpr ⟨lw_p57, List.forall_mem_cons.mpr ⟨lw_p58, List.forall_mem_cons.mpr ⟨lw_p59, List.forall_mem_cons.mpr ⟨lw_p60, List.forall_mem_cons.mpr ⟨lw_p61, List.forall_mem_cons.mpr ⟨lw_p62, List.forall_mem_cons.mpr ⟨lw_p63, fun _ h => absurd h List.not_mem_nil⟩⟩⟩⟩⟩⟩⟩⟩⟩⟩⟩⟩⟩⟩⟩⟩
theorem lw_p64 : lw_okq (⟨"LastRestModel", "readLegs", "()Z"⟩, 28) := ⟨⟨by decide +kernel, by decide +kernel⟩, List.mem_of_getElem? (i := 726) (by decide +kernel), List.mem_of_getElem? (i := 880) (by decide +kernel), List.mem_of_getElem? (i := 881) (by decide +kernel)⟩
theorem lw_p65 : lw_okq (⟨"LastRestModel", "takes", "(I)Z"⟩, 28) := ⟨⟨by decide +kernel, by decide +kernel⟩, List.mem_of_getElem? (i := 726) (by decide +kernel), List.mem_of_getElem? (i := 884) (by decide +kernel), List.mem_of_getElem? (i := 885) (by decide +kernel)⟩
theorem lw_p66 : lw_okq (⟨"LastRestModel", "faults", "(I)Z"⟩, 28) := ⟨⟨by decide +kernel, by decide +kernel⟩, List.mem_of_getElem? (i := 726) (by decide +kernel), List.mem_of_getElem? (i := 888) (by decide +kernel), List.mem_of_getElem? (i := 889) (by decide +kernel)⟩
theorem lw_p67 : lw_okq (⟨"LastRestModel", "isNumber", "(II)Z"⟩, 28) := ⟨⟨by decide +kernel, by decide +kernel⟩, List.mem_of_getElem? (i := 726) (by decide +kernel), List.mem_of_getElem? (i := 892) (by decide +kernel), List.mem_of_getElem? (i := 893) (by decide +kernel)⟩
theorem lw_p68 : lw_okq (⟨"LastRestModel", "taken", "()I"⟩, 28) := ⟨⟨by decide +kernel, by decide +kernel⟩, List.mem_of_getElem? (i := 726) (by decide +kernel), List.mem_of_getElem? (i := 896) (by decide +kernel), List.mem_of_getElem? (i := 897) (by decide +kernel)⟩
theorem lw_p69 : lw_okq (⟨"LastRestModel", "readRule", "()Z"⟩, 28) := ⟨⟨by decide +kernel, by decide +kernel⟩, List.mem_of_getElem? (i := 726) (by decide +kernel), List.mem_of_getElem? (i := 900) (by decide +kernel), List.mem_of_getElem? (i := 901) (by decide +kernel)⟩
theorem lw_p70 : lw_okq (⟨"LastRestModel", "readWalker", "()Z"⟩, 28) := ⟨⟨by decide +kernel, by decide +kernel⟩, List.mem_of_getElem? (i := 726) (by decide +kernel), List.mem_of_getElem? (i := 904) (by decide +kernel), List.mem_of_getElem? (i := 905) (by decide +kernel)⟩
theorem lw_p71 : lw_okq (⟨"LastRestModel", "note", "()V"⟩, 28) := ⟨⟨by decide +kernel, by decide +kernel⟩, List.mem_of_getElem? (i := 726) (by decide +kernel), List.mem_of_getElem? (i := 918) (by decide +kernel), List.mem_of_getElem? (i := 919) (by decide +kernel)⟩
theorem lw_p72 : lw_okq (⟨"LastRestModel", "all", "()I"⟩, 28) := ⟨⟨by decide +kernel, by decide +kernel⟩, List.mem_of_getElem? (i := 726) (by decide +kernel), List.mem_of_getElem? (i := 922) (by decide +kernel), List.mem_of_getElem? (i := 923) (by decide +kernel)⟩
theorem lw_p73 : lw_okq (⟨"LastRestModel", "goOn", "()V"⟩, 28) := ⟨⟨by decide +kernel, by decide +kernel⟩, List.mem_of_getElem? (i := 726) (by decide +kernel), List.mem_of_getElem? (i := 926) (by decide +kernel), List.mem_of_getElem? (i := 927) (by decide +kernel)⟩
theorem lw_p74 : lw_okq (⟨"LastRestModel", "walk", "(I)V"⟩, 28) := ⟨⟨by decide +kernel, by decide +kernel⟩, List.mem_of_getElem? (i := 726) (by decide +kernel), List.mem_of_getElem? (i := 930) (by decide +kernel), List.mem_of_getElem? (i := 931) (by decide +kernel)⟩
theorem lw_p75 : lw_okq (⟨"LastRestModel", "first", "()I"⟩, 28) := ⟨⟨by decide +kernel, by decide +kernel⟩, List.mem_of_getElem? (i := 726) (by decide +kernel), List.mem_of_getElem? (i := 934) (by decide +kernel), List.mem_of_getElem? (i := 935) (by decide +kernel)⟩
theorem lw_p76 : lw_okq (⟨"LastRestModel", "takesFor", "(II)I"⟩, 28) := ⟨⟨by decide +kernel, by decide +kernel⟩, List.mem_of_getElem? (i := 726) (by decide +kernel), List.mem_of_getElem? (i := 941) (by decide +kernel), List.mem_of_getElem? (i := 942) (by decide +kernel)⟩
theorem lw_p77 : lw_okq (⟨"LastRestModel", "leave", "()V"⟩, 28) := ⟨⟨by decide +kernel, by decide +kernel⟩, List.mem_of_getElem? (i := 726) (by decide +kernel), List.mem_of_getElem? (i := 945) (by decide +kernel), List.mem_of_getElem? (i := 946) (by decide +kernel)⟩
theorem lw_p78 : lw_okq (⟨"LastRestModel", "isWalker", "(I)Z"⟩, 28) := ⟨⟨by decide +kernel, by decide +kernel⟩, List.mem_of_getElem? (i := 726) (by decide +kernel), List.mem_of_getElem? (i := 962) (by decide +kernel), List.mem_of_getElem? (i := 963) (by decide +kernel)⟩
theorem lw_p79 : lw_okq (⟨"LastRestModel", "putAside", "()V"⟩, 28) := ⟨⟨by decide +kernel, by decide +kernel⟩, List.mem_of_getElem? (i := 726) (by decide +kernel), List.mem_of_getElem? (i := 988) (by decide +kernel), List.mem_of_getElem? (i := 989) (by decide +kernel)⟩
def lw_privs_5 : List (MethodName × Nat) := [(⟨"LastRestModel", "readLegs", "()Z"⟩, 28), (⟨"LastRestModel", "takes", "(I)Z"⟩, 28), (⟨"LastRestModel", "faults", "(I)Z"⟩, 28), (⟨"LastRestModel", "isNumber", "(II)Z"⟩, 28), (⟨"LastRestModel", "taken", "()I"⟩, 28), (⟨"LastRestModel", "readRule", "()Z"⟩, 28), (⟨"LastRestModel", "readWalker", "()Z"⟩, 28), (⟨"LastRestModel", "note", "()V"⟩, 28), (⟨"LastRestModel", "all", "()I"⟩, 28), (⟨"LastRestModel", "goOn", "()V"⟩, 28), (⟨"LastRestModel", "walk", "(I)V"⟩, 28), (⟨"LastRestModel", "first", "()I"⟩, 28), (⟨"LastRestModel", "takesFor", "(II)I"⟩, 28), (⟨"LastRestModel", "leave", "()V"⟩, 28), (⟨"LastRestModel", "isWalker", "(I)Z"⟩, 28), (⟨"LastRestModel", "putAside", "()V"⟩, 28)]
theorem lw_r5 : ∀ q ∈ lw_privs_5, lw_okq q := List.forall_mem_cons.mpr ⟨lw_p64, List.forall_mem_cons.mpr ⟨lw_p65, List.forall_mem_cons.mpr ⟨lw_p66, List.forall_mem_cons.mpr ⟨lw_p67, List.forall_mem_cons.mpr ⟨lw_p68, List.forall_mem_cons.mpr ⟨lw_p69, List.forall_mem_cons.mpr ⟨lw_p70, List.forall_mem_cons.mpr ⟨lw_p71, List.forall_mem_cons.mpr ⟨lw_p72, List.forall_mem_cons.mpr ⟨lw_p73, List.forall_mem_cons.mpr ⟨lw_p74, List.forall_mem_cons.mpr ⟨lw_p75, List.forall_mem_cons.mpr ⟨lw_p76, List.forall_mem_cons.mpr ⟨lw_p77, List.forall_mem_cons.mpr ⟨lw_p78, List.forall_mem_cons.mpr ⟨lw_p79, fun _ h => absurd h List.not_mem_nil⟩⟩⟩⟩⟩⟩⟩⟩⟩⟩⟩⟩⟩⟩⟩⟩
theorem lw_p80 : lw_okq (⟨"LastRestModel", "toHut", "(I)I"⟩, 28) := ⟨⟨by decide +kernel, by decide +kernel⟩, List.mem_of_getElem? (i := 726) (by decide +kernel), List.mem_of_getElem? (i := 992) (by decide +kernel), List.mem_of_getElem? (i := 993) (by decide +kernel)⟩
theorem lw_p81 : lw_okq (⟨"LastRestModel", "takeBack", "()V"⟩, 28) := ⟨⟨by decide +kernel, by decide +kernel⟩, List.mem_of_getElem? (i := 726) (by decide +kernel), List.mem_of_getElem? (i := 996) (by decide +kernel), List.mem_of_getElem? (i := 997) (by decide +kernel)⟩
theorem lw_p82 : lw_okq (⟨"LastRestModel", "tryAll", "(II)I"⟩, 28) := ⟨⟨by decide +kernel, by decide +kernel⟩, List.mem_of_getElem? (i := 726) (by decide +kernel), List.mem_of_getElem? (i := 1004) (by decide +kernel), List.mem_of_getElem? (i := 1005) (by decide +kernel)⟩
theorem lw_p83 : lw_okq (⟨"LastRestModel", "findThen", "(IIZ)V"⟩, 28) := ⟨⟨by decide +kernel, by decide +kernel⟩, List.mem_of_getElem? (i := 726) (by decide +kernel), List.mem_of_getElem? (i := 1016) (by decide +kernel), List.mem_of_getElem? (i := 1017) (by decide +kernel)⟩
theorem lw_p84 : lw_okq (⟨"LastRestModel", "nextRow", "(I)Z"⟩, 28) := ⟨⟨by decide +kernel, by decide +kernel⟩, List.mem_of_getElem? (i := 726) (by decide +kernel), List.mem_of_getElem? (i := 1029) (by decide +kernel), List.mem_of_getElem? (i := 1030) (by decide +kernel)⟩
theorem lw_p85 : lw_okq (⟨"LastRestModel", "exchange", "(II)V"⟩, 28) := ⟨⟨by decide +kernel, by decide +kernel⟩, List.mem_of_getElem? (i := 726) (by decide +kernel), List.mem_of_getElem? (i := 1033) (by decide +kernel), List.mem_of_getElem? (i := 1034) (by decide +kernel)⟩
theorem lw_p86 : lw_okq (⟨"LastRestModel", "isBack", "()Z"⟩, 28) := ⟨⟨by decide +kernel, by decide +kernel⟩, List.mem_of_getElem? (i := 726) (by decide +kernel), List.mem_of_getElem? (i := 1045) (by decide +kernel), List.mem_of_getElem? (i := 1046) (by decide +kernel)⟩
theorem lw_p87 : lw_okq (⟨"LastRestModel", "fitsBy", "(IIIII)Z"⟩, 28) := ⟨⟨by decide +kernel, by decide +kernel⟩, List.mem_of_getElem? (i := 726) (by decide +kernel), List.mem_of_getElem? (i := 1054) (by decide +kernel), List.mem_of_getElem? (i := 1055) (by decide +kernel)⟩
theorem lw_p88 : lw_okq (⟨"LastRestModel", "sizeOf", "(I)I"⟩, 28) := ⟨⟨by decide +kernel, by decide +kernel⟩, List.mem_of_getElem? (i := 726) (by decide +kernel), List.mem_of_getElem? (i := 1082) (by decide +kernel), List.mem_of_getElem? (i := 1083) (by decide +kernel)⟩
theorem lw_p89 : lw_okq (⟨"LastRestModel", "begin", "(I)V"⟩, 28) := ⟨⟨by decide +kernel, by decide +kernel⟩, List.mem_of_getElem? (i := 726) (by decide +kernel), List.mem_of_getElem? (i := 1086) (by decide +kernel), List.mem_of_getElem? (i := 1087) (by decide +kernel)⟩
theorem lw_p90 : lw_okq (⟨"LastRestModel", "steadySize", "(I)I"⟩, 28) := ⟨⟨by decide +kernel, by decide +kernel⟩, List.mem_of_getElem? (i := 726) (by decide +kernel), List.mem_of_getElem? (i := 1090) (by decide +kernel), List.mem_of_getElem? (i := 1091) (by decide +kernel)⟩
theorem lw_p91 : lw_okq (⟨"LastRestModel", "lent", "(II)I"⟩, 28) := ⟨⟨by decide +kernel, by decide +kernel⟩, List.mem_of_getElem? (i := 726) (by decide +kernel), List.mem_of_getElem? (i := 1094) (by decide +kernel), List.mem_of_getElem? (i := 1095) (by decide +kernel)⟩
theorem lw_p92 : lw_okq (⟨"LastRestModel", "markOf", "(I)I"⟩, 28) := ⟨⟨by decide +kernel, by decide +kernel⟩, List.mem_of_getElem? (i := 726) (by decide +kernel), List.mem_of_getElem? (i := 1098) (by decide +kernel), List.mem_of_getElem? (i := 1099) (by decide +kernel)⟩
theorem lw_p93 : lw_okq (⟨"LastRestModel", "steadyMark", "(I)I"⟩, 28) := ⟨⟨by decide +kernel, by decide +kernel⟩, List.mem_of_getElem? (i := 726) (by decide +kernel), List.mem_of_getElem? (i := 1102) (by decide +kernel), List.mem_of_getElem? (i := 1103) (by decide +kernel)⟩
theorem lw_p94 : lw_okq (⟨"LastRestModel", "sizeOfOld", "(I)I"⟩, 28) := ⟨⟨by decide +kernel, by decide +kernel⟩, List.mem_of_getElem? (i := 726) (by decide +kernel), List.mem_of_getElem? (i := 1106) (by decide +kernel), List.mem_of_getElem? (i := 1107) (by decide +kernel)⟩
theorem lw_p95 : lw_okq (⟨"LastRestModel", "oldSize", "(I)I"⟩, 28) := ⟨⟨by decide +kernel, by decide +kernel⟩, List.mem_of_getElem? (i := 726) (by decide +kernel), List.mem_of_getElem? (i := 1110) (by decide +kernel), List.mem_of_getElem? (i := 1111) (by decide +kernel)⟩
def lw_privs_6 : List (MethodName × Nat) := [(⟨"LastRestModel", "toHut", "(I)I"⟩, 28), (⟨"LastRestModel", "takeBack", "()V"⟩, 28), (⟨"LastRestModel", "tryAll", "(II)I"⟩, 28), (⟨"LastRestModel", "findThen", "(IIZ)V"⟩, 28), (⟨"LastRestModel", "nextRow", "(I)Z"⟩, 28), (⟨"LastRestModel", "exchange", "(II)V"⟩, 28), (⟨"LastRestModel", "isBack", "()Z"⟩, 28), (⟨"LastRestModel", "fitsBy", "(IIIII)Z"⟩, 28), (⟨"LastRestModel", "sizeOf", "(I)I"⟩, 28), (⟨"LastRestModel", "begin", "(I)V"⟩, 28), (⟨"LastRestModel", "steadySize", "(I)I"⟩, 28), (⟨"LastRestModel", "lent", "(II)I"⟩, 28), (⟨"LastRestModel", "markOf", "(I)I"⟩, 28), (⟨"LastRestModel", "steadyMark", "(I)I"⟩, 28), (⟨"LastRestModel", "sizeOfOld", "(I)I"⟩, 28), (⟨"LastRestModel", "oldSize", "(I)I"⟩, 28)]
theorem lw_r6 : ∀ q ∈ lw_privs_6, lw_okq q := List.forall_mem_cons.mpr ⟨lw_p80, List.forall_mem_cons.mpr ⟨lw_p81, List.forall_mem_cons.mpr ⟨lw_p82, List.forall_mem_cons.mpr ⟨lw_p83, List.forall_mem_cons.mpr ⟨lw_p84, List.forall_mem_cons.mpr ⟨lw_p85, List.forall_mem_cons.mpr ⟨lw_p86, List.forall_mem_cons.mpr ⟨lw_p87, List.forall_mem_cons.mpr ⟨lw_p88, List.forall_mem_cons.mpr ⟨lw_p89, List.forall_mem_cons.mpr ⟨lw_p90, List.forall_mem_cons.mpr ⟨lw_p91, List.forall_mem_cons.mpr ⟨lw_p92, List.forall_mem_cons.mpr ⟨lw_p93, List.forall_mem_cons.mpr ⟨lw_p94, List.forall_mem_cons.mpr ⟨lw_p95, fun _ h => absurd h List.not_mem_nil⟩⟩⟩⟩⟩⟩⟩⟩⟩⟩⟩⟩⟩⟩⟩⟩
def lw_privs : List (MethodName × Nat) := lw_privs_1 ++ (lw_privs_2 ++ (lw_privs_3 ++ (lw_privs_4 ++ (lw_privs_5 ++ (lw_privs_6)))))
def lw_tbl : List Cond := k2_sels lw_privs ++ tables_1
theorem lw_privs_ok : ∀ q ∈ lw_privs, lw_okq q := by
  show ∀ q ∈ lw_privs_1 ++ (lw_privs_2 ++ (lw_privs_3 ++ (lw_privs_4 ++ (lw_privs_5 ++ (lw_privs_6))))), lw_okq q
  exact List.forall_mem_append.mpr ⟨lw_r1, List.forall_mem_append.mpr ⟨lw_r2, List.forall_mem_append.mpr ⟨lw_r3, List.forall_mem_append.mpr ⟨lw_r4, List.forall_mem_append.mpr ⟨lw_r5, lw_r6⟩⟩⟩⟩⟩
end
section
def RX0 : String := "LastRest$Acts"
def TX0 : u_T := fun k => match k with
  | 0 => ("LastRest$Acts", "kept", "[LLastRest$Way;", true)
  | 1 => ("LastRest$Acts", "next", "I", false)
  | _ => ("LastRest$Acts", "size", "I", false)
def tyX0 : Nat → FieldType := fun k => match k with
  | 0 => .array (.object "LastRest$Way")
  | 1 => .int
  | _ => .int
abbrev wsX00 : List Cond := u_ws RX0 TX0 3
theorem nmX0 : ∀ a, a < 3 → ∀ b, b < 3 → a ≠ b → (TX0 a).2.1 ≠ (TX0 b).2.1 := by decide +kernel
theorem tyX0_ok : ∀ k, k < 3 → parseFieldDescriptor (TX0 k).2.2.1 = some (tyX0 k) := by decide +kernel
abbrev cX0_init : ByteArray := prog_2_method_1_code
def yX0_init : MethodName := ⟨RX0, "<init>", "()V"⟩
abbrev cX0_keep : ByteArray := prog_2_method_2_code
def yX0_keep : MethodName := ⟨RX0, "keep", "(LLastRest$Way;)V"⟩
abbrev cX0_takeBack : ByteArray := prog_2_method_3_code
def yX0_takeBack : MethodName := ⟨RX0, "takeBack", "(LLastRest$Way;)V"⟩
abbrev cX0_forget : ByteArray := prog_2_method_4_code
def yX0_forget : MethodName := ⟨RX0, "forget", "()V"⟩
def RX1 : String := "LastRest$Asker"
def TX1 : u_T := fun k => match k with
  | 0 => ("LastRest$Asker", "bodies", "[I", true)
  | _ => ("LastRest$Asker", "length", "I", false)
def tyX1 : Nat → FieldType := fun k => match k with
  | 0 => .array .int
  | _ => .int
abbrev wsX10 : List Cond := u_ws RX1 TX1 2
theorem nmX1 : ∀ a, a < 2 → ∀ b, b < 2 → a ≠ b → (TX1 a).2.1 ≠ (TX1 b).2.1 := by decide +kernel
theorem tyX1_ok : ∀ k, k < 2 → parseFieldDescriptor (TX1 k).2.2.1 = some (tyX1 k) := by decide +kernel
abbrev cX1_init : ByteArray := prog_3_method_1_code
def yX1_init : MethodName := ⟨RX1, "<init>", "()V"⟩
abbrev cX1_isSuch : ByteArray := prog_3_method_2_code
def yX1_isSuch : MethodName := ⟨RX1, "isSuch", "(II)Z"⟩
abbrev cX1_answer : ByteArray := prog_3_method_3_code
def yX1_answer : MethodName := ⟨RX1, "answer", "(LLastRest$Walker;II)I"⟩
abbrev cX1_sizeOf : ByteArray := prog_3_method_4_code
def yX1_sizeOf : MethodName := ⟨RX1, "sizeOf", "(LLastRest$Walker;II)I"⟩
abbrev cX1_markOf : ByteArray := prog_3_method_5_code
def yX1_markOf : MethodName := ⟨RX1, "markOf", "(LLastRest$Walker;II)I"⟩
abbrev cX1_nearest : ByteArray := prog_3_method_6_code
def yX1_nearest : MethodName := ⟨RX1, "nearest", "([II)I"⟩
abbrev cX1_begin : ByteArray := prog_3_method_7_code
def yX1_begin : MethodName := ⟨RX1, "begin", "(ILLastRest$Walker;II)I"⟩
abbrev cX1_leaveTrace : ByteArray := prog_3_method_8_code
def yX1_leaveTrace : MethodName := ⟨RX1, "leaveTrace", "(I)V"⟩
def RX2 : String := "LastRest$Foretold"
def TX2 : u_T := fun k => match k with
  | 0 => ("LastRest$Foretold", "party", "LLastRest$Party;", true)
  | 1 => ("LastRest$Foretold", "returning", "LLastRest$Party;", true)
  | 2 => ("LastRest$Foretold", "alone", "[I", true)
  | 3 => ("LastRest$Foretold", "whose", "[I", true)
  | 4 => ("LastRest$Foretold", "bestWhose", "[I", true)
  | 5 => ("LastRest$Foretold", "best", "I", false)
  | _ => ("LastRest$Foretold", "bestNumber", "I", false)
def tyX2 : Nat → FieldType := fun k => match k with
  | 0 => .object "LastRest$Party"
  | 1 => .object "LastRest$Party"
  | 2 => .array .int
  | 3 => .array .int
  | 4 => .array .int
  | 5 => .int
  | _ => .int
abbrev wsX20 : List Cond := u_ws RX2 TX2 7
theorem nmX2 : ∀ a, a < 7 → ∀ b, b < 7 → a ≠ b → (TX2 a).2.1 ≠ (TX2 b).2.1 := by decide +kernel
theorem tyX2_ok : ∀ k, k < 7 → parseFieldDescriptor (TX2 k).2.2.1 = some (tyX2 k) := by decide +kernel
abbrev cX2_init : ByteArray := prog_4_method_1_code
def yX2_init : MethodName := ⟨RX2, "<init>", "()V"⟩
abbrev cX2_walkToHut : ByteArray := prog_4_method_2_code
def yX2_walkToHut : MethodName := ⟨RX2, "walkToHut", "(LLastRest$Way;II)I"⟩
abbrev cX2_walkOn : ByteArray := prog_4_method_3_code
def yX2_walkOn : MethodName := ⟨RX2, "walkOn", "(LLastRest$Way;II)I"⟩
abbrev cX2_isApart : ByteArray := prog_4_method_4_code
def yX2_isApart : MethodName := ⟨RX2, "isApart", "(I)Z"⟩
abbrev cX2_startSearch : ByteArray := prog_4_method_5_code
def yX2_startSearch : MethodName := ⟨RX2, "startSearch", "()V"⟩
abbrev cX2_keepIfLess : ByteArray := prog_4_method_6_code
def yX2_keepIfLess : MethodName := ⟨RX2, "keepIfLess", "(II)Z"⟩
abbrev cX2_bestRule : ByteArray := prog_4_method_7_code
def yX2_bestRule : MethodName := ⟨RX2, "bestRule", "(I)I"⟩
abbrev cX2_findSoonest : ByteArray := prog_4_method_8_code
def yX2_findSoonest : MethodName := ⟨RX2, "findSoonest", "(LLastRest$Way;)V"⟩
abbrev cX2_findFair : ByteArray := prog_4_method_9_code
def yX2_findFair : MethodName := ⟨RX2, "findFair", "(LLastRest$Way;)V"⟩
abbrev cX2_greatestLoss : ByteArray := prog_4_method_10_code
def yX2_greatestLoss : MethodName := ⟨RX2, "greatestLoss", "()I"⟩
abbrev cX2_findSacks : ByteArray := prog_4_method_11_code
def yX2_findSacks : MethodName := ⟨RX2, "findSacks", "(LLastRest$Way;)V"⟩
abbrev cX2_nextOrder : ByteArray := prog_4_method_12_code
def yX2_nextOrder : MethodName := ⟨RX2, "nextOrder", "(I)Z"⟩
abbrev cX2_swap : ByteArray := prog_4_method_13_code
def yX2_swap : MethodName := ⟨RX2, "swap", "(II)V"⟩
abbrev cX2_findParties : ByteArray := prog_4_method_14_code
def yX2_findParties : MethodName := ⟨RX2, "findParties", "(LLastRest$Way;)V"⟩
abbrev cX2_walkSet : ByteArray := prog_4_method_15_code
def yX2_walkSet : MethodName := ⟨RX2, "walkSet", "(LLastRest$Way;I)I"⟩
abbrev cX2_lastTurn : ByteArray := prog_4_method_16_code
def yX2_lastTurn : MethodName := ⟨RX2, "lastTurn", "(LLastRest$Way;)I"⟩
abbrev cX2_walkBack : ByteArray := prog_4_method_17_code
def yX2_walkBack : MethodName := ⟨RX2, "walkBack", "(LLastRest$Way;I)I"⟩
abbrev cX2_findFits : ByteArray := prog_4_method_18_code
def yX2_findFits : MethodName := ⟨RX2, "findFits", "(LLastRest$Way;ILLastRest$Row;II)V"⟩
abbrev cX2_isSo : ByteArray := prog_4_method_19_code
def yX2_isSo : MethodName := ⟨RX2, "isSo", "(LLastRest$Way;IILLastRest$Row;II)Z"⟩
def RX3 : String := "LastRest$Party"
def TX3 : u_T := fun k => match k with
  | 0 => ("LastRest$Party", "walkers", "[LLastRest$Walker;", true)
  | 1 => ("LastRest$Party", "size", "I", false)
  | _ => ("LastRest$Party", "set", "I", false)
def tyX3 : Nat → FieldType := fun k => match k with
  | 0 => .array (.object "LastRest$Walker")
  | 1 => .int
  | _ => .int
abbrev wsX30 : List Cond := u_ws RX3 TX3 3
theorem nmX3 : ∀ a, a < 3 → ∀ b, b < 3 → a ≠ b → (TX3 a).2.1 ≠ (TX3 b).2.1 := by decide +kernel
theorem tyX3_ok : ∀ k, k < 3 → parseFieldDescriptor (TX3 k).2.2.1 = some (tyX3 k) := by decide +kernel
abbrev cX3_init : ByteArray := prog_5_method_1_code
def yX3_init : MethodName := ⟨RX3, "<init>", "()V"⟩
abbrev cX3_become : ByteArray := prog_5_method_2_code
def yX3_become : MethodName := ⟨RX3, "become", "(LLastRest$Party;)V"⟩
abbrev cX3_isIn : ByteArray := prog_5_method_3_code
def yX3_isIn : MethodName := ⟨RX3, "isIn", "(I)Z"⟩
abbrev cX3_walkLeg : ByteArray := prog_5_method_4_code
def yX3_walkLeg : MethodName := ⟨RX3, "walkLeg", "(I)V"⟩
abbrev cX3_firstToLeave : ByteArray := prog_5_method_5_code
def yX3_firstToLeave : MethodName := ⟨RX3, "firstToLeave", "()I"⟩
abbrev cX3_leaveGate : ByteArray := prog_5_method_6_code
def yX3_leaveGate : MethodName := ⟨RX3, "leaveGate", "(II)V"⟩
abbrev cX3_leavesAt : ByteArray := prog_5_method_7_code
def yX3_leavesAt : MethodName := ⟨RX3, "leavesAt", "(IIIII)I"⟩
abbrev cX3_firstCame : ByteArray := prog_5_method_8_code
def yX3_firstCame : MethodName := ⟨RX3, "firstCame", "()I"⟩
abbrev cX3_lastCame : ByteArray := prog_5_method_9_code
def yX3_lastCame : MethodName := ⟨RX3, "lastCame", "()I"⟩
abbrev cX3_lastMinute : ByteArray := prog_5_method_10_code
def yX3_lastMinute : MethodName := ⟨RX3, "lastMinute", "()I"⟩
def RX4 : String := "LastRest$Reader"
def TX4 : u_T := fun k => match k with
  | 0 => ("LastRest$Reader", "tape", "[I", true)
  | 1 => ("LastRest$Reader", "length", "I", false)
  | 2 => ("LastRest$Reader", "next", "I", false)
  | 3 => ("LastRest$Reader", "token", "I", false)
  | 4 => ("LastRest$Reader", "tokenAt", "I", false)
  | 5 => ("LastRest$Reader", "number", "I", false)
  | 6 => ("LastRest$Reader", "fault", "I", false)
  | 7 => ("LastRest$Reader", "place", "I", false)
  | _ => ("LastRest$Reader", "latestFault", "I", false)
def tyX4 : Nat → FieldType := fun k => match k with
  | 0 => .array .int
  | 1 => .int
  | 2 => .int
  | 3 => .int
  | 4 => .int
  | 5 => .int
  | 6 => .int
  | 7 => .int
  | _ => .int
abbrev wsX40 : List Cond := u_ws RX4 TX4 9
theorem nmX4 : ∀ a, a < 9 → ∀ b, b < 9 → a ≠ b → (TX4 a).2.1 ≠ (TX4 b).2.1 := by decide +kernel
theorem tyX4_ok : ∀ k, k < 9 → parseFieldDescriptor (TX4 k).2.2.1 = some (tyX4 k) := by decide +kernel
abbrev cX4_init : ByteArray := prog_6_method_1_code
def yX4_init : MethodName := ⟨RX4, "<init>", "()V"⟩
abbrev cX4_append : ByteArray := prog_6_method_2_code
def yX4_append : MethodName := ⟨RX4, "append", "(I)I"⟩
abbrev cX4_readInto : ByteArray := prog_6_method_3_code
def yX4_readInto : MethodName := ⟨RX4, "readInto", "(LLastRest$Way;)Z"⟩
abbrev cX4_readLegs : ByteArray := prog_6_method_4_code
def yX4_readLegs : MethodName := ⟨RX4, "readLegs", "(LLastRest$Way;)V"⟩
abbrev cX4_readRule : ByteArray := prog_6_method_5_code
def yX4_readRule : MethodName := ⟨RX4, "readRule", "(LLastRest$Way;)V"⟩
abbrev cX4_readWalkers : ByteArray := prog_6_method_6_code
def yX4_readWalkers : MethodName := ⟨RX4, "readWalkers", "(LLastRest$Way;)V"⟩
abbrev cX4_expectSort : ByteArray := prog_6_method_7_code
def yX4_expectSort : MethodName := ⟨RX4, "expectSort", "(Z)I"⟩
abbrev cX4_kindOf : ByteArray := prog_6_method_8_code
def yX4_kindOf : MethodName := ⟨RX4, "kindOf", "(I)I"⟩
abbrev cX4_expectNumber : ByteArray := prog_6_method_9_code
def yX4_expectNumber : MethodName := ⟨RX4, "expectNumber", "(IIZ)I"⟩
abbrev cX4_expect : ByteArray := prog_6_method_10_code
def yX4_expect : MethodName := ⟨RX4, "expect", "(I)V"⟩
abbrev cX4_accept : ByteArray := prog_6_method_11_code
def yX4_accept : MethodName := ⟨RX4, "accept", "(I)Z"⟩
abbrev cX4_blame : ByteArray := prog_6_method_12_code
def yX4_blame : MethodName := ⟨RX4, "blame", "(I)V"⟩
abbrev cX4_advance : ByteArray := prog_6_method_13_code
def yX4_advance : MethodName := ⟨RX4, "advance", "()V"⟩
abbrev cX4_takeFigures : ByteArray := prog_6_method_14_code
def yX4_takeFigures : MethodName := ⟨RX4, "takeFigures", "()V"⟩
abbrev cX4_isFigure : ByteArray := prog_6_method_15_code
def yX4_isFigure : MethodName := ⟨RX4, "isFigure", "(I)Z"⟩
def RX5 : String := "LastRest$Row"
def TX5 : u_T := fun k => match k with
  | 0 => ("LastRest$Row", "items", "[I", true)
  | 1 => ("LastRest$Row", "missing", "Z", false)
  | 2 => ("LastRest$Row", "lane", "I", false)
  | _ => ("LastRest$Row", "size", "I", false)
def tyX5 : Nat → FieldType := fun k => match k with
  | 0 => .array .int
  | 1 => .boolean
  | 2 => .int
  | _ => .int
abbrev wsX50 : List Cond := u_ws RX5 TX5 4
theorem nmX5 : ∀ a, a < 4 → ∀ b, b < 4 → a ≠ b → (TX5 a).2.1 ≠ (TX5 b).2.1 := by decide +kernel
theorem tyX5_ok : ∀ k, k < 4 → parseFieldDescriptor (TX5 k).2.2.1 = some (tyX5 k) := by decide +kernel
abbrev cX5_init : ByteArray := prog_7_method_1_code
def yX5_init : MethodName := ⟨RX5, "<init>", "()V"⟩
abbrev cX5_make : ByteArray := prog_7_method_2_code
def yX5_make : MethodName := ⟨RX5, "make", "(II)V"⟩
abbrev cX5_put : ByteArray := prog_7_method_3_code
def yX5_put : MethodName := ⟨RX5, "put", "(II)I"⟩
abbrev cX5_cut : ByteArray := prog_7_method_4_code
def yX5_cut : MethodName := ⟨RX5, "cut", "(I)I"⟩
abbrev cX5_holds : ByteArray := prog_7_method_5_code
def yX5_holds : MethodName := ⟨RX5, "holds", "(II)Z"⟩
def RX6 : String := "LastRest$Walker"
def TX6 : u_T := fun k => match k with
  | 0 => ("LastRest$Walker", "kind", "I", false)
  | 1 => ("LastRest$Walker", "pace", "I", false)
  | 2 => ("LastRest$Walker", "sack", "I", false)
  | 3 => ("LastRest$Walker", "tired", "I", false)
  | 4 => ("LastRest$Walker", "minute", "I", false)
  | 5 => ("LastRest$Walker", "rested", "I", false)
  | _ => ("LastRest$Walker", "came", "I", false)
def tyX6 : Nat → FieldType := fun k => match k with
  | 0 => .int
  | 1 => .int
  | 2 => .int
  | 3 => .int
  | 4 => .int
  | 5 => .int
  | _ => .int
abbrev wsX60 : List Cond := u_ws RX6 TX6 7
theorem nmX6 : ∀ a, a < 7 → ∀ b, b < 7 → a ≠ b → (TX6 a).2.1 ≠ (TX6 b).2.1 := by decide +kernel
theorem tyX6_ok : ∀ k, k < 7 → parseFieldDescriptor (TX6 k).2.2.1 = some (tyX6 k) := by decide +kernel
abbrev cX6_init : ByteArray := prog_8_method_1_code
def yX6_init : MethodName := ⟨RX6, "<init>", "()V"⟩
abbrev cX6_become : ByteArray := prog_8_method_2_code
def yX6_become : MethodName := ⟨RX6, "become", "(LLastRest$Walker;)V"⟩
abbrev cX6_begin : ByteArray := prog_8_method_3_code
def yX6_begin : MethodName := ⟨RX6, "begin", "(III)V"⟩
abbrev cX6_minutesFor : ByteArray := prog_8_method_4_code
def yX6_minutesFor : MethodName := ⟨RX6, "minutesFor", "(I)I"⟩
abbrev cX6_tiresBy : ByteArray := prog_8_method_5_code
def yX6_tiresBy : MethodName := ⟨RX6, "tiresBy", "(IZ)I"⟩
abbrev cX6_leaveAt : ByteArray := prog_8_method_6_code
def yX6_leaveAt : MethodName := ⟨RX6, "leaveAt", "(I)V"⟩
abbrev cX6_mendedBy : ByteArray := prog_8_method_7_code
def yX6_mendedBy : MethodName := ⟨RX6, "mendedBy", "(I)I"⟩
def RX7 : String := "LastRest$Way"
def TX7 : u_T := fun k => match k with
  | 0 => ("LastRest$Way", "miles", "[I", true)
  | 1 => ("LastRest$Way", "party", "LLastRest$Party;", true)
  | 2 => ("LastRest$Way", "told", "Z", false)
  | 3 => ("LastRest$Way", "legs", "I", false)
  | 4 => ("LastRest$Way", "gate", "I", false)
  | 5 => ("LastRest$Way", "rule", "I", false)
  | 6 => ("LastRest$Way", "m", "I", false)
  | _ => ("LastRest$Way", "sun", "I", false)
def tyX7 : Nat → FieldType := fun k => match k with
  | 0 => .array .int
  | 1 => .object "LastRest$Party"
  | 2 => .boolean
  | 3 => .int
  | 4 => .int
  | 5 => .int
  | 6 => .int
  | _ => .int
abbrev wsX70 : List Cond := u_ws RX7 TX7 8
theorem nmX7 : ∀ a, a < 8 → ∀ b, b < 8 → a ≠ b → (TX7 a).2.1 ≠ (TX7 b).2.1 := by decide +kernel
theorem tyX7_ok : ∀ k, k < 8 → parseFieldDescriptor (TX7 k).2.2.1 = some (tyX7 k) := by decide +kernel
abbrev cX7_init : ByteArray := prog_9_method_1_code
def yX7_init : MethodName := ⟨RX7, "<init>", "()V"⟩
abbrev cX7_become : ByteArray := prog_9_method_2_code
def yX7_become : MethodName := ⟨RX7, "become", "(LLastRest$Way;)V"⟩
abbrev cX7_move : ByteArray := prog_9_method_3_code
def yX7_move : MethodName := ⟨RX7, "move", "(LLastRest$Party;III)V"⟩
def RX8 : String := "LastRest"
def TX8 : u_T := fun k => match k with
  | 0 => ("LastRest", "rows", "[LLastRest$Row;", true)
  | 1 => ("LastRest", "reader", "LLastRest$Reader;", true)
  | 2 => ("LastRest", "now", "LLastRest$Way;", true)
  | 3 => ("LastRest", "spare", "LLastRest$Way;", true)
  | 4 => ("LastRest", "images", "[LLastRest$Way;", true)
  | 5 => ("LastRest", "acts", "LLastRest$Acts;", true)
  | 6 => ("LastRest", "foretold", "LLastRest$Foretold;", true)
  | 7 => ("LastRest", "asker", "LLastRest$Asker;", true)
  | _ => ("LastRest", "finding", "I", false)
def tyX8 : Nat → FieldType := fun k => match k with
  | 0 => .array (.object "LastRest$Row")
  | 1 => .object "LastRest$Reader"
  | 2 => .object "LastRest$Way"
  | 3 => .object "LastRest$Way"
  | 4 => .array (.object "LastRest$Way")
  | 5 => .object "LastRest$Acts"
  | 6 => .object "LastRest$Foretold"
  | 7 => .object "LastRest$Asker"
  | _ => .int
abbrev wsX80 : List Cond := u_ws RX8 TX8 9
theorem nmX8 : ∀ a, a < 9 → ∀ b, b < 9 → a ≠ b → (TX8 a).2.1 ≠ (TX8 b).2.1 := by decide +kernel
theorem tyX8_ok : ∀ k, k < 9 → parseFieldDescriptor (TX8 k).2.2.1 = some (tyX8 k) := by decide +kernel
abbrev cX8_init : ByteArray := prog_1_method_1_code
def yX8_init : MethodName := ⟨RX8, "<init>", "()V"⟩
abbrev cX8_row : ByteArray := prog_1_method_2_code
def yX8_row : MethodName := ⟨RX8, "row", "(III)I"⟩
abbrev cX8_set : ByteArray := prog_1_method_3_code
def yX8_set : MethodName := ⟨RX8, "set", "(III)I"⟩
abbrev cX8_copy : ByteArray := prog_1_method_4_code
def yX8_copy : MethodName := ⟨RX8, "copy", "(IIIII)I"⟩
abbrev cX8_drop : ByteArray := prog_1_method_5_code
def yX8_drop : MethodName := ⟨RX8, "drop", "(I)I"⟩
abbrev cX8_feed : ByteArray := prog_1_method_6_code
def yX8_feed : MethodName := ⟨RX8, "feed", "(I)I"⟩
abbrev cX8_way : ByteArray := prog_1_method_7_code
def yX8_way : MethodName := ⟨RX8, "way", "()I"⟩
abbrev cX8_fault : ByteArray := prog_1_method_8_code
def yX8_fault : MethodName := ⟨RX8, "fault", "()I"⟩
abbrev cX8_go : ByteArray := prog_1_method_9_code
def yX8_go : MethodName := ⟨RX8, "go", "()I"⟩
abbrev cX8_rule : ByteArray := prog_1_method_10_code
def yX8_rule : MethodName := ⟨RX8, "rule", "(II)I"⟩
abbrev cX8_give : ByteArray := prog_1_method_11_code
def yX8_give : MethodName := ⟨RX8, "give", "(II)I"⟩
abbrev cX8_undo : ByteArray := prog_1_method_12_code
def yX8_undo : MethodName := ⟨RX8, "undo", "()I"⟩
abbrev cX8_walker : ByteArray := prog_1_method_13_code
def yX8_walker : MethodName := ⟨RX8, "walker", "(II)I"⟩
abbrev cX8_leg : ByteArray := prog_1_method_14_code
def yX8_leg : MethodName := ⟨RX8, "leg", "(I)I"⟩
abbrev cX8_mends : ByteArray := prog_1_method_15_code
def yX8_mends : MethodName := ⟨RX8, "mends", "(I)I"⟩
abbrev cX8_there : ByteArray := prog_1_method_16_code
def yX8_there : MethodName := ⟨RX8, "there", "(II)I"⟩
abbrev cX8_allThere : ByteArray := prog_1_method_17_code
def yX8_allThere : MethodName := ⟨RX8, "allThere", "()I"⟩
abbrev cX8_soonest : ByteArray := prog_1_method_18_code
def yX8_soonest : MethodName := ⟨RX8, "soonest", "(I)I"⟩
abbrev cX8_loses : ByteArray := prog_1_method_19_code
def yX8_loses : MethodName := ⟨RX8, "loses", "(I)I"⟩
abbrev cX8_fair : ByteArray := prog_1_method_20_code
def yX8_fair : MethodName := ⟨RX8, "fair", "(I)I"⟩
abbrev cX8_sacks : ByteArray := prog_1_method_21_code
def yX8_sacks : MethodName := ⟨RX8, "sacks", "(I)I"⟩
abbrev cX8_parties : ByteArray := prog_1_method_22_code
def yX8_parties : MethodName := ⟨RX8, "parties", "(I)I"⟩
abbrev cX8_turn : ByteArray := prog_1_method_23_code
def yX8_turn : MethodName := ⟨RX8, "turn", "()I"⟩
abbrev cX8_fits : ByteArray := prog_1_method_24_code
def yX8_fits : MethodName := ⟨RX8, "fits", "(IIIII)I"⟩
abbrev cX8_image : ByteArray := prog_1_method_25_code
def yX8_image : MethodName := ⟨RX8, "image", "(I)I"⟩
abbrev cX8_restore : ByteArray := prog_1_method_26_code
def yX8_restore : MethodName := ⟨RX8, "restore", "(I)I"⟩
abbrev cX8_kind : ByteArray := prog_1_method_27_code
def yX8_kind : MethodName := ⟨RX8, "kind", "(I)I"⟩
abbrev cX8_as : ByteArray := prog_1_method_28_code
def yX8_as : MethodName := ⟨RX8, "as", "(II)I"⟩
abbrev cX8_ask : ByteArray := prog_1_method_29_code
def yX8_ask : MethodName := ⟨RX8, "ask", "(II)I"⟩
abbrev cX8_trace : ByteArray := prog_1_method_30_code
def yX8_trace : MethodName := ⟨RX8, "trace", "(I)I"⟩
abbrev cX8_count : ByteArray := prog_1_method_31_code
def yX8_count : MethodName := ⟨RX8, "count", "(I)I"⟩
abbrev cX8_status : ByteArray := prog_1_method_32_code
def yX8_status : MethodName := ⟨RX8, "status", "()I"⟩
abbrev cX8_countRows : ByteArray := prog_1_method_33_code
def yX8_countRows : MethodName := ⟨RX8, "countRows", "()I"⟩
abbrev cX8_isWalker : ByteArray := prog_1_method_34_code
def yX8_isWalker : MethodName := ⟨RX8, "isWalker", "(I)Z"⟩
abbrev cX8_found : ByteArray := prog_1_method_35_code
def yX8_found : MethodName := ⟨RX8, "found", "(I)I"⟩
abbrev cX8_foundNothing : ByteArray := prog_1_method_36_code
def yX8_foundNothing : MethodName := ⟨RX8, "foundNothing", "(I)I"⟩
abbrev cX8_isBelow : ByteArray := prog_1_method_37_code
def yX8_isBelow : MethodName := ⟨RX8, "isBelow", "(II)Z"⟩
def RX9 : String := "LastRestModel"
def TX9 : u_T := fun k => match k with
  | 0 => ("LastRestModel", "lanes", "[I", true)
  | 1 => ("LastRestModel", "sizes", "[I", true)
  | 2 => ("LastRestModel", "items", "[I", true)
  | 3 => ("LastRestModel", "status", "I", false)
  | 4 => ("LastRestModel", "isWay", "Z", false)
  | 5 => ("LastRestModel", "st", "[I", true)
  | 6 => ("LastRestModel", "moved", "[I", true)
  | 7 => ("LastRestModel", "tape", "[I", true)
  | 8 => ("LastRestModel", "bytes", "I", false)
  | 9 => ("LastRestModel", "latest", "I", false)
  | 10 => ("LastRestModel", "place", "I", false)
  | 11 => ("LastRestModel", "token", "I", false)
  | 12 => ("LastRestModel", "value", "I", false)
  | 13 => ("LastRestModel", "begins", "I", false)
  | 14 => ("LastRestModel", "wrong", "I", false)
  | 15 => ("LastRestModel", "read", "[I", true)
  | 16 => ("LastRestModel", "party", "I", false)
  | 17 => ("LastRestModel", "acts", "[I", true)
  | 18 => ("LastRestModel", "actMany", "I", false)
  | 19 => ("LastRestModel", "aside", "[I", true)
  | 20 => ("LastRestModel", "free", "[I", true)
  | 21 => ("LastRestModel", "then", "[I", true)
  | 22 => ("LastRestModel", "row", "[I", true)
  | 23 => ("LastRestModel", "bestRow", "[I", true)
  | 24 => ("LastRestModel", "isKept", "[Z", true)
  | 25 => ("LastRestModel", "kept", "[I", true)
  | 26 => ("LastRestModel", "trace", "[I", true)
  | _ => ("LastRestModel", "traced", "I", false)
def tyX9 : Nat → FieldType := fun k => match k with
  | 0 => .array .int
  | 1 => .array .int
  | 2 => .array .int
  | 3 => .int
  | 4 => .boolean
  | 5 => .array .int
  | 6 => .array .int
  | 7 => .array .int
  | 8 => .int
  | 9 => .int
  | 10 => .int
  | 11 => .int
  | 12 => .int
  | 13 => .int
  | 14 => .int
  | 15 => .array .int
  | 16 => .int
  | 17 => .array .int
  | 18 => .int
  | 19 => .array .int
  | 20 => .array .int
  | 21 => .array .int
  | 22 => .array .int
  | 23 => .array .int
  | 24 => .array .boolean
  | 25 => .array .int
  | 26 => .array .int
  | _ => .int
abbrev wsX90 : List Cond := u_ws RX9 TX9 28
theorem nmX9 : ∀ a, a < 28 → ∀ b, b < 28 → a ≠ b → (TX9 a).2.1 ≠ (TX9 b).2.1 := by decide +kernel
theorem tyX9_ok : ∀ k, k < 28 → parseFieldDescriptor (TX9 k).2.2.1 = some (tyX9 k) := by decide +kernel
abbrev cX9_init : ByteArray := prog_11_method_1_code
def yX9_init : MethodName := ⟨RX9, "<init>", "()V"⟩
abbrev cX9_in : ByteArray := prog_11_method_2_code
def yX9_in : MethodName := ⟨RX9, "in", "(JJJ)Z"⟩
abbrev cX9_has : ByteArray := prog_11_method_3_code
def yX9_has : MethodName := ⟨RX9, "has", "(II)Z"⟩
abbrev cX9_find : ByteArray := prog_11_method_4_code
def yX9_find : MethodName := ⟨RX9, "find", "(I)I"⟩
abbrev cX9_well : ByteArray := prog_11_method_5_code
def yX9_well : MethodName := ⟨RX9, "well", "(I)I"⟩
abbrev cX9_isRow : ByteArray := prog_11_method_6_code
def yX9_isRow : MethodName := ⟨RX9, "isRow", "(I)Z"⟩
abbrev cX9_row : ByteArray := prog_11_method_7_code
def yX9_row : MethodName := ⟨RX9, "row", "(III)I"⟩
abbrev cX9_asLane : ByteArray := prog_11_method_8_code
def yX9_asLane : MethodName := ⟨RX9, "asLane", "(II)I"⟩
abbrev cX9_set : ByteArray := prog_11_method_9_code
def yX9_set : MethodName := ⟨RX9, "set", "(III)I"⟩
abbrev cX9_copy : ByteArray := prog_11_method_10_code
def yX9_copy : MethodName := ⟨RX9, "copy", "(IIIII)I"⟩
abbrev cX9_drop : ByteArray := prog_11_method_11_code
def yX9_drop : MethodName := ⟨RX9, "drop", "(I)I"⟩
abbrev cX9_feed : ByteArray := prog_11_method_12_code
def yX9_feed : MethodName := ⟨RX9, "feed", "(I)I"⟩
abbrev cX9_isSign : ByteArray := prog_11_method_13_code
def yX9_isSign : MethodName := ⟨RX9, "isSign", "(I)Z"⟩
abbrev cX9_nextToken : ByteArray := prog_11_method_14_code
def yX9_nextToken : MethodName := ⟨RX9, "nextToken", "()V"⟩
abbrev cX9_faults : ByteArray := prog_11_method_15_code
def yX9_faults : MethodName := ⟨RX9, "faults", "(I)Z"⟩
abbrev cX9_takes : ByteArray := prog_11_method_16_code
def yX9_takes : MethodName := ⟨RX9, "takes", "(I)Z"⟩
abbrev cX9_isNumber : ByteArray := prog_11_method_17_code
def yX9_isNumber : MethodName := ⟨RX9, "isNumber", "(II)Z"⟩
abbrev cX9_taken : ByteArray := prog_11_method_18_code
def yX9_taken : MethodName := ⟨RX9, "taken", "()I"⟩
abbrev cX9_readLegs : ByteArray := prog_11_method_19_code
def yX9_readLegs : MethodName := ⟨RX9, "readLegs", "()Z"⟩
abbrev cX9_readRule : ByteArray := prog_11_method_20_code
def yX9_readRule : MethodName := ⟨RX9, "readRule", "()Z"⟩
abbrev cX9_readWalker : ByteArray := prog_11_method_21_code
def yX9_readWalker : MethodName := ⟨RX9, "readWalker", "()Z"⟩
abbrev cX9_readWay : ByteArray := prog_11_method_22_code
def yX9_readWay : MethodName := ⟨RX9, "readWay", "()Z"⟩
abbrev cX9_way : ByteArray := prog_11_method_23_code
def yX9_way : MethodName := ⟨RX9, "way", "()I"⟩
abbrev cX9_fault : ByteArray := prog_11_method_24_code
def yX9_fault : MethodName := ⟨RX9, "fault", "()I"⟩
abbrev cX9_takesFor : ByteArray := prog_11_method_25_code
def yX9_takesFor : MethodName := ⟨RX9, "takesFor", "(II)I"⟩
abbrev cX9_mendBy : ByteArray := prog_11_method_26_code
def yX9_mendBy : MethodName := ⟨RX9, "mendBy", "(I)I"⟩
abbrev cX9_first : ByteArray := prog_11_method_27_code
def yX9_first : MethodName := ⟨RX9, "first", "()I"⟩
abbrev cX9_walk : ByteArray := prog_11_method_28_code
def yX9_walk : MethodName := ⟨RX9, "walk", "(I)V"⟩
abbrev cX9_leave : ByteArray := prog_11_method_29_code
def yX9_leave : MethodName := ⟨RX9, "leave", "()V"⟩
abbrev cX9_goOn : ByteArray := prog_11_method_30_code
def yX9_goOn : MethodName := ⟨RX9, "goOn", "()V"⟩
abbrev cX9_all : ByteArray := prog_11_method_31_code
def yX9_all : MethodName := ⟨RX9, "all", "()I"⟩
abbrev cX9_note : ByteArray := prog_11_method_32_code
def yX9_note : MethodName := ⟨RX9, "note", "()V"⟩
abbrev cX9_go : ByteArray := prog_11_method_33_code
def yX9_go : MethodName := ⟨RX9, "go", "()I"⟩
abbrev cX9_rule : ByteArray := prog_11_method_34_code
def yX9_rule : MethodName := ⟨RX9, "rule", "(II)I"⟩
abbrev cX9_isWalker : ByteArray := prog_11_method_35_code
def yX9_isWalker : MethodName := ⟨RX9, "isWalker", "(I)Z"⟩
abbrev cX9_give : ByteArray := prog_11_method_36_code
def yX9_give : MethodName := ⟨RX9, "give", "(II)I"⟩
abbrev cX9_undo : ByteArray := prog_11_method_37_code
def yX9_undo : MethodName := ⟨RX9, "undo", "()I"⟩
abbrev cX9_walker : ByteArray := prog_11_method_38_code
def yX9_walker : MethodName := ⟨RX9, "walker", "(II)I"⟩
abbrev cX9_leg : ByteArray := prog_11_method_39_code
def yX9_leg : MethodName := ⟨RX9, "leg", "(I)I"⟩
abbrev cX9_mends : ByteArray := prog_11_method_40_code
def yX9_mends : MethodName := ⟨RX9, "mends", "(I)I"⟩
abbrev cX9_putAside : ByteArray := prog_11_method_41_code
def yX9_putAside : MethodName := ⟨RX9, "putAside", "()V"⟩
abbrev cX9_takeBack : ByteArray := prog_11_method_42_code
def yX9_takeBack : MethodName := ⟨RX9, "takeBack", "()V"⟩
abbrev cX9_toHut : ByteArray := prog_11_method_43_code
def yX9_toHut : MethodName := ⟨RX9, "toHut", "(I)I"⟩
abbrev cX9_tryAll : ByteArray := prog_11_method_44_code
def yX9_tryAll : MethodName := ⟨RX9, "tryAll", "(II)I"⟩
abbrev cX9_there : ByteArray := prog_11_method_45_code
def yX9_there : MethodName := ⟨RX9, "there", "(II)I"⟩
abbrev cX9_allThere : ByteArray := prog_11_method_46_code
def yX9_allThere : MethodName := ⟨RX9, "allThere", "()I"⟩
abbrev cX9_soonest : ByteArray := prog_11_method_47_code
def yX9_soonest : MethodName := ⟨RX9, "soonest", "(I)I"⟩
abbrev cX9_findThen : ByteArray := prog_11_method_48_code
def yX9_findThen : MethodName := ⟨RX9, "findThen", "(IIZ)V"⟩
abbrev cX9_loses : ByteArray := prog_11_method_49_code
def yX9_loses : MethodName := ⟨RX9, "loses", "(I)I"⟩
abbrev cX9_fair : ByteArray := prog_11_method_50_code
def yX9_fair : MethodName := ⟨RX9, "fair", "(I)I"⟩
abbrev cX9_nextRow : ByteArray := prog_11_method_51_code
def yX9_nextRow : MethodName := ⟨RX9, "nextRow", "(I)Z"⟩
abbrev cX9_exchange : ByteArray := prog_11_method_52_code
def yX9_exchange : MethodName := ⟨RX9, "exchange", "(II)V"⟩
abbrev cX9_sacks : ByteArray := prog_11_method_53_code
def yX9_sacks : MethodName := ⟨RX9, "sacks", "(I)I"⟩
abbrev cX9_parties : ByteArray := prog_11_method_54_code
def yX9_parties : MethodName := ⟨RX9, "parties", "(I)I"⟩
abbrev cX9_isBack : ByteArray := prog_11_method_55_code
def yX9_isBack : MethodName := ⟨RX9, "isBack", "()Z"⟩
abbrev cX9_turn : ByteArray := prog_11_method_56_code
def yX9_turn : MethodName := ⟨RX9, "turn", "()I"⟩
abbrev cX9_fits : ByteArray := prog_11_method_57_code
def yX9_fits : MethodName := ⟨RX9, "fits", "(IIIII)I"⟩
abbrev cX9_fitsBy : ByteArray := prog_11_method_58_code
def yX9_fitsBy : MethodName := ⟨RX9, "fitsBy", "(IIIII)Z"⟩
abbrev cX9_image : ByteArray := prog_11_method_59_code
def yX9_image : MethodName := ⟨RX9, "image", "(I)I"⟩
abbrev cX9_restore : ByteArray := prog_11_method_60_code
def yX9_restore : MethodName := ⟨RX9, "restore", "(I)I"⟩
abbrev cX9_kind : ByteArray := prog_11_method_61_code
def yX9_kind : MethodName := ⟨RX9, "kind", "(I)I"⟩
abbrev cX9_isKind : ByteArray := prog_11_method_62_code
def yX9_isKind : MethodName := ⟨RX9, "isKind", "(II)Z"⟩
abbrev cX9_as : ByteArray := prog_11_method_63_code
def yX9_as : MethodName := ⟨RX9, "as", "(II)I"⟩
abbrev cX9_begin : ByteArray := prog_11_method_64_code
def yX9_begin : MethodName := ⟨RX9, "begin", "(I)V"⟩
abbrev cX9_lent : ByteArray := prog_11_method_65_code
def yX9_lent : MethodName := ⟨RX9, "lent", "(II)I"⟩
abbrev cX9_steadyMark : ByteArray := prog_11_method_66_code
def yX9_steadyMark : MethodName := ⟨RX9, "steadyMark", "(I)I"⟩
abbrev cX9_oldSize : ByteArray := prog_11_method_67_code
def yX9_oldSize : MethodName := ⟨RX9, "oldSize", "(I)I"⟩
abbrev cX9_sizeOfOld : ByteArray := prog_11_method_68_code
def yX9_sizeOfOld : MethodName := ⟨RX9, "sizeOfOld", "(I)I"⟩
abbrev cX9_markOf : ByteArray := prog_11_method_69_code
def yX9_markOf : MethodName := ⟨RX9, "markOf", "(I)I"⟩
abbrev cX9_steadySize : ByteArray := prog_11_method_70_code
def yX9_steadySize : MethodName := ⟨RX9, "steadySize", "(I)I"⟩
abbrev cX9_sizeOf : ByteArray := prog_11_method_71_code
def yX9_sizeOf : MethodName := ⟨RX9, "sizeOf", "(I)I"⟩
abbrev cX9_ask : ByteArray := prog_11_method_72_code
def yX9_ask : MethodName := ⟨RX9, "ask", "(II)I"⟩
abbrev cX9_trace : ByteArray := prog_11_method_73_code
def yX9_trace : MethodName := ⟨RX9, "trace", "(I)I"⟩
abbrev cX9_count : ByteArray := prog_11_method_74_code
def yX9_count : MethodName := ⟨RX9, "count", "(I)I"⟩
abbrev cX9_status : ByteArray := prog_11_method_75_code
def yX9_status : MethodName := ⟨RX9, "status", "()I"⟩
def RJ9 : String := "java/lang/Math"
def TJ9 : u_T := fun k => match k with
  | _ => ("", "", "", false)
def tyJ9 : Nat → FieldType := fun k => match k with
  | _ => .int
abbrev wsJ90 : List Cond := u_ws RJ9 TJ9 0
theorem nmJ9 : ∀ a, a < 0 → ∀ b, b < 0 → a ≠ b → (TJ9 a).2.1 ≠ (TJ9 b).2.1 := by decide +kernel
theorem tyJ9_ok : ∀ k, k < 0 → parseFieldDescriptor (TJ9 k).2.2.1 = some (tyJ9 k) := by decide +kernel
abbrev cJ9_max_7cf53 : ByteArray := prog_12_method_65_code
def yJ9_max_7cf53 : MethodName := ⟨RJ9, "max", "(II)I"⟩
abbrev cJ9_min_7cf53 : ByteArray := prog_12_method_69_code
def yJ9_min_7cf53 : MethodName := ⟨RJ9, "min", "(II)I"⟩
def RJ10 : String := "java/lang/System"
def TJ10 : u_T := fun k => match k with
  | _ => ("", "", "", false)
def tyJ10 : Nat → FieldType := fun k => match k with
  | _ => .int
abbrev wsJ100 : List Cond := u_ws RJ10 TJ10 0
theorem nmJ10 : ∀ a, a < 0 → ∀ b, b < 0 → a ≠ b → (TJ10 a).2.1 ≠ (TJ10 b).2.1 := by decide +kernel
theorem tyJ10_ok : ∀ k, k < 0 → parseFieldDescriptor (TJ10 k).2.2.1 = some (tyJ10 k) := by decide +kernel
def RL : String := "LastRestLaw"
abbrev cL_law : ByteArray := code
def yL_law : MethodName := ⟨RL, "law", "([I)Z"⟩
abbrev vwCl : List vw_C := [(RX0, TX0, 3), (RX1, TX1, 2), (RX2, TX2, 7), (RX3, TX3, 3), (RX4, TX4, 9), (RX5, TX5, 4), (RX6, TX6, 7), (RX7, TX7, 8), (RX8, TX8, 9), (RX9, TX9, 28)]
end
section
theorem dX0_init_0 : decode cX0_init 0 = .ok (.aload_n 0, 1) := by decide +kernel
theorem dX0_init_1 : decode cX0_init 1 = .ok (.invokespecial 1, 3) := by decide +kernel
theorem dX0_init_4 : decode cX0_init 4 = .ok (.aload_n 0, 1) := by decide +kernel
theorem dX0_init_5 : decode cX0_init 5 = .ok (.bipush 24, 2) := by decide +kernel
theorem dX0_init_7 : decode cX0_init 7 = .ok (.anewarray 9, 3) := by decide +kernel
theorem dX0_init_10 : decode cX0_init 10 = .ok (.putfield 11, 3) := by decide +kernel
theorem dX0_init_13 : decode cX0_init 13 = .ok (.return_, 1) := by decide +kernel
theorem dX0_keep_0 : decode cX0_keep 0 = .ok (.aload_n 0, 1) := by decide +kernel
theorem dX0_keep_1 : decode cX0_keep 1 = .ok (.getfield 11, 3) := by decide +kernel
theorem dX0_keep_4 : decode cX0_keep 4 = .ok (.aload_n 0, 1) := by decide +kernel
theorem dX0_keep_5 : decode cX0_keep 5 = .ok (.getfield 15, 3) := by decide +kernel
theorem dX0_keep_8 : decode cX0_keep 8 = .ok (.aaload, 1) := by decide +kernel
theorem dX0_keep_9 : decode cX0_keep 9 = .ok (.ifnonnull 19, 3) := by decide +kernel
theorem dX0_keep_12 : decode cX0_keep 12 = .ok (.aload_n 0, 1) := by decide +kernel
theorem dX0_keep_13 : decode cX0_keep 13 = .ok (.getfield 11, 3) := by decide +kernel
theorem dX0_keep_16 : decode cX0_keep 16 = .ok (.aload_n 0, 1) := by decide +kernel
theorem dX0_keep_17 : decode cX0_keep 17 = .ok (.getfield 15, 3) := by decide +kernel
theorem dX0_keep_20 : decode cX0_keep 20 = .ok (.new 9, 3) := by decide +kernel
theorem dX0_keep_23 : decode cX0_keep 23 = .ok (.dup, 1) := by decide +kernel
theorem dX0_keep_24 : decode cX0_keep 24 = .ok (.invokespecial 19, 3) := by decide +kernel
theorem dX0_keep_27 : decode cX0_keep 27 = .ok (.aastore, 1) := by decide +kernel
theorem dX0_keep_28 : decode cX0_keep 28 = .ok (.aload_n 0, 1) := by decide +kernel
theorem dX0_keep_29 : decode cX0_keep 29 = .ok (.getfield 11, 3) := by decide +kernel
theorem dX0_keep_32 : decode cX0_keep 32 = .ok (.aload_n 0, 1) := by decide +kernel
theorem dX0_keep_33 : decode cX0_keep 33 = .ok (.getfield 15, 3) := by decide +kernel
theorem dX0_keep_36 : decode cX0_keep 36 = .ok (.aaload, 1) := by decide +kernel
theorem dX0_keep_37 : decode cX0_keep 37 = .ok (.aload_n 1, 1) := by decide +kernel
theorem dX0_keep_38 : decode cX0_keep 38 = .ok (.invokevirtual 20, 3) := by decide +kernel
theorem dX0_keep_41 : decode cX0_keep 41 = .ok (.aload_n 0, 1) := by decide +kernel
theorem dX0_keep_42 : decode cX0_keep 42 = .ok (.aload_n 0, 1) := by decide +kernel
theorem dX0_keep_43 : decode cX0_keep 43 = .ok (.getfield 15, 3) := by decide +kernel
theorem dX0_keep_46 : decode cX0_keep 46 = .ok (.iconst 1, 1) := by decide +kernel
theorem dX0_keep_47 : decode cX0_keep 47 = .ok (.iadd, 1) := by decide +kernel
theorem dX0_keep_48 : decode cX0_keep 48 = .ok (.bipush 24, 2) := by decide +kernel
theorem dX0_keep_50 : decode cX0_keep 50 = .ok (.irem, 1) := by decide +kernel
theorem dX0_keep_51 : decode cX0_keep 51 = .ok (.putfield 15, 3) := by decide +kernel
theorem dX0_keep_54 : decode cX0_keep 54 = .ok (.aload_n 0, 1) := by decide +kernel
theorem dX0_keep_55 : decode cX0_keep 55 = .ok (.aload_n 0, 1) := by decide +kernel
theorem dX0_keep_56 : decode cX0_keep 56 = .ok (.getfield 24, 3) := by decide +kernel
theorem dX0_keep_59 : decode cX0_keep 59 = .ok (.iconst 1, 1) := by decide +kernel
theorem dX0_keep_60 : decode cX0_keep 60 = .ok (.iadd, 1) := by decide +kernel
theorem dX0_keep_61 : decode cX0_keep 61 = .ok (.bipush 24, 2) := by decide +kernel
theorem dX0_keep_63 : decode cX0_keep 63 = .ok (.invokestatic 27, 3) := by decide +kernel
theorem dX0_keep_66 : decode cX0_keep 66 = .ok (.putfield 24, 3) := by decide +kernel
theorem dX0_keep_69 : decode cX0_keep 69 = .ok (.return_, 1) := by decide +kernel
theorem dX0_takeBack_0 : decode cX0_takeBack 0 = .ok (.aload_n 0, 1) := by decide +kernel
theorem dX0_takeBack_1 : decode cX0_takeBack 1 = .ok (.getfield 15, 3) := by decide +kernel
theorem dX0_takeBack_4 : decode cX0_takeBack 4 = .ok (.bipush 24, 2) := by decide +kernel
theorem dX0_takeBack_6 : decode cX0_takeBack 6 = .ok (.iadd, 1) := by decide +kernel
theorem dX0_takeBack_7 : decode cX0_takeBack 7 = .ok (.iconst 1, 1) := by decide +kernel
theorem dX0_takeBack_8 : decode cX0_takeBack 8 = .ok (.isub, 1) := by decide +kernel
theorem dX0_takeBack_9 : decode cX0_takeBack 9 = .ok (.bipush 24, 2) := by decide +kernel
theorem dX0_takeBack_11 : decode cX0_takeBack 11 = .ok (.irem, 1) := by decide +kernel
theorem dX0_takeBack_12 : decode cX0_takeBack 12 = .ok (.istore_n 2, 1) := by decide +kernel
theorem dX0_takeBack_13 : decode cX0_takeBack 13 = .ok (.aload_n 0, 1) := by decide +kernel
theorem dX0_takeBack_14 : decode cX0_takeBack 14 = .ok (.getfield 24, 3) := by decide +kernel
theorem dX0_takeBack_17 : decode cX0_takeBack 17 = .ok (.ifCond .eq 12, 3) := by decide +kernel
theorem dX0_takeBack_20 : decode cX0_takeBack 20 = .ok (.aload_n 0, 1) := by decide +kernel
theorem dX0_takeBack_21 : decode cX0_takeBack 21 = .ok (.getfield 11, 3) := by decide +kernel
theorem dX0_takeBack_24 : decode cX0_takeBack 24 = .ok (.iload_n 2, 1) := by decide +kernel
theorem dX0_takeBack_25 : decode cX0_takeBack 25 = .ok (.aaload, 1) := by decide +kernel
theorem dX0_takeBack_26 : decode cX0_takeBack 26 = .ok (.ifnonnull 4, 3) := by decide +kernel
theorem dX0_takeBack_29 : decode cX0_takeBack 29 = .ok (.return_, 1) := by decide +kernel
theorem dX0_takeBack_30 : decode cX0_takeBack 30 = .ok (.aload_n 1, 1) := by decide +kernel
theorem dX0_takeBack_31 : decode cX0_takeBack 31 = .ok (.aload_n 0, 1) := by decide +kernel
theorem dX0_takeBack_32 : decode cX0_takeBack 32 = .ok (.getfield 11, 3) := by decide +kernel
theorem dX0_takeBack_35 : decode cX0_takeBack 35 = .ok (.iload_n 2, 1) := by decide +kernel
theorem dX0_takeBack_36 : decode cX0_takeBack 36 = .ok (.aaload, 1) := by decide +kernel
theorem dX0_takeBack_37 : decode cX0_takeBack 37 = .ok (.invokevirtual 20, 3) := by decide +kernel
theorem dX0_takeBack_40 : decode cX0_takeBack 40 = .ok (.aload_n 0, 1) := by decide +kernel
theorem dX0_takeBack_41 : decode cX0_takeBack 41 = .ok (.iload_n 2, 1) := by decide +kernel
theorem dX0_takeBack_42 : decode cX0_takeBack 42 = .ok (.putfield 15, 3) := by decide +kernel
theorem dX0_takeBack_45 : decode cX0_takeBack 45 = .ok (.aload_n 0, 1) := by decide +kernel
theorem dX0_takeBack_46 : decode cX0_takeBack 46 = .ok (.dup, 1) := by decide +kernel
theorem dX0_takeBack_47 : decode cX0_takeBack 47 = .ok (.getfield 24, 3) := by decide +kernel
theorem dX0_takeBack_50 : decode cX0_takeBack 50 = .ok (.iconst 1, 1) := by decide +kernel
theorem dX0_takeBack_51 : decode cX0_takeBack 51 = .ok (.isub, 1) := by decide +kernel
theorem dX0_takeBack_52 : decode cX0_takeBack 52 = .ok (.putfield 24, 3) := by decide +kernel
theorem dX0_takeBack_55 : decode cX0_takeBack 55 = .ok (.return_, 1) := by decide +kernel
theorem dX0_forget_0 : decode cX0_forget 0 = .ok (.aload_n 0, 1) := by decide +kernel
theorem dX0_forget_1 : decode cX0_forget 1 = .ok (.iconst 0, 1) := by decide +kernel
theorem dX0_forget_2 : decode cX0_forget 2 = .ok (.putfield 24, 3) := by decide +kernel
theorem dX0_forget_5 : decode cX0_forget 5 = .ok (.return_, 1) := by decide +kernel
theorem dX1_init_0 : decode cX1_init 0 = .ok (.aload_n 0, 1) := by decide +kernel
theorem dX1_init_1 : decode cX1_init 1 = .ok (.invokespecial 3, 3) := by decide +kernel
theorem dX1_init_4 : decode cX1_init 4 = .ok (.aload_n 0, 1) := by decide +kernel
theorem dX1_init_5 : decode cX1_init 5 = .ok (.bipush 16, 2) := by decide +kernel
theorem dX1_init_7 : decode cX1_init 7 = .ok (.newarray .int, 2) := by decide +kernel
theorem dX1_init_9 : decode cX1_init 9 = .ok (.putfield 11, 3) := by decide +kernel
theorem dX1_init_12 : decode cX1_init 12 = .ok (.return_, 1) := by decide +kernel
theorem dX1_isSuch_0 : decode cX1_isSuch 0 = .ok (.iload_n 0, 1) := by decide +kernel
theorem dX1_isSuch_1 : decode cX1_isSuch 1 = .ok (.istore_n 2, 1) := by decide +kernel
theorem dX1_isSuch_2 : decode cX1_isSuch 2 = .ok (.iconst 0, 1) := by decide +kernel
theorem dX1_isSuch_3 : decode cX1_isSuch 3 = .ok (.istore_n 3, 1) := by decide +kernel
theorem dX1_isSuch_4 : decode cX1_isSuch 4 = .ok (.iload_n 3, 1) := by decide +kernel
theorem dX1_isSuch_5 : decode cX1_isSuch 5 = .ok (.bipush 6, 2) := by decide +kernel
theorem dX1_isSuch_7 : decode cX1_isSuch 7 = .ok (.if_icmp .ge 26, 3) := by decide +kernel
theorem dX1_isSuch_10 : decode cX1_isSuch 10 = .ok (.iload_n 2, 1) := by decide +kernel
theorem dX1_isSuch_11 : decode cX1_isSuch 11 = .ok (.ifCond .lt 22, 3) := by decide +kernel
theorem dX1_isSuch_14 : decode cX1_isSuch 14 = .ok (.iload_n 2, 1) := by decide +kernel
theorem dX1_isSuch_15 : decode cX1_isSuch 15 = .ok (.iload_n 1, 1) := by decide +kernel
theorem dX1_isSuch_16 : decode cX1_isSuch 16 = .ok (.if_icmp .ne 5, 3) := by decide +kernel
theorem dX1_isSuch_19 : decode cX1_isSuch 19 = .ok (.iconst 1, 1) := by decide +kernel
theorem dX1_isSuch_20 : decode cX1_isSuch 20 = .ok (.ireturn, 1) := by decide +kernel
theorem dX1_isSuch_21 : decode cX1_isSuch 21 = .ok (.getstatic 15, 3) := by decide +kernel
theorem dX1_isSuch_24 : decode cX1_isSuch 24 = .ok (.iload_n 2, 1) := by decide +kernel
theorem dX1_isSuch_25 : decode cX1_isSuch 25 = .ok (.iaload, 1) := by decide +kernel
theorem dX1_isSuch_26 : decode cX1_isSuch 26 = .ok (.istore_n 2, 1) := by decide +kernel
theorem dX1_isSuch_27 : decode cX1_isSuch 27 = .ok (.iinc 3 1, 3) := by decide +kernel
theorem dX1_isSuch_30 : decode cX1_isSuch 30 = .ok (.goto (-26), 3) := by decide +kernel
theorem dX1_isSuch_33 : decode cX1_isSuch 33 = .ok (.iconst 0, 1) := by decide +kernel
theorem dX1_isSuch_34 : decode cX1_isSuch 34 = .ok (.ireturn, 1) := by decide +kernel
theorem dX1_answer_0 : decode cX1_answer 0 = .ok (.aload_n 0, 1) := by decide +kernel
theorem dX1_answer_1 : decode cX1_answer 1 = .ok (.iconst 0, 1) := by decide +kernel
theorem dX1_answer_2 : decode cX1_answer 2 = .ok (.putfield 18, 3) := by decide +kernel
theorem dX1_answer_5 : decode cX1_answer 5 = .ok (.iload_n 3, 1) := by decide +kernel
theorem dX1_answer_6 : decode cX1_answer 6 = .ok (.ifCond .ne 11, 3) := by decide +kernel
theorem dX1_answer_9 : decode cX1_answer 9 = .ok (.aload_n 0, 1) := by decide +kernel
theorem dX1_answer_10 : decode cX1_answer 10 = .ok (.aload_n 1, 1) := by decide +kernel
theorem dX1_answer_11 : decode cX1_answer 11 = .ok (.iload_n 2, 1) := by decide +kernel
theorem dX1_answer_12 : decode cX1_answer 12 = .ok (.iconst 0, 1) := by decide +kernel
theorem dX1_answer_13 : decode cX1_answer 13 = .ok (.invokevirtual 22, 3) := by decide +kernel
theorem dX1_answer_16 : decode cX1_answer 16 = .ok (.ireturn, 1) := by decide +kernel
theorem dX1_answer_17 : decode cX1_answer 17 = .ok (.aload_n 0, 1) := by decide +kernel
theorem dX1_answer_18 : decode cX1_answer 18 = .ok (.aload_n 1, 1) := by decide +kernel
theorem dX1_answer_19 : decode cX1_answer 19 = .ok (.iload_n 2, 1) := by decide +kernel
theorem dX1_answer_20 : decode cX1_answer 20 = .ok (.iconst 0, 1) := by decide +kernel
theorem dX1_answer_21 : decode cX1_answer 21 = .ok (.invokevirtual 26, 3) := by decide +kernel
theorem dX1_answer_24 : decode cX1_answer 24 = .ok (.ireturn, 1) := by decide +kernel
theorem dX1_sizeOf_0 : decode cX1_sizeOf 0 = .ok (.aload_n 0, 1) := by decide +kernel
theorem dX1_sizeOf_1 : decode cX1_sizeOf 1 = .ok (.getstatic 29, 3) := by decide +kernel
theorem dX1_sizeOf_4 : decode cX1_sizeOf 4 = .ok (.aload_n 1, 1) := by decide +kernel
theorem dX1_sizeOf_5 : decode cX1_sizeOf 5 = .ok (.getfield 32, 3) := by decide +kernel
theorem dX1_sizeOf_8 : decode cX1_sizeOf 8 = .ok (.invokestatic 37, 3) := by decide +kernel
theorem dX1_sizeOf_11 : decode cX1_sizeOf 11 = .ok (.aload_n 1, 1) := by decide +kernel
theorem dX1_sizeOf_12 : decode cX1_sizeOf 12 = .ok (.iload_n 2, 1) := by decide +kernel
theorem dX1_sizeOf_13 : decode cX1_sizeOf 13 = .ok (.iload_n 3, 1) := by decide +kernel
theorem dX1_sizeOf_14 : decode cX1_sizeOf 14 = .ok (.invokevirtual 41, 3) := by decide +kernel
theorem dX1_sizeOf_17 : decode cX1_sizeOf 17 = .ok (.ireturn, 1) := by decide +kernel
theorem dX1_markOf_0 : decode cX1_markOf 0 = .ok (.aload_n 0, 1) := by decide +kernel
theorem dX1_markOf_1 : decode cX1_markOf 1 = .ok (.getstatic 45, 3) := by decide +kernel
theorem dX1_markOf_4 : decode cX1_markOf 4 = .ok (.aload_n 1, 1) := by decide +kernel
theorem dX1_markOf_5 : decode cX1_markOf 5 = .ok (.getfield 32, 3) := by decide +kernel
theorem dX1_markOf_8 : decode cX1_markOf 8 = .ok (.invokestatic 37, 3) := by decide +kernel
theorem dX1_markOf_11 : decode cX1_markOf 11 = .ok (.aload_n 1, 1) := by decide +kernel
theorem dX1_markOf_12 : decode cX1_markOf 12 = .ok (.iload_n 2, 1) := by decide +kernel
theorem dX1_markOf_13 : decode cX1_markOf 13 = .ok (.iload_n 3, 1) := by decide +kernel
theorem dX1_markOf_14 : decode cX1_markOf 14 = .ok (.invokevirtual 41, 3) := by decide +kernel
theorem dX1_markOf_17 : decode cX1_markOf 17 = .ok (.ireturn, 1) := by decide +kernel
theorem dX1_nearest_0 : decode cX1_nearest 0 = .ok (.iload_n 1, 1) := by decide +kernel
theorem dX1_nearest_1 : decode cX1_nearest 1 = .ok (.istore_n 2, 1) := by decide +kernel
theorem dX1_nearest_2 : decode cX1_nearest 2 = .ok (.iconst 0, 1) := by decide +kernel
theorem dX1_nearest_3 : decode cX1_nearest 3 = .ok (.istore_n 3, 1) := by decide +kernel
theorem dX1_nearest_4 : decode cX1_nearest 4 = .ok (.iload_n 3, 1) := by decide +kernel
theorem dX1_nearest_5 : decode cX1_nearest 5 = .ok (.bipush 6, 2) := by decide +kernel
theorem dX1_nearest_7 : decode cX1_nearest 7 = .ok (.if_icmp .ge 25, 3) := by decide +kernel
theorem dX1_nearest_10 : decode cX1_nearest 10 = .ok (.iload_n 2, 1) := by decide +kernel
theorem dX1_nearest_11 : decode cX1_nearest 11 = .ok (.ifCond .le 21, 3) := by decide +kernel
theorem dX1_nearest_14 : decode cX1_nearest 14 = .ok (.aload_n 0, 1) := by decide +kernel
theorem dX1_nearest_15 : decode cX1_nearest 15 = .ok (.iload_n 2, 1) := by decide +kernel
theorem dX1_nearest_16 : decode cX1_nearest 16 = .ok (.iaload, 1) := by decide +kernel
theorem dX1_nearest_17 : decode cX1_nearest 17 = .ok (.ifCond .ne 15, 3) := by decide +kernel
theorem dX1_nearest_20 : decode cX1_nearest 20 = .ok (.getstatic 15, 3) := by decide +kernel
theorem dX1_nearest_23 : decode cX1_nearest 23 = .ok (.iload_n 2, 1) := by decide +kernel
theorem dX1_nearest_24 : decode cX1_nearest 24 = .ok (.iaload, 1) := by decide +kernel
theorem dX1_nearest_25 : decode cX1_nearest 25 = .ok (.istore_n 2, 1) := by decide +kernel
theorem dX1_nearest_26 : decode cX1_nearest 26 = .ok (.iinc 3 1, 3) := by decide +kernel
theorem dX1_nearest_29 : decode cX1_nearest 29 = .ok (.goto (-25), 3) := by decide +kernel
theorem dX1_nearest_32 : decode cX1_nearest 32 = .ok (.aload_n 0, 1) := by decide +kernel
theorem dX1_nearest_33 : decode cX1_nearest 33 = .ok (.iload_n 2, 1) := by decide +kernel
theorem dX1_nearest_34 : decode cX1_nearest 34 = .ok (.iaload, 1) := by decide +kernel
theorem dX1_nearest_35 : decode cX1_nearest 35 = .ok (.ireturn, 1) := by decide +kernel
theorem dX1_begin_0 : decode cX1_begin 0 = .ok (.iload 4, 2) := by decide +kernel
theorem dX1_begin_2 : decode cX1_begin 2 = .ok (.bipush 16, 2) := by decide +kernel
theorem dX1_begin_4 : decode cX1_begin 4 = .ok (.if_icmp .le 5, 3) := by decide +kernel
theorem dX1_begin_7 : decode cX1_begin 7 = .ok (.iconst 0, 1) := by decide +kernel
theorem dX1_begin_8 : decode cX1_begin 8 = .ok (.ireturn, 1) := by decide +kernel
theorem dX1_begin_9 : decode cX1_begin 9 = .ok (.aload_n 0, 1) := by decide +kernel
theorem dX1_begin_10 : decode cX1_begin 10 = .ok (.iload_n 1, 1) := by decide +kernel
theorem dX1_begin_11 : decode cX1_begin 11 = .ok (.invokevirtual 48, 3) := by decide +kernel
theorem dX1_begin_14 : decode cX1_begin 14 = .ok (.iload 4, 2) := by decide +kernel
theorem dX1_begin_16 : decode cX1_begin 16 = .ok (.iconst 1, 1) := by decide +kernel
theorem dX1_begin_17 : decode cX1_begin 17 = .ok (.iadd, 1) := by decide +kernel
theorem dX1_begin_18 : decode cX1_begin 18 = .ok (.istore 5, 2) := by decide +kernel
theorem dX1_begin_20 : decode cX1_begin 20 = .ok (.iload_n 1, 1) := by decide +kernel
theorem dX1_begin_21 : decode cX1_begin 21 = .ok (.tableswitch 205 10 24 #[75, 80, 100, 112, 126, 205, 205, 205, 205, 205, 139, 141, 157, 172, 192], 75) := by decide +kernel
theorem dX1_begin_96 : decode cX1_begin 96 = .ok (.aload_n 2, 1) := by decide +kernel
theorem dX1_begin_97 : decode cX1_begin 97 = .ok (.getfield 52, 3) := by decide +kernel
theorem dX1_begin_100 : decode cX1_begin 100 = .ok (.ireturn, 1) := by decide +kernel
theorem dX1_begin_101 : decode cX1_begin 101 = .ok (.aload_n 0, 1) := by decide +kernel
theorem dX1_begin_102 : decode cX1_begin 102 = .ok (.bipush 10, 2) := by decide +kernel
theorem dX1_begin_104 : decode cX1_begin 104 = .ok (.aload_n 2, 1) := by decide +kernel
theorem dX1_begin_105 : decode cX1_begin 105 = .ok (.iload_n 3, 1) := by decide +kernel
theorem dX1_begin_106 : decode cX1_begin 106 = .ok (.iload 5, 2) := by decide +kernel
theorem dX1_begin_108 : decode cX1_begin 108 = .ok (.invokevirtual 41, 3) := by decide +kernel
theorem dX1_begin_111 : decode cX1_begin 111 = .ok (.aload_n 0, 1) := by decide +kernel
theorem dX1_begin_112 : decode cX1_begin 112 = .ok (.aload_n 2, 1) := by decide +kernel
theorem dX1_begin_113 : decode cX1_begin 113 = .ok (.iload_n 3, 1) := by decide +kernel
theorem dX1_begin_114 : decode cX1_begin 114 = .ok (.iload 5, 2) := by decide +kernel
theorem dX1_begin_116 : decode cX1_begin 116 = .ok (.invokevirtual 26, 3) := by decide +kernel
theorem dX1_begin_119 : decode cX1_begin 119 = .ok (.iadd, 1) := by decide +kernel
theorem dX1_begin_120 : decode cX1_begin 120 = .ok (.ireturn, 1) := by decide +kernel
theorem dX1_begin_121 : decode cX1_begin 121 = .ok (.aload_n 0, 1) := by decide +kernel
theorem dX1_begin_122 : decode cX1_begin 122 = .ok (.bipush 11, 2) := by decide +kernel
theorem dX1_begin_124 : decode cX1_begin 124 = .ok (.aload_n 2, 1) := by decide +kernel
theorem dX1_begin_125 : decode cX1_begin 125 = .ok (.iload_n 3, 1) := by decide +kernel
theorem dX1_begin_126 : decode cX1_begin 126 = .ok (.iload 5, 2) := by decide +kernel
theorem dX1_begin_128 : decode cX1_begin 128 = .ok (.invokevirtual 41, 3) := by decide +kernel
theorem dX1_begin_131 : decode cX1_begin 131 = .ok (.ineg, 1) := by decide +kernel
theorem dX1_begin_132 : decode cX1_begin 132 = .ok (.ireturn, 1) := by decide +kernel
theorem dX1_begin_133 : decode cX1_begin 133 = .ok (.aload_n 0, 1) := by decide +kernel
theorem dX1_begin_134 : decode cX1_begin 134 = .ok (.bipush 10, 2) := by decide +kernel
theorem dX1_begin_136 : decode cX1_begin 136 = .ok (.aload_n 2, 1) := by decide +kernel
theorem dX1_begin_137 : decode cX1_begin 137 = .ok (.iload_n 3, 1) := by decide +kernel
theorem dX1_begin_138 : decode cX1_begin 138 = .ok (.iload 5, 2) := by decide +kernel
theorem dX1_begin_140 : decode cX1_begin 140 = .ok (.invokevirtual 41, 3) := by decide +kernel
theorem dX1_begin_143 : decode cX1_begin 143 = .ok (.bipush 100, 2) := by decide +kernel
theorem dX1_begin_145 : decode cX1_begin 145 = .ok (.isub, 1) := by decide +kernel
theorem dX1_begin_146 : decode cX1_begin 146 = .ok (.ireturn, 1) := by decide +kernel
theorem dX1_begin_147 : decode cX1_begin 147 = .ok (.iconst 2, 1) := by decide +kernel
theorem dX1_begin_148 : decode cX1_begin 148 = .ok (.aload_n 0, 1) := by decide +kernel
theorem dX1_begin_149 : decode cX1_begin 149 = .ok (.bipush 13, 2) := by decide +kernel
theorem dX1_begin_151 : decode cX1_begin 151 = .ok (.aload_n 2, 1) := by decide +kernel
theorem dX1_begin_152 : decode cX1_begin 152 = .ok (.iload_n 3, 1) := by decide +kernel
theorem dX1_begin_153 : decode cX1_begin 153 = .ok (.iload 5, 2) := by decide +kernel
theorem dX1_begin_155 : decode cX1_begin 155 = .ok (.invokevirtual 41, 3) := by decide +kernel
theorem dX1_begin_158 : decode cX1_begin 158 = .ok (.imul, 1) := by decide +kernel
theorem dX1_begin_159 : decode cX1_begin 159 = .ok (.ireturn, 1) := by decide +kernel
theorem dX1_begin_160 : decode cX1_begin 160 = .ok (.iload_n 3, 1) := by decide +kernel
theorem dX1_begin_161 : decode cX1_begin 161 = .ok (.ireturn, 1) := by decide +kernel
theorem dX1_begin_162 : decode cX1_begin 162 = .ok (.aload_n 0, 1) := by decide +kernel
theorem dX1_begin_163 : decode cX1_begin 163 = .ok (.bipush 20, 2) := by decide +kernel
theorem dX1_begin_165 : decode cX1_begin 165 = .ok (.aload_n 2, 1) := by decide +kernel
theorem dX1_begin_166 : decode cX1_begin 166 = .ok (.iload_n 3, 1) := by decide +kernel
theorem dX1_begin_167 : decode cX1_begin 167 = .ok (.iload 5, 2) := by decide +kernel
theorem dX1_begin_169 : decode cX1_begin 169 = .ok (.invokevirtual 41, 3) := by decide +kernel
theorem dX1_begin_172 : decode cX1_begin 172 = .ok (.aload_n 2, 1) := by decide +kernel
theorem dX1_begin_173 : decode cX1_begin 173 = .ok (.getfield 55, 3) := by decide +kernel
theorem dX1_begin_176 : decode cX1_begin 176 = .ok (.iadd, 1) := by decide +kernel
theorem dX1_begin_177 : decode cX1_begin 177 = .ok (.ireturn, 1) := by decide +kernel
theorem dX1_begin_178 : decode cX1_begin 178 = .ok (.aload_n 0, 1) := by decide +kernel
theorem dX1_begin_179 : decode cX1_begin 179 = .ok (.bipush 21, 2) := by decide +kernel
theorem dX1_begin_181 : decode cX1_begin 181 = .ok (.aload_n 2, 1) := by decide +kernel
theorem dX1_begin_182 : decode cX1_begin 182 = .ok (.iload_n 3, 1) := by decide +kernel
theorem dX1_begin_183 : decode cX1_begin 183 = .ok (.iload 5, 2) := by decide +kernel
theorem dX1_begin_185 : decode cX1_begin 185 = .ok (.invokevirtual 41, 3) := by decide +kernel
theorem dX1_begin_188 : decode cX1_begin 188 = .ok (.sipush 1000, 3) := by decide +kernel
theorem dX1_begin_191 : decode cX1_begin 191 = .ok (.isub, 1) := by decide +kernel
theorem dX1_begin_192 : decode cX1_begin 192 = .ok (.ireturn, 1) := by decide +kernel
theorem dX1_begin_193 : decode cX1_begin 193 = .ok (.aload_n 0, 1) := by decide +kernel
theorem dX1_begin_194 : decode cX1_begin 194 = .ok (.bipush 20, 2) := by decide +kernel
theorem dX1_begin_196 : decode cX1_begin 196 = .ok (.aload_n 2, 1) := by decide +kernel
theorem dX1_begin_197 : decode cX1_begin 197 = .ok (.iload_n 3, 1) := by decide +kernel
theorem dX1_begin_198 : decode cX1_begin 198 = .ok (.iload 5, 2) := by decide +kernel
theorem dX1_begin_200 : decode cX1_begin 200 = .ok (.invokevirtual 41, 3) := by decide +kernel
theorem dX1_begin_203 : decode cX1_begin 203 = .ok (.aload_n 0, 1) := by decide +kernel
theorem dX1_begin_204 : decode cX1_begin 204 = .ok (.aload_n 2, 1) := by decide +kernel
theorem dX1_begin_205 : decode cX1_begin 205 = .ok (.iload_n 3, 1) := by decide +kernel
theorem dX1_begin_206 : decode cX1_begin 206 = .ok (.iload 5, 2) := by decide +kernel
theorem dX1_begin_208 : decode cX1_begin 208 = .ok (.invokevirtual 22, 3) := by decide +kernel
theorem dX1_begin_211 : decode cX1_begin 211 = .ok (.isub, 1) := by decide +kernel
theorem dX1_begin_212 : decode cX1_begin 212 = .ok (.ireturn, 1) := by decide +kernel
theorem dX1_begin_213 : decode cX1_begin 213 = .ok (.iconst 2, 1) := by decide +kernel
theorem dX1_begin_214 : decode cX1_begin 214 = .ok (.aload_n 0, 1) := by decide +kernel
theorem dX1_begin_215 : decode cX1_begin 215 = .ok (.bipush 21, 2) := by decide +kernel
theorem dX1_begin_217 : decode cX1_begin 217 = .ok (.aload_n 2, 1) := by decide +kernel
theorem dX1_begin_218 : decode cX1_begin 218 = .ok (.iload_n 3, 1) := by decide +kernel
theorem dX1_begin_219 : decode cX1_begin 219 = .ok (.iload 5, 2) := by decide +kernel
theorem dX1_begin_221 : decode cX1_begin 221 = .ok (.invokevirtual 41, 3) := by decide +kernel
theorem dX1_begin_224 : decode cX1_begin 224 = .ok (.imul, 1) := by decide +kernel
theorem dX1_begin_225 : decode cX1_begin 225 = .ok (.ireturn, 1) := by decide +kernel
theorem dX1_begin_226 : decode cX1_begin 226 = .ok (.iconst 0, 1) := by decide +kernel
theorem dX1_begin_227 : decode cX1_begin 227 = .ok (.ireturn, 1) := by decide +kernel
theorem dX1_leaveTrace_0 : decode cX1_leaveTrace 0 = .ok (.aload_n 0, 1) := by decide +kernel
theorem dX1_leaveTrace_1 : decode cX1_leaveTrace 1 = .ok (.getfield 18, 3) := by decide +kernel
theorem dX1_leaveTrace_4 : decode cX1_leaveTrace 4 = .ok (.aload_n 0, 1) := by decide +kernel
theorem dX1_leaveTrace_5 : decode cX1_leaveTrace 5 = .ok (.getfield 11, 3) := by decide +kernel
theorem dX1_leaveTrace_8 : decode cX1_leaveTrace 8 = .ok (.arraylength, 1) := by decide +kernel
theorem dX1_leaveTrace_9 : decode cX1_leaveTrace 9 = .ok (.if_icmp .ge 23, 3) := by decide +kernel
theorem dX1_leaveTrace_12 : decode cX1_leaveTrace 12 = .ok (.aload_n 0, 1) := by decide +kernel
theorem dX1_leaveTrace_13 : decode cX1_leaveTrace 13 = .ok (.getfield 11, 3) := by decide +kernel
theorem dX1_leaveTrace_16 : decode cX1_leaveTrace 16 = .ok (.aload_n 0, 1) := by decide +kernel
theorem dX1_leaveTrace_17 : decode cX1_leaveTrace 17 = .ok (.getfield 18, 3) := by decide +kernel
theorem dX1_leaveTrace_20 : decode cX1_leaveTrace 20 = .ok (.iload_n 1, 1) := by decide +kernel
theorem dX1_leaveTrace_21 : decode cX1_leaveTrace 21 = .ok (.iastore, 1) := by decide +kernel
theorem dX1_leaveTrace_22 : decode cX1_leaveTrace 22 = .ok (.aload_n 0, 1) := by decide +kernel
theorem dX1_leaveTrace_23 : decode cX1_leaveTrace 23 = .ok (.dup, 1) := by decide +kernel
theorem dX1_leaveTrace_24 : decode cX1_leaveTrace 24 = .ok (.getfield 18, 3) := by decide +kernel
theorem dX1_leaveTrace_27 : decode cX1_leaveTrace 27 = .ok (.iconst 1, 1) := by decide +kernel
theorem dX1_leaveTrace_28 : decode cX1_leaveTrace 28 = .ok (.iadd, 1) := by decide +kernel
theorem dX1_leaveTrace_29 : decode cX1_leaveTrace 29 = .ok (.putfield 18, 3) := by decide +kernel
theorem dX1_leaveTrace_32 : decode cX1_leaveTrace 32 = .ok (.return_, 1) := by decide +kernel
theorem dX2_init_0 : decode cX2_init 0 = .ok (.aload_n 0, 1) := by decide +kernel
theorem dX2_init_1 : decode cX2_init 1 = .ok (.invokespecial 3, 3) := by decide +kernel
theorem dX2_init_4 : decode cX2_init 4 = .ok (.aload_n 0, 1) := by decide +kernel
theorem dX2_init_5 : decode cX2_init 5 = .ok (.new 9, 3) := by decide +kernel
theorem dX2_init_8 : decode cX2_init 8 = .ok (.dup, 1) := by decide +kernel
theorem dX2_init_9 : decode cX2_init 9 = .ok (.invokespecial 11, 3) := by decide +kernel
theorem dX2_init_12 : decode cX2_init 12 = .ok (.putfield 12, 3) := by decide +kernel
theorem dX2_init_15 : decode cX2_init 15 = .ok (.aload_n 0, 1) := by decide +kernel
theorem dX2_init_16 : decode cX2_init 16 = .ok (.new 9, 3) := by decide +kernel
theorem dX2_init_19 : decode cX2_init 19 = .ok (.dup, 1) := by decide +kernel
theorem dX2_init_20 : decode cX2_init 20 = .ok (.invokespecial 11, 3) := by decide +kernel
theorem dX2_init_23 : decode cX2_init 23 = .ok (.putfield 18, 3) := by decide +kernel
theorem dX2_init_26 : decode cX2_init 26 = .ok (.aload_n 0, 1) := by decide +kernel
theorem dX2_init_27 : decode cX2_init 27 = .ok (.bipush 6, 2) := by decide +kernel
theorem dX2_init_29 : decode cX2_init 29 = .ok (.newarray .int, 2) := by decide +kernel
theorem dX2_init_31 : decode cX2_init 31 = .ok (.putfield 21, 3) := by decide +kernel
theorem dX2_init_34 : decode cX2_init 34 = .ok (.aload_n 0, 1) := by decide +kernel
theorem dX2_init_35 : decode cX2_init 35 = .ok (.bipush 6, 2) := by decide +kernel
theorem dX2_init_37 : decode cX2_init 37 = .ok (.newarray .int, 2) := by decide +kernel
theorem dX2_init_39 : decode cX2_init 39 = .ok (.putfield 25, 3) := by decide +kernel
theorem dX2_init_42 : decode cX2_init 42 = .ok (.aload_n 0, 1) := by decide +kernel
theorem dX2_init_43 : decode cX2_init 43 = .ok (.bipush 6, 2) := by decide +kernel
theorem dX2_init_45 : decode cX2_init 45 = .ok (.newarray .int, 2) := by decide +kernel
theorem dX2_init_47 : decode cX2_init 47 = .ok (.putfield 28, 3) := by decide +kernel
theorem dX2_init_50 : decode cX2_init 50 = .ok (.return_, 1) := by decide +kernel
theorem dX2_walkToHut_0 : decode cX2_walkToHut 0 = .ok (.aload_n 0, 1) := by decide +kernel
theorem dX2_walkToHut_1 : decode cX2_walkToHut 1 = .ok (.getfield 12, 3) := by decide +kernel
theorem dX2_walkToHut_4 : decode cX2_walkToHut 4 = .ok (.aload_n 1, 1) := by decide +kernel
theorem dX2_walkToHut_5 : decode cX2_walkToHut 5 = .ok (.getfield 31, 3) := by decide +kernel
theorem dX2_walkToHut_8 : decode cX2_walkToHut 8 = .ok (.invokevirtual 34, 3) := by decide +kernel
theorem dX2_walkToHut_11 : decode cX2_walkToHut 11 = .ok (.aload_n 0, 1) := by decide +kernel
theorem dX2_walkToHut_12 : decode cX2_walkToHut 12 = .ok (.aload_n 1, 1) := by decide +kernel
theorem dX2_walkToHut_13 : decode cX2_walkToHut 13 = .ok (.iload_n 2, 1) := by decide +kernel
theorem dX2_walkToHut_14 : decode cX2_walkToHut 14 = .ok (.iload_n 3, 1) := by decide +kernel
theorem dX2_walkToHut_15 : decode cX2_walkToHut 15 = .ok (.invokevirtual 38, 3) := by decide +kernel
theorem dX2_walkToHut_18 : decode cX2_walkToHut 18 = .ok (.ireturn, 1) := by decide +kernel
theorem dX2_walkOn_0 : decode cX2_walkOn 0 = .ok (.aload_n 1, 1) := by decide +kernel
theorem dX2_walkOn_1 : decode cX2_walkOn 1 = .ok (.getfield 42, 3) := by decide +kernel
theorem dX2_walkOn_4 : decode cX2_walkOn 4 = .ok (.istore 4, 2) := by decide +kernel
theorem dX2_walkOn_6 : decode cX2_walkOn 6 = .ok (.iload 4, 2) := by decide +kernel
theorem dX2_walkOn_8 : decode cX2_walkOn 8 = .ok (.aload_n 1, 1) := by decide +kernel
theorem dX2_walkOn_9 : decode cX2_walkOn 9 = .ok (.getfield 46, 3) := by decide +kernel
theorem dX2_walkOn_12 : decode cX2_walkOn 12 = .ok (.if_icmp .ge 21, 3) := by decide +kernel
theorem dX2_walkOn_15 : decode cX2_walkOn 15 = .ok (.aload_n 1, 1) := by decide +kernel
theorem dX2_walkOn_16 : decode cX2_walkOn 16 = .ok (.aload_n 0, 1) := by decide +kernel
theorem dX2_walkOn_17 : decode cX2_walkOn 17 = .ok (.getfield 12, 3) := by decide +kernel
theorem dX2_walkOn_20 : decode cX2_walkOn 20 = .ok (.iload 4, 2) := by decide +kernel
theorem dX2_walkOn_22 : decode cX2_walkOn 22 = .ok (.iload_n 2, 1) := by decide +kernel
theorem dX2_walkOn_23 : decode cX2_walkOn 23 = .ok (.iload_n 3, 1) := by decide +kernel
theorem dX2_walkOn_24 : decode cX2_walkOn 24 = .ok (.invokevirtual 49, 3) := by decide +kernel
theorem dX2_walkOn_27 : decode cX2_walkOn 27 = .ok (.iinc 4 1, 3) := by decide +kernel
theorem dX2_walkOn_30 : decode cX2_walkOn 30 = .ok (.goto (-24), 3) := by decide +kernel
theorem dX2_walkOn_33 : decode cX2_walkOn 33 = .ok (.aload_n 0, 1) := by decide +kernel
theorem dX2_walkOn_34 : decode cX2_walkOn 34 = .ok (.getfield 12, 3) := by decide +kernel
theorem dX2_walkOn_37 : decode cX2_walkOn 37 = .ok (.invokevirtual 53, 3) := by decide +kernel
theorem dX2_walkOn_40 : decode cX2_walkOn 40 = .ok (.ireturn, 1) := by decide +kernel
theorem dX2_isApart_0 : decode cX2_isApart 0 = .ok (.iload_n 0, 1) := by decide +kernel
theorem dX2_isApart_1 : decode cX2_isApart 1 = .ok (.bipush 31, 2) := by decide +kernel
theorem dX2_isApart_3 : decode cX2_isApart 3 = .ok (.idiv, 1) := by decide +kernel
theorem dX2_isApart_4 : decode cX2_isApart 4 = .ok (.istore_n 1, 1) := by decide +kernel
theorem dX2_isApart_5 : decode cX2_isApart 5 = .ok (.iload_n 1, 1) := by decide +kernel
theorem dX2_isApart_6 : decode cX2_isApart 6 = .ok (.iconst 1, 1) := by decide +kernel
theorem dX2_isApart_7 : decode cX2_isApart 7 = .ok (.if_icmp .eq 15, 3) := by decide +kernel
theorem dX2_isApart_10 : decode cX2_isApart 10 = .ok (.iload_n 1, 1) := by decide +kernel
theorem dX2_isApart_11 : decode cX2_isApart 11 = .ok (.iconst 2, 1) := by decide +kernel
theorem dX2_isApart_12 : decode cX2_isApart 12 = .ok (.if_icmp .eq 10, 3) := by decide +kernel
theorem dX2_isApart_15 : decode cX2_isApart 15 = .ok (.iload_n 0, 1) := by decide +kernel
theorem dX2_isApart_16 : decode cX2_isApart 16 = .ok (.bipush 31, 2) := by decide +kernel
theorem dX2_isApart_18 : decode cX2_isApart 18 = .ok (.irem, 1) := by decide +kernel
theorem dX2_isApart_19 : decode cX2_isApart 19 = .ok (.ifCond .ne 7, 3) := by decide +kernel
theorem dX2_isApart_22 : decode cX2_isApart 22 = .ok (.iconst 1, 1) := by decide +kernel
theorem dX2_isApart_23 : decode cX2_isApart 23 = .ok (.goto 4, 3) := by decide +kernel
theorem dX2_isApart_26 : decode cX2_isApart 26 = .ok (.iconst 0, 1) := by decide +kernel
theorem dX2_isApart_27 : decode cX2_isApart 27 = .ok (.ireturn, 1) := by decide +kernel
theorem dX2_startSearch_0 : decode cX2_startSearch 0 = .ok (.aload_n 0, 1) := by decide +kernel
theorem dX2_startSearch_1 : decode cX2_startSearch 1 = .ok (.ldc 57, 2) := by decide +kernel
theorem dX2_startSearch_3 : decode cX2_startSearch 3 = .ok (.putfield 58, 3) := by decide +kernel
theorem dX2_startSearch_6 : decode cX2_startSearch 6 = .ok (.aload_n 0, 1) := by decide +kernel
theorem dX2_startSearch_7 : decode cX2_startSearch 7 = .ok (.iconst 0, 1) := by decide +kernel
theorem dX2_startSearch_8 : decode cX2_startSearch 8 = .ok (.putfield 61, 3) := by decide +kernel
theorem dX2_startSearch_11 : decode cX2_startSearch 11 = .ok (.return_, 1) := by decide +kernel
theorem dX2_keepIfLess_0 : decode cX2_keepIfLess 0 = .ok (.iload_n 1, 1) := by decide +kernel
theorem dX2_keepIfLess_1 : decode cX2_keepIfLess 1 = .ok (.aload_n 0, 1) := by decide +kernel
theorem dX2_keepIfLess_2 : decode cX2_keepIfLess 2 = .ok (.getfield 58, 3) := by decide +kernel
theorem dX2_keepIfLess_5 : decode cX2_keepIfLess 5 = .ok (.if_icmp .lt 5, 3) := by decide +kernel
theorem dX2_keepIfLess_8 : decode cX2_keepIfLess 8 = .ok (.iconst 0, 1) := by decide +kernel
theorem dX2_keepIfLess_9 : decode cX2_keepIfLess 9 = .ok (.ireturn, 1) := by decide +kernel
theorem dX2_keepIfLess_10 : decode cX2_keepIfLess 10 = .ok (.aload_n 0, 1) := by decide +kernel
theorem dX2_keepIfLess_11 : decode cX2_keepIfLess 11 = .ok (.iload_n 1, 1) := by decide +kernel
theorem dX2_keepIfLess_12 : decode cX2_keepIfLess 12 = .ok (.putfield 58, 3) := by decide +kernel
theorem dX2_keepIfLess_15 : decode cX2_keepIfLess 15 = .ok (.aload_n 0, 1) := by decide +kernel
theorem dX2_keepIfLess_16 : decode cX2_keepIfLess 16 = .ok (.iload_n 2, 1) := by decide +kernel
theorem dX2_keepIfLess_17 : decode cX2_keepIfLess 17 = .ok (.putfield 61, 3) := by decide +kernel
theorem dX2_keepIfLess_20 : decode cX2_keepIfLess 20 = .ok (.iconst 1, 1) := by decide +kernel
theorem dX2_keepIfLess_21 : decode cX2_keepIfLess 21 = .ok (.ireturn, 1) := by decide +kernel
theorem dX2_bestRule_0 : decode cX2_bestRule 0 = .ok (.iload_n 1, 1) := by decide +kernel
theorem dX2_bestRule_1 : decode cX2_bestRule 1 = .ok (.ifCond .ne 11, 3) := by decide +kernel
theorem dX2_bestRule_4 : decode cX2_bestRule 4 = .ok (.aload_n 0, 1) := by decide +kernel
theorem dX2_bestRule_5 : decode cX2_bestRule 5 = .ok (.getfield 61, 3) := by decide +kernel
theorem dX2_bestRule_8 : decode cX2_bestRule 8 = .ok (.bipush 31, 2) := by decide +kernel
theorem dX2_bestRule_10 : decode cX2_bestRule 10 = .ok (.idiv, 1) := by decide +kernel
theorem dX2_bestRule_11 : decode cX2_bestRule 11 = .ok (.ireturn, 1) := by decide +kernel
theorem dX2_bestRule_12 : decode cX2_bestRule 12 = .ok (.iload_n 1, 1) := by decide +kernel
theorem dX2_bestRule_13 : decode cX2_bestRule 13 = .ok (.iconst 1, 1) := by decide +kernel
theorem dX2_bestRule_14 : decode cX2_bestRule 14 = .ok (.if_icmp .ne 13, 3) := by decide +kernel
theorem dX2_bestRule_17 : decode cX2_bestRule 17 = .ok (.aload_n 0, 1) := by decide +kernel
theorem dX2_bestRule_18 : decode cX2_bestRule 18 = .ok (.getfield 61, 3) := by decide +kernel
theorem dX2_bestRule_21 : decode cX2_bestRule 21 = .ok (.bipush 31, 2) := by decide +kernel
theorem dX2_bestRule_23 : decode cX2_bestRule 23 = .ok (.irem, 1) := by decide +kernel
theorem dX2_bestRule_24 : decode cX2_bestRule 24 = .ok (.goto 7, 3) := by decide +kernel
theorem dX2_bestRule_27 : decode cX2_bestRule 27 = .ok (.aload_n 0, 1) := by decide +kernel
theorem dX2_bestRule_28 : decode cX2_bestRule 28 = .ok (.getfield 58, 3) := by decide +kernel
theorem dX2_bestRule_31 : decode cX2_bestRule 31 = .ok (.ireturn, 1) := by decide +kernel
theorem dX2_findSoonest_0 : decode cX2_findSoonest 0 = .ok (.aload_n 0, 1) := by decide +kernel
theorem dX2_findSoonest_1 : decode cX2_findSoonest 1 = .ok (.invokevirtual 64, 3) := by decide +kernel
theorem dX2_findSoonest_4 : decode cX2_findSoonest 4 = .ok (.iconst 0, 1) := by decide +kernel
theorem dX2_findSoonest_5 : decode cX2_findSoonest 5 = .ok (.istore_n 2, 1) := by decide +kernel
theorem dX2_findSoonest_6 : decode cX2_findSoonest 6 = .ok (.iload_n 2, 1) := by decide +kernel
theorem dX2_findSoonest_7 : decode cX2_findSoonest 7 = .ok (.bipush 124, 2) := by decide +kernel
theorem dX2_findSoonest_9 : decode cX2_findSoonest 9 = .ok (.if_icmp .ge 35, 3) := by decide +kernel
theorem dX2_findSoonest_12 : decode cX2_findSoonest 12 = .ok (.iload_n 2, 1) := by decide +kernel
theorem dX2_findSoonest_13 : decode cX2_findSoonest 13 = .ok (.invokestatic 67, 3) := by decide +kernel
theorem dX2_findSoonest_16 : decode cX2_findSoonest 16 = .ok (.ifCond .eq 22, 3) := by decide +kernel
theorem dX2_findSoonest_19 : decode cX2_findSoonest 19 = .ok (.aload_n 0, 1) := by decide +kernel
theorem dX2_findSoonest_20 : decode cX2_findSoonest 20 = .ok (.aload_n 0, 1) := by decide +kernel
theorem dX2_findSoonest_21 : decode cX2_findSoonest 21 = .ok (.aload_n 1, 1) := by decide +kernel
theorem dX2_findSoonest_22 : decode cX2_findSoonest 22 = .ok (.iload_n 2, 1) := by decide +kernel
theorem dX2_findSoonest_23 : decode cX2_findSoonest 23 = .ok (.bipush 31, 2) := by decide +kernel
theorem dX2_findSoonest_25 : decode cX2_findSoonest 25 = .ok (.idiv, 1) := by decide +kernel
theorem dX2_findSoonest_26 : decode cX2_findSoonest 26 = .ok (.iload_n 2, 1) := by decide +kernel
theorem dX2_findSoonest_27 : decode cX2_findSoonest 27 = .ok (.bipush 31, 2) := by decide +kernel
theorem dX2_findSoonest_29 : decode cX2_findSoonest 29 = .ok (.irem, 1) := by decide +kernel
theorem dX2_findSoonest_30 : decode cX2_findSoonest 30 = .ok (.invokevirtual 71, 3) := by decide +kernel
theorem dX2_findSoonest_33 : decode cX2_findSoonest 33 = .ok (.iload_n 2, 1) := by decide +kernel
theorem dX2_findSoonest_34 : decode cX2_findSoonest 34 = .ok (.invokevirtual 74, 3) := by decide +kernel
theorem dX2_findSoonest_37 : decode cX2_findSoonest 37 = .ok (.pop, 1) := by decide +kernel
theorem dX2_findSoonest_38 : decode cX2_findSoonest 38 = .ok (.iinc 2 1, 3) := by decide +kernel
theorem dX2_findSoonest_41 : decode cX2_findSoonest 41 = .ok (.goto (-35), 3) := by decide +kernel
theorem dX2_findSoonest_44 : decode cX2_findSoonest 44 = .ok (.return_, 1) := by decide +kernel
theorem dX2_findFair_0 : decode cX2_findFair 0 = .ok (.aload_n 0, 1) := by decide +kernel
theorem dX2_findFair_1 : decode cX2_findFair 1 = .ok (.aload_n 1, 1) := by decide +kernel
theorem dX2_findFair_2 : decode cX2_findFair 2 = .ok (.iconst 3, 1) := by decide +kernel
theorem dX2_findFair_3 : decode cX2_findFair 3 = .ok (.iconst 0, 1) := by decide +kernel
theorem dX2_findFair_4 : decode cX2_findFair 4 = .ok (.invokevirtual 71, 3) := by decide +kernel
theorem dX2_findFair_7 : decode cX2_findFair 7 = .ok (.pop, 1) := by decide +kernel
theorem dX2_findFair_8 : decode cX2_findFair 8 = .ok (.iconst 0, 1) := by decide +kernel
theorem dX2_findFair_9 : decode cX2_findFair 9 = .ok (.istore_n 2, 1) := by decide +kernel
theorem dX2_findFair_10 : decode cX2_findFair 10 = .ok (.iload_n 2, 1) := by decide +kernel
theorem dX2_findFair_11 : decode cX2_findFair 11 = .ok (.aload_n 0, 1) := by decide +kernel
theorem dX2_findFair_12 : decode cX2_findFair 12 = .ok (.getfield 12, 3) := by decide +kernel
theorem dX2_findFair_15 : decode cX2_findFair 15 = .ok (.getfield 78, 3) := by decide +kernel
theorem dX2_findFair_18 : decode cX2_findFair 18 = .ok (.if_icmp .ge 27, 3) := by decide +kernel
theorem dX2_findFair_21 : decode cX2_findFair 21 = .ok (.aload_n 0, 1) := by decide +kernel
theorem dX2_findFair_22 : decode cX2_findFair 22 = .ok (.getfield 21, 3) := by decide +kernel
theorem dX2_findFair_25 : decode cX2_findFair 25 = .ok (.iload_n 2, 1) := by decide +kernel
theorem dX2_findFair_26 : decode cX2_findFair 26 = .ok (.aload_n 0, 1) := by decide +kernel
theorem dX2_findFair_27 : decode cX2_findFair 27 = .ok (.getfield 12, 3) := by decide +kernel
theorem dX2_findFair_30 : decode cX2_findFair 30 = .ok (.getfield 81, 3) := by decide +kernel
theorem dX2_findFair_33 : decode cX2_findFair 33 = .ok (.iload_n 2, 1) := by decide +kernel
theorem dX2_findFair_34 : decode cX2_findFair 34 = .ok (.aaload, 1) := by decide +kernel
theorem dX2_findFair_35 : decode cX2_findFair 35 = .ok (.getfield 85, 3) := by decide +kernel
theorem dX2_findFair_38 : decode cX2_findFair 38 = .ok (.iastore, 1) := by decide +kernel
theorem dX2_findFair_39 : decode cX2_findFair 39 = .ok (.iinc 2 1, 3) := by decide +kernel
theorem dX2_findFair_42 : decode cX2_findFair 42 = .ok (.goto (-32), 3) := by decide +kernel
theorem dX2_findFair_45 : decode cX2_findFair 45 = .ok (.aload_n 0, 1) := by decide +kernel
theorem dX2_findFair_46 : decode cX2_findFair 46 = .ok (.invokevirtual 64, 3) := by decide +kernel
theorem dX2_findFair_49 : decode cX2_findFair 49 = .ok (.iconst 0, 1) := by decide +kernel
theorem dX2_findFair_50 : decode cX2_findFair 50 = .ok (.istore_n 2, 1) := by decide +kernel
theorem dX2_findFair_51 : decode cX2_findFair 51 = .ok (.iload_n 2, 1) := by decide +kernel
theorem dX2_findFair_52 : decode cX2_findFair 52 = .ok (.bipush 124, 2) := by decide +kernel
theorem dX2_findFair_54 : decode cX2_findFair 54 = .ok (.if_icmp .ge 40, 3) := by decide +kernel
theorem dX2_findFair_57 : decode cX2_findFair 57 = .ok (.iload_n 2, 1) := by decide +kernel
theorem dX2_findFair_58 : decode cX2_findFair 58 = .ok (.invokestatic 67, 3) := by decide +kernel
theorem dX2_findFair_61 : decode cX2_findFair 61 = .ok (.ifCond .eq 27, 3) := by decide +kernel
theorem dX2_findFair_64 : decode cX2_findFair 64 = .ok (.aload_n 0, 1) := by decide +kernel
theorem dX2_findFair_65 : decode cX2_findFair 65 = .ok (.aload_n 1, 1) := by decide +kernel
theorem dX2_findFair_66 : decode cX2_findFair 66 = .ok (.iload_n 2, 1) := by decide +kernel
theorem dX2_findFair_67 : decode cX2_findFair 67 = .ok (.bipush 31, 2) := by decide +kernel
theorem dX2_findFair_69 : decode cX2_findFair 69 = .ok (.idiv, 1) := by decide +kernel
theorem dX2_findFair_70 : decode cX2_findFair 70 = .ok (.iload_n 2, 1) := by decide +kernel
theorem dX2_findFair_71 : decode cX2_findFair 71 = .ok (.bipush 31, 2) := by decide +kernel
theorem dX2_findFair_73 : decode cX2_findFair 73 = .ok (.irem, 1) := by decide +kernel
theorem dX2_findFair_74 : decode cX2_findFair 74 = .ok (.invokevirtual 71, 3) := by decide +kernel
theorem dX2_findFair_77 : decode cX2_findFair 77 = .ok (.pop, 1) := by decide +kernel
theorem dX2_findFair_78 : decode cX2_findFair 78 = .ok (.aload_n 0, 1) := by decide +kernel
theorem dX2_findFair_79 : decode cX2_findFair 79 = .ok (.aload_n 0, 1) := by decide +kernel
theorem dX2_findFair_80 : decode cX2_findFair 80 = .ok (.invokevirtual 90, 3) := by decide +kernel
theorem dX2_findFair_83 : decode cX2_findFair 83 = .ok (.iload_n 2, 1) := by decide +kernel
theorem dX2_findFair_84 : decode cX2_findFair 84 = .ok (.invokevirtual 74, 3) := by decide +kernel
theorem dX2_findFair_87 : decode cX2_findFair 87 = .ok (.pop, 1) := by decide +kernel
theorem dX2_findFair_88 : decode cX2_findFair 88 = .ok (.iinc 2 1, 3) := by decide +kernel
theorem dX2_findFair_91 : decode cX2_findFair 91 = .ok (.goto (-40), 3) := by decide +kernel
theorem dX2_findFair_94 : decode cX2_findFair 94 = .ok (.return_, 1) := by decide +kernel
theorem dX2_greatestLoss_0 : decode cX2_greatestLoss 0 = .ok (.ldc 93, 2) := by decide +kernel
theorem dX2_greatestLoss_2 : decode cX2_greatestLoss 2 = .ok (.istore_n 1, 1) := by decide +kernel
theorem dX2_greatestLoss_3 : decode cX2_greatestLoss 3 = .ok (.iconst 0, 1) := by decide +kernel
theorem dX2_greatestLoss_4 : decode cX2_greatestLoss 4 = .ok (.istore_n 2, 1) := by decide +kernel
theorem dX2_greatestLoss_5 : decode cX2_greatestLoss 5 = .ok (.iload_n 2, 1) := by decide +kernel
theorem dX2_greatestLoss_6 : decode cX2_greatestLoss 6 = .ok (.aload_n 0, 1) := by decide +kernel
theorem dX2_greatestLoss_7 : decode cX2_greatestLoss 7 = .ok (.getfield 12, 3) := by decide +kernel
theorem dX2_greatestLoss_10 : decode cX2_greatestLoss 10 = .ok (.getfield 78, 3) := by decide +kernel
theorem dX2_greatestLoss_13 : decode cX2_greatestLoss 13 = .ok (.if_icmp .ge 33, 3) := by decide +kernel
theorem dX2_greatestLoss_16 : decode cX2_greatestLoss 16 = .ok (.iload_n 1, 1) := by decide +kernel
theorem dX2_greatestLoss_17 : decode cX2_greatestLoss 17 = .ok (.aload_n 0, 1) := by decide +kernel
theorem dX2_greatestLoss_18 : decode cX2_greatestLoss 18 = .ok (.getfield 12, 3) := by decide +kernel
theorem dX2_greatestLoss_21 : decode cX2_greatestLoss 21 = .ok (.getfield 81, 3) := by decide +kernel
theorem dX2_greatestLoss_24 : decode cX2_greatestLoss 24 = .ok (.iload_n 2, 1) := by decide +kernel
theorem dX2_greatestLoss_25 : decode cX2_greatestLoss 25 = .ok (.aaload, 1) := by decide +kernel
theorem dX2_greatestLoss_26 : decode cX2_greatestLoss 26 = .ok (.getfield 85, 3) := by decide +kernel
theorem dX2_greatestLoss_29 : decode cX2_greatestLoss 29 = .ok (.aload_n 0, 1) := by decide +kernel
theorem dX2_greatestLoss_30 : decode cX2_greatestLoss 30 = .ok (.getfield 21, 3) := by decide +kernel
theorem dX2_greatestLoss_33 : decode cX2_greatestLoss 33 = .ok (.iload_n 2, 1) := by decide +kernel
theorem dX2_greatestLoss_34 : decode cX2_greatestLoss 34 = .ok (.iaload, 1) := by decide +kernel
theorem dX2_greatestLoss_35 : decode cX2_greatestLoss 35 = .ok (.isub, 1) := by decide +kernel
theorem dX2_greatestLoss_36 : decode cX2_greatestLoss 36 = .ok (.invokestatic 94, 3) := by decide +kernel
theorem dX2_greatestLoss_39 : decode cX2_greatestLoss 39 = .ok (.istore_n 1, 1) := by decide +kernel
theorem dX2_greatestLoss_40 : decode cX2_greatestLoss 40 = .ok (.iinc 2 1, 3) := by decide +kernel
theorem dX2_greatestLoss_43 : decode cX2_greatestLoss 43 = .ok (.goto (-38), 3) := by decide +kernel
theorem dX2_greatestLoss_46 : decode cX2_greatestLoss 46 = .ok (.iload_n 1, 1) := by decide +kernel
theorem dX2_greatestLoss_47 : decode cX2_greatestLoss 47 = .ok (.ireturn, 1) := by decide +kernel
theorem dX2_findSacks_0 : decode cX2_findSacks 0 = .ok (.aload_n 1, 1) := by decide +kernel
theorem dX2_findSacks_1 : decode cX2_findSacks 1 = .ok (.getfield 31, 3) := by decide +kernel
theorem dX2_findSacks_4 : decode cX2_findSacks 4 = .ok (.getfield 78, 3) := by decide +kernel
theorem dX2_findSacks_7 : decode cX2_findSacks 7 = .ok (.istore_n 2, 1) := by decide +kernel
theorem dX2_findSacks_8 : decode cX2_findSacks 8 = .ok (.iconst 0, 1) := by decide +kernel
theorem dX2_findSacks_9 : decode cX2_findSacks 9 = .ok (.istore_n 3, 1) := by decide +kernel
theorem dX2_findSacks_10 : decode cX2_findSacks 10 = .ok (.iload_n 3, 1) := by decide +kernel
theorem dX2_findSacks_11 : decode cX2_findSacks 11 = .ok (.iload_n 2, 1) := by decide +kernel
theorem dX2_findSacks_12 : decode cX2_findSacks 12 = .ok (.if_icmp .ge 16, 3) := by decide +kernel
theorem dX2_findSacks_15 : decode cX2_findSacks 15 = .ok (.aload_n 0, 1) := by decide +kernel
theorem dX2_findSacks_16 : decode cX2_findSacks 16 = .ok (.getfield 25, 3) := by decide +kernel
theorem dX2_findSacks_19 : decode cX2_findSacks 19 = .ok (.iload_n 3, 1) := by decide +kernel
theorem dX2_findSacks_20 : decode cX2_findSacks 20 = .ok (.iload_n 3, 1) := by decide +kernel
theorem dX2_findSacks_21 : decode cX2_findSacks 21 = .ok (.iastore, 1) := by decide +kernel
theorem dX2_findSacks_22 : decode cX2_findSacks 22 = .ok (.iinc 3 1, 3) := by decide +kernel
theorem dX2_findSacks_25 : decode cX2_findSacks 25 = .ok (.goto (-15), 3) := by decide +kernel
theorem dX2_findSacks_28 : decode cX2_findSacks 28 = .ok (.aload_n 0, 1) := by decide +kernel
theorem dX2_findSacks_29 : decode cX2_findSacks 29 = .ok (.invokevirtual 64, 3) := by decide +kernel
theorem dX2_findSacks_32 : decode cX2_findSacks 32 = .ok (.iconst 1, 1) := by decide +kernel
theorem dX2_findSacks_33 : decode cX2_findSacks 33 = .ok (.istore_n 3, 1) := by decide +kernel
theorem dX2_findSacks_34 : decode cX2_findSacks 34 = .ok (.iconst 0, 1) := by decide +kernel
theorem dX2_findSacks_35 : decode cX2_findSacks 35 = .ok (.istore 4, 2) := by decide +kernel
theorem dX2_findSacks_37 : decode cX2_findSacks 37 = .ok (.iload 4, 2) := by decide +kernel
theorem dX2_findSacks_39 : decode cX2_findSacks 39 = .ok (.sipush 720, 3) := by decide +kernel
theorem dX2_findSacks_42 : decode cX2_findSacks 42 = .ok (.if_icmp .ge 112, 3) := by decide +kernel
theorem dX2_findSacks_45 : decode cX2_findSacks 45 = .ok (.iload_n 3, 1) := by decide +kernel
theorem dX2_findSacks_46 : decode cX2_findSacks 46 = .ok (.ifCond .eq 108, 3) := by decide +kernel
theorem dX2_findSacks_49 : decode cX2_findSacks 49 = .ok (.aload_n 0, 1) := by decide +kernel
theorem dX2_findSacks_50 : decode cX2_findSacks 50 = .ok (.getfield 12, 3) := by decide +kernel
theorem dX2_findSacks_53 : decode cX2_findSacks 53 = .ok (.aload_n 1, 1) := by decide +kernel
theorem dX2_findSacks_54 : decode cX2_findSacks 54 = .ok (.getfield 31, 3) := by decide +kernel
theorem dX2_findSacks_57 : decode cX2_findSacks 57 = .ok (.invokevirtual 34, 3) := by decide +kernel
theorem dX2_findSacks_60 : decode cX2_findSacks 60 = .ok (.iconst 0, 1) := by decide +kernel
theorem dX2_findSacks_61 : decode cX2_findSacks 61 = .ok (.istore 5, 2) := by decide +kernel
theorem dX2_findSacks_63 : decode cX2_findSacks 63 = .ok (.iload 5, 2) := by decide +kernel
theorem dX2_findSacks_65 : decode cX2_findSacks 65 = .ok (.iload_n 2, 1) := by decide +kernel
theorem dX2_findSacks_66 : decode cX2_findSacks 66 = .ok (.if_icmp .ge 40, 3) := by decide +kernel
theorem dX2_findSacks_69 : decode cX2_findSacks 69 = .ok (.aload_n 0, 1) := by decide +kernel
theorem dX2_findSacks_70 : decode cX2_findSacks 70 = .ok (.getfield 12, 3) := by decide +kernel
theorem dX2_findSacks_73 : decode cX2_findSacks 73 = .ok (.getfield 81, 3) := by decide +kernel
theorem dX2_findSacks_76 : decode cX2_findSacks 76 = .ok (.iload 5, 2) := by decide +kernel
theorem dX2_findSacks_78 : decode cX2_findSacks 78 = .ok (.aaload, 1) := by decide +kernel
theorem dX2_findSacks_79 : decode cX2_findSacks 79 = .ok (.aload_n 1, 1) := by decide +kernel
theorem dX2_findSacks_80 : decode cX2_findSacks 80 = .ok (.getfield 31, 3) := by decide +kernel
theorem dX2_findSacks_83 : decode cX2_findSacks 83 = .ok (.getfield 81, 3) := by decide +kernel
theorem dX2_findSacks_86 : decode cX2_findSacks 86 = .ok (.aload_n 0, 1) := by decide +kernel
theorem dX2_findSacks_87 : decode cX2_findSacks 87 = .ok (.getfield 25, 3) := by decide +kernel
theorem dX2_findSacks_90 : decode cX2_findSacks 90 = .ok (.iload 5, 2) := by decide +kernel
theorem dX2_findSacks_92 : decode cX2_findSacks 92 = .ok (.iaload, 1) := by decide +kernel
theorem dX2_findSacks_93 : decode cX2_findSacks 93 = .ok (.aaload, 1) := by decide +kernel
theorem dX2_findSacks_94 : decode cX2_findSacks 94 = .ok (.getfield 100, 3) := by decide +kernel
theorem dX2_findSacks_97 : decode cX2_findSacks 97 = .ok (.putfield 100, 3) := by decide +kernel
theorem dX2_findSacks_100 : decode cX2_findSacks 100 = .ok (.iinc 5 1, 3) := by decide +kernel
theorem dX2_findSacks_103 : decode cX2_findSacks 103 = .ok (.goto (-40), 3) := by decide +kernel
theorem dX2_findSacks_106 : decode cX2_findSacks 106 = .ok (.aload_n 0, 1) := by decide +kernel
theorem dX2_findSacks_107 : decode cX2_findSacks 107 = .ok (.aload_n 0, 1) := by decide +kernel
theorem dX2_findSacks_108 : decode cX2_findSacks 108 = .ok (.aload_n 1, 1) := by decide +kernel
theorem dX2_findSacks_109 : decode cX2_findSacks 109 = .ok (.aload_n 1, 1) := by decide +kernel
theorem dX2_findSacks_110 : decode cX2_findSacks 110 = .ok (.getfield 103, 3) := by decide +kernel
theorem dX2_findSacks_113 : decode cX2_findSacks 113 = .ok (.aload_n 1, 1) := by decide +kernel
theorem dX2_findSacks_114 : decode cX2_findSacks 114 = .ok (.getfield 106, 3) := by decide +kernel
theorem dX2_findSacks_117 : decode cX2_findSacks 117 = .ok (.invokevirtual 38, 3) := by decide +kernel
theorem dX2_findSacks_120 : decode cX2_findSacks 120 = .ok (.iload 4, 2) := by decide +kernel
theorem dX2_findSacks_122 : decode cX2_findSacks 122 = .ok (.invokevirtual 74, 3) := by decide +kernel
theorem dX2_findSacks_125 : decode cX2_findSacks 125 = .ok (.ifCond .eq 17, 3) := by decide +kernel
theorem dX2_findSacks_128 : decode cX2_findSacks 128 = .ok (.aload_n 0, 1) := by decide +kernel
theorem dX2_findSacks_129 : decode cX2_findSacks 129 = .ok (.getfield 25, 3) := by decide +kernel
theorem dX2_findSacks_132 : decode cX2_findSacks 132 = .ok (.iconst 0, 1) := by decide +kernel
theorem dX2_findSacks_133 : decode cX2_findSacks 133 = .ok (.aload_n 0, 1) := by decide +kernel
theorem dX2_findSacks_134 : decode cX2_findSacks 134 = .ok (.getfield 28, 3) := by decide +kernel
theorem dX2_findSacks_137 : decode cX2_findSacks 137 = .ok (.iconst 0, 1) := by decide +kernel
theorem dX2_findSacks_138 : decode cX2_findSacks 138 = .ok (.iload_n 2, 1) := by decide +kernel
theorem dX2_findSacks_139 : decode cX2_findSacks 139 = .ok (.invokestatic 109, 3) := by decide +kernel
theorem dX2_findSacks_142 : decode cX2_findSacks 142 = .ok (.aload_n 0, 1) := by decide +kernel
theorem dX2_findSacks_143 : decode cX2_findSacks 143 = .ok (.iload_n 2, 1) := by decide +kernel
theorem dX2_findSacks_144 : decode cX2_findSacks 144 = .ok (.invokevirtual 115, 3) := by decide +kernel
theorem dX2_findSacks_147 : decode cX2_findSacks 147 = .ok (.istore_n 3, 1) := by decide +kernel
theorem dX2_findSacks_148 : decode cX2_findSacks 148 = .ok (.iinc 4 1, 3) := by decide +kernel
theorem dX2_findSacks_151 : decode cX2_findSacks 151 = .ok (.goto (-114), 3) := by decide +kernel
theorem dX2_findSacks_154 : decode cX2_findSacks 154 = .ok (.return_, 1) := by decide +kernel
theorem dX2_nextOrder_0 : decode cX2_nextOrder 0 = .ok (.iload_n 1, 1) := by decide +kernel
theorem dX2_nextOrder_1 : decode cX2_nextOrder 1 = .ok (.iconst 2, 1) := by decide +kernel
theorem dX2_nextOrder_2 : decode cX2_nextOrder 2 = .ok (.isub, 1) := by decide +kernel
theorem dX2_nextOrder_3 : decode cX2_nextOrder 3 = .ok (.istore_n 2, 1) := by decide +kernel
theorem dX2_nextOrder_4 : decode cX2_nextOrder 4 = .ok (.iload_n 2, 1) := by decide +kernel
theorem dX2_nextOrder_5 : decode cX2_nextOrder 5 = .ok (.ifCond .lt 26, 3) := by decide +kernel
theorem dX2_nextOrder_8 : decode cX2_nextOrder 8 = .ok (.aload_n 0, 1) := by decide +kernel
theorem dX2_nextOrder_9 : decode cX2_nextOrder 9 = .ok (.getfield 25, 3) := by decide +kernel
theorem dX2_nextOrder_12 : decode cX2_nextOrder 12 = .ok (.iload_n 2, 1) := by decide +kernel
theorem dX2_nextOrder_13 : decode cX2_nextOrder 13 = .ok (.iaload, 1) := by decide +kernel
theorem dX2_nextOrder_14 : decode cX2_nextOrder 14 = .ok (.aload_n 0, 1) := by decide +kernel
theorem dX2_nextOrder_15 : decode cX2_nextOrder 15 = .ok (.getfield 25, 3) := by decide +kernel
theorem dX2_nextOrder_18 : decode cX2_nextOrder 18 = .ok (.iload_n 2, 1) := by decide +kernel
theorem dX2_nextOrder_19 : decode cX2_nextOrder 19 = .ok (.iconst 1, 1) := by decide +kernel
theorem dX2_nextOrder_20 : decode cX2_nextOrder 20 = .ok (.iadd, 1) := by decide +kernel
theorem dX2_nextOrder_21 : decode cX2_nextOrder 21 = .ok (.iaload, 1) := by decide +kernel
theorem dX2_nextOrder_22 : decode cX2_nextOrder 22 = .ok (.if_icmp .le 9, 3) := by decide +kernel
theorem dX2_nextOrder_25 : decode cX2_nextOrder 25 = .ok (.iinc 2 (-1), 3) := by decide +kernel
theorem dX2_nextOrder_28 : decode cX2_nextOrder 28 = .ok (.goto (-24), 3) := by decide +kernel
theorem dX2_nextOrder_31 : decode cX2_nextOrder 31 = .ok (.iload_n 2, 1) := by decide +kernel
theorem dX2_nextOrder_32 : decode cX2_nextOrder 32 = .ok (.ifCond .ge 5, 3) := by decide +kernel
theorem dX2_nextOrder_35 : decode cX2_nextOrder 35 = .ok (.iconst 0, 1) := by decide +kernel
theorem dX2_nextOrder_36 : decode cX2_nextOrder 36 = .ok (.ireturn, 1) := by decide +kernel
theorem dX2_nextOrder_37 : decode cX2_nextOrder 37 = .ok (.iload_n 1, 1) := by decide +kernel
theorem dX2_nextOrder_38 : decode cX2_nextOrder 38 = .ok (.iconst 1, 1) := by decide +kernel
theorem dX2_nextOrder_39 : decode cX2_nextOrder 39 = .ok (.isub, 1) := by decide +kernel
theorem dX2_nextOrder_40 : decode cX2_nextOrder 40 = .ok (.istore_n 3, 1) := by decide +kernel
theorem dX2_nextOrder_41 : decode cX2_nextOrder 41 = .ok (.iload_n 3, 1) := by decide +kernel
theorem dX2_nextOrder_42 : decode cX2_nextOrder 42 = .ok (.iload_n 2, 1) := by decide +kernel
theorem dX2_nextOrder_43 : decode cX2_nextOrder 43 = .ok (.if_icmp .le 24, 3) := by decide +kernel
theorem dX2_nextOrder_46 : decode cX2_nextOrder 46 = .ok (.aload_n 0, 1) := by decide +kernel
theorem dX2_nextOrder_47 : decode cX2_nextOrder 47 = .ok (.getfield 25, 3) := by decide +kernel
theorem dX2_nextOrder_50 : decode cX2_nextOrder 50 = .ok (.iload_n 3, 1) := by decide +kernel
theorem dX2_nextOrder_51 : decode cX2_nextOrder 51 = .ok (.iaload, 1) := by decide +kernel
theorem dX2_nextOrder_52 : decode cX2_nextOrder 52 = .ok (.aload_n 0, 1) := by decide +kernel
theorem dX2_nextOrder_53 : decode cX2_nextOrder 53 = .ok (.getfield 25, 3) := by decide +kernel
theorem dX2_nextOrder_56 : decode cX2_nextOrder 56 = .ok (.iload_n 2, 1) := by decide +kernel
theorem dX2_nextOrder_57 : decode cX2_nextOrder 57 = .ok (.iaload, 1) := by decide +kernel
theorem dX2_nextOrder_58 : decode cX2_nextOrder 58 = .ok (.if_icmp .ge 9, 3) := by decide +kernel
theorem dX2_nextOrder_61 : decode cX2_nextOrder 61 = .ok (.iinc 3 (-1), 3) := by decide +kernel
theorem dX2_nextOrder_64 : decode cX2_nextOrder 64 = .ok (.goto (-23), 3) := by decide +kernel
theorem dX2_nextOrder_67 : decode cX2_nextOrder 67 = .ok (.aload_n 0, 1) := by decide +kernel
theorem dX2_nextOrder_68 : decode cX2_nextOrder 68 = .ok (.iload_n 2, 1) := by decide +kernel
theorem dX2_nextOrder_69 : decode cX2_nextOrder 69 = .ok (.iload_n 3, 1) := by decide +kernel
theorem dX2_nextOrder_70 : decode cX2_nextOrder 70 = .ok (.invokevirtual 118, 3) := by decide +kernel
theorem dX2_nextOrder_73 : decode cX2_nextOrder 73 = .ok (.iload_n 2, 1) := by decide +kernel
theorem dX2_nextOrder_74 : decode cX2_nextOrder 74 = .ok (.iconst 1, 1) := by decide +kernel
theorem dX2_nextOrder_75 : decode cX2_nextOrder 75 = .ok (.iadd, 1) := by decide +kernel
theorem dX2_nextOrder_76 : decode cX2_nextOrder 76 = .ok (.istore 4, 2) := by decide +kernel
theorem dX2_nextOrder_78 : decode cX2_nextOrder 78 = .ok (.iload_n 1, 1) := by decide +kernel
theorem dX2_nextOrder_79 : decode cX2_nextOrder 79 = .ok (.iconst 1, 1) := by decide +kernel
theorem dX2_nextOrder_80 : decode cX2_nextOrder 80 = .ok (.isub, 1) := by decide +kernel
theorem dX2_nextOrder_81 : decode cX2_nextOrder 81 = .ok (.istore 5, 2) := by decide +kernel
theorem dX2_nextOrder_83 : decode cX2_nextOrder 83 = .ok (.iload 4, 2) := by decide +kernel
theorem dX2_nextOrder_85 : decode cX2_nextOrder 85 = .ok (.iload 5, 2) := by decide +kernel
theorem dX2_nextOrder_87 : decode cX2_nextOrder 87 = .ok (.if_icmp .ge 20, 3) := by decide +kernel
theorem dX2_nextOrder_90 : decode cX2_nextOrder 90 = .ok (.aload_n 0, 1) := by decide +kernel
theorem dX2_nextOrder_91 : decode cX2_nextOrder 91 = .ok (.iload 4, 2) := by decide +kernel
theorem dX2_nextOrder_93 : decode cX2_nextOrder 93 = .ok (.iload 5, 2) := by decide +kernel
theorem dX2_nextOrder_95 : decode cX2_nextOrder 95 = .ok (.invokevirtual 118, 3) := by decide +kernel
theorem dX2_nextOrder_98 : decode cX2_nextOrder 98 = .ok (.iinc 4 1, 3) := by decide +kernel
theorem dX2_nextOrder_101 : decode cX2_nextOrder 101 = .ok (.iinc 5 (-1), 3) := by decide +kernel
theorem dX2_nextOrder_104 : decode cX2_nextOrder 104 = .ok (.goto (-21), 3) := by decide +kernel
theorem dX2_nextOrder_107 : decode cX2_nextOrder 107 = .ok (.iconst 1, 1) := by decide +kernel
theorem dX2_nextOrder_108 : decode cX2_nextOrder 108 = .ok (.ireturn, 1) := by decide +kernel
theorem dX2_swap_0 : decode cX2_swap 0 = .ok (.aload_n 0, 1) := by decide +kernel
theorem dX2_swap_1 : decode cX2_swap 1 = .ok (.getfield 25, 3) := by decide +kernel
theorem dX2_swap_4 : decode cX2_swap 4 = .ok (.iload_n 1, 1) := by decide +kernel
theorem dX2_swap_5 : decode cX2_swap 5 = .ok (.iaload, 1) := by decide +kernel
theorem dX2_swap_6 : decode cX2_swap 6 = .ok (.istore_n 3, 1) := by decide +kernel
theorem dX2_swap_7 : decode cX2_swap 7 = .ok (.aload_n 0, 1) := by decide +kernel
theorem dX2_swap_8 : decode cX2_swap 8 = .ok (.getfield 25, 3) := by decide +kernel
theorem dX2_swap_11 : decode cX2_swap 11 = .ok (.iload_n 1, 1) := by decide +kernel
theorem dX2_swap_12 : decode cX2_swap 12 = .ok (.aload_n 0, 1) := by decide +kernel
theorem dX2_swap_13 : decode cX2_swap 13 = .ok (.getfield 25, 3) := by decide +kernel
theorem dX2_swap_16 : decode cX2_swap 16 = .ok (.iload_n 2, 1) := by decide +kernel
theorem dX2_swap_17 : decode cX2_swap 17 = .ok (.iaload, 1) := by decide +kernel
theorem dX2_swap_18 : decode cX2_swap 18 = .ok (.iastore, 1) := by decide +kernel
theorem dX2_swap_19 : decode cX2_swap 19 = .ok (.aload_n 0, 1) := by decide +kernel
theorem dX2_swap_20 : decode cX2_swap 20 = .ok (.getfield 25, 3) := by decide +kernel
theorem dX2_swap_23 : decode cX2_swap 23 = .ok (.iload_n 2, 1) := by decide +kernel
theorem dX2_swap_24 : decode cX2_swap 24 = .ok (.iload_n 3, 1) := by decide +kernel
theorem dX2_swap_25 : decode cX2_swap 25 = .ok (.iastore, 1) := by decide +kernel
theorem dX2_swap_26 : decode cX2_swap 26 = .ok (.return_, 1) := by decide +kernel
theorem dX2_findParties_0 : decode cX2_findParties 0 = .ok (.aload_n 0, 1) := by decide +kernel
theorem dX2_findParties_1 : decode cX2_findParties 1 = .ok (.invokevirtual 64, 3) := by decide +kernel
theorem dX2_findParties_4 : decode cX2_findParties 4 = .ok (.iconst 1, 1) := by decide +kernel
theorem dX2_findParties_5 : decode cX2_findParties 5 = .ok (.aload_n 1, 1) := by decide +kernel
theorem dX2_findParties_6 : decode cX2_findParties 6 = .ok (.getfield 31, 3) := by decide +kernel
theorem dX2_findParties_9 : decode cX2_findParties 9 = .ok (.getfield 78, 3) := by decide +kernel
theorem dX2_findParties_12 : decode cX2_findParties 12 = .ok (.ishl, 1) := by decide +kernel
theorem dX2_findParties_13 : decode cX2_findParties 13 = .ok (.istore_n 2, 1) := by decide +kernel
theorem dX2_findParties_14 : decode cX2_findParties 14 = .ok (.iconst 0, 1) := by decide +kernel
theorem dX2_findParties_15 : decode cX2_findParties 15 = .ok (.istore_n 3, 1) := by decide +kernel
theorem dX2_findParties_16 : decode cX2_findParties 16 = .ok (.iload_n 3, 1) := by decide +kernel
theorem dX2_findParties_17 : decode cX2_findParties 17 = .ok (.iload_n 2, 1) := by decide +kernel
theorem dX2_findParties_18 : decode cX2_findParties 18 = .ok (.if_icmp .ge 41, 3) := by decide +kernel
theorem dX2_findParties_21 : decode cX2_findParties 21 = .ok (.aload_n 0, 1) := by decide +kernel
theorem dX2_findParties_22 : decode cX2_findParties 22 = .ok (.aload_n 1, 1) := by decide +kernel
theorem dX2_findParties_23 : decode cX2_findParties 23 = .ok (.iload_n 3, 1) := by decide +kernel
theorem dX2_findParties_24 : decode cX2_findParties 24 = .ok (.invokevirtual 122, 3) := by decide +kernel
theorem dX2_findParties_27 : decode cX2_findParties 27 = .ok (.istore 4, 2) := by decide +kernel
theorem dX2_findParties_29 : decode cX2_findParties 29 = .ok (.aload_n 0, 1) := by decide +kernel
theorem dX2_findParties_30 : decode cX2_findParties 30 = .ok (.aload_n 1, 1) := by decide +kernel
theorem dX2_findParties_31 : decode cX2_findParties 31 = .ok (.bipush 63, 2) := by decide +kernel
theorem dX2_findParties_33 : decode cX2_findParties 33 = .ok (.iload_n 3, 1) := by decide +kernel
theorem dX2_findParties_34 : decode cX2_findParties 34 = .ok (.isub, 1) := by decide +kernel
theorem dX2_findParties_35 : decode cX2_findParties 35 = .ok (.invokevirtual 122, 3) := by decide +kernel
theorem dX2_findParties_38 : decode cX2_findParties 38 = .ok (.istore 5, 2) := by decide +kernel
theorem dX2_findParties_40 : decode cX2_findParties 40 = .ok (.aload_n 0, 1) := by decide +kernel
theorem dX2_findParties_41 : decode cX2_findParties 41 = .ok (.iload 4, 2) := by decide +kernel
theorem dX2_findParties_43 : decode cX2_findParties 43 = .ok (.iload 5, 2) := by decide +kernel
theorem dX2_findParties_45 : decode cX2_findParties 45 = .ok (.invokestatic 94, 3) := by decide +kernel
theorem dX2_findParties_48 : decode cX2_findParties 48 = .ok (.iload_n 3, 1) := by decide +kernel
theorem dX2_findParties_49 : decode cX2_findParties 49 = .ok (.invokevirtual 74, 3) := by decide +kernel
theorem dX2_findParties_52 : decode cX2_findParties 52 = .ok (.pop, 1) := by decide +kernel
theorem dX2_findParties_53 : decode cX2_findParties 53 = .ok (.iinc 3 2, 3) := by decide +kernel
theorem dX2_findParties_56 : decode cX2_findParties 56 = .ok (.goto (-40), 3) := by decide +kernel
theorem dX2_findParties_59 : decode cX2_findParties 59 = .ok (.return_, 1) := by decide +kernel
theorem dX2_walkSet_0 : decode cX2_walkSet 0 = .ok (.aload_n 0, 1) := by decide +kernel
theorem dX2_walkSet_1 : decode cX2_walkSet 1 = .ok (.getfield 12, 3) := by decide +kernel
theorem dX2_walkSet_4 : decode cX2_walkSet 4 = .ok (.aload_n 1, 1) := by decide +kernel
theorem dX2_walkSet_5 : decode cX2_walkSet 5 = .ok (.getfield 31, 3) := by decide +kernel
theorem dX2_walkSet_8 : decode cX2_walkSet 8 = .ok (.invokevirtual 34, 3) := by decide +kernel
theorem dX2_walkSet_11 : decode cX2_walkSet 11 = .ok (.aload_n 0, 1) := by decide +kernel
theorem dX2_walkSet_12 : decode cX2_walkSet 12 = .ok (.getfield 12, 3) := by decide +kernel
theorem dX2_walkSet_15 : decode cX2_walkSet 15 = .ok (.iload_n 2, 1) := by decide +kernel
theorem dX2_walkSet_16 : decode cX2_walkSet 16 = .ok (.putfield 126, 3) := by decide +kernel
theorem dX2_walkSet_19 : decode cX2_walkSet 19 = .ok (.aload_n 0, 1) := by decide +kernel
theorem dX2_walkSet_20 : decode cX2_walkSet 20 = .ok (.aload_n 1, 1) := by decide +kernel
theorem dX2_walkSet_21 : decode cX2_walkSet 21 = .ok (.aload_n 1, 1) := by decide +kernel
theorem dX2_walkSet_22 : decode cX2_walkSet 22 = .ok (.getfield 103, 3) := by decide +kernel
theorem dX2_walkSet_25 : decode cX2_walkSet 25 = .ok (.aload_n 1, 1) := by decide +kernel
theorem dX2_walkSet_26 : decode cX2_walkSet 26 = .ok (.getfield 106, 3) := by decide +kernel
theorem dX2_walkSet_29 : decode cX2_walkSet 29 = .ok (.invokevirtual 38, 3) := by decide +kernel
theorem dX2_walkSet_32 : decode cX2_walkSet 32 = .ok (.ireturn, 1) := by decide +kernel
theorem dX2_lastTurn_0 : decode cX2_lastTurn 0 = .ok (.ldc 129, 2) := by decide +kernel
theorem dX2_lastTurn_2 : decode cX2_lastTurn 2 = .ok (.istore_n 2, 1) := by decide +kernel
theorem dX2_lastTurn_3 : decode cX2_lastTurn 3 = .ok (.aload_n 0, 1) := by decide +kernel
theorem dX2_lastTurn_4 : decode cX2_lastTurn 4 = .ok (.getfield 12, 3) := by decide +kernel
theorem dX2_lastTurn_7 : decode cX2_lastTurn 7 = .ok (.aload_n 1, 1) := by decide +kernel
theorem dX2_lastTurn_8 : decode cX2_lastTurn 8 = .ok (.getfield 31, 3) := by decide +kernel
theorem dX2_lastTurn_11 : decode cX2_lastTurn 11 = .ok (.invokevirtual 34, 3) := by decide +kernel
theorem dX2_lastTurn_14 : decode cX2_lastTurn 14 = .ok (.aload_n 1, 1) := by decide +kernel
theorem dX2_lastTurn_15 : decode cX2_lastTurn 15 = .ok (.getfield 42, 3) := by decide +kernel
theorem dX2_lastTurn_18 : decode cX2_lastTurn 18 = .ok (.istore_n 3, 1) := by decide +kernel
theorem dX2_lastTurn_19 : decode cX2_lastTurn 19 = .ok (.iload_n 3, 1) := by decide +kernel
theorem dX2_lastTurn_20 : decode cX2_lastTurn 20 = .ok (.aload_n 1, 1) := by decide +kernel
theorem dX2_lastTurn_21 : decode cX2_lastTurn 21 = .ok (.getfield 46, 3) := by decide +kernel
theorem dX2_lastTurn_24 : decode cX2_lastTurn 24 = .ok (.if_icmp .gt 49, 3) := by decide +kernel
theorem dX2_lastTurn_27 : decode cX2_lastTurn 27 = .ok (.aload_n 0, 1) := by decide +kernel
theorem dX2_lastTurn_28 : decode cX2_lastTurn 28 = .ok (.aload_n 1, 1) := by decide +kernel
theorem dX2_lastTurn_29 : decode cX2_lastTurn 29 = .ok (.iload_n 3, 1) := by decide +kernel
theorem dX2_lastTurn_30 : decode cX2_lastTurn 30 = .ok (.invokevirtual 130, 3) := by decide +kernel
theorem dX2_lastTurn_33 : decode cX2_lastTurn 33 = .ok (.aload_n 1, 1) := by decide +kernel
theorem dX2_lastTurn_34 : decode cX2_lastTurn 34 = .ok (.getfield 133, 3) := by decide +kernel
theorem dX2_lastTurn_37 : decode cX2_lastTurn 37 = .ok (.if_icmp .gt 5, 3) := by decide +kernel
theorem dX2_lastTurn_40 : decode cX2_lastTurn 40 = .ok (.iload_n 3, 1) := by decide +kernel
theorem dX2_lastTurn_41 : decode cX2_lastTurn 41 = .ok (.istore_n 2, 1) := by decide +kernel
theorem dX2_lastTurn_42 : decode cX2_lastTurn 42 = .ok (.iload_n 3, 1) := by decide +kernel
theorem dX2_lastTurn_43 : decode cX2_lastTurn 43 = .ok (.aload_n 1, 1) := by decide +kernel
theorem dX2_lastTurn_44 : decode cX2_lastTurn 44 = .ok (.getfield 46, 3) := by decide +kernel
theorem dX2_lastTurn_47 : decode cX2_lastTurn 47 = .ok (.if_icmp .ge 20, 3) := by decide +kernel
theorem dX2_lastTurn_50 : decode cX2_lastTurn 50 = .ok (.aload_n 1, 1) := by decide +kernel
theorem dX2_lastTurn_51 : decode cX2_lastTurn 51 = .ok (.aload_n 0, 1) := by decide +kernel
theorem dX2_lastTurn_52 : decode cX2_lastTurn 52 = .ok (.getfield 12, 3) := by decide +kernel
theorem dX2_lastTurn_55 : decode cX2_lastTurn 55 = .ok (.iload_n 3, 1) := by decide +kernel
theorem dX2_lastTurn_56 : decode cX2_lastTurn 56 = .ok (.aload_n 1, 1) := by decide +kernel
theorem dX2_lastTurn_57 : decode cX2_lastTurn 57 = .ok (.getfield 103, 3) := by decide +kernel
theorem dX2_lastTurn_60 : decode cX2_lastTurn 60 = .ok (.aload_n 1, 1) := by decide +kernel
theorem dX2_lastTurn_61 : decode cX2_lastTurn 61 = .ok (.getfield 106, 3) := by decide +kernel
theorem dX2_lastTurn_64 : decode cX2_lastTurn 64 = .ok (.invokevirtual 49, 3) := by decide +kernel
theorem dX2_lastTurn_67 : decode cX2_lastTurn 67 = .ok (.iinc 3 1, 3) := by decide +kernel
theorem dX2_lastTurn_70 : decode cX2_lastTurn 70 = .ok (.goto (-51), 3) := by decide +kernel
theorem dX2_lastTurn_73 : decode cX2_lastTurn 73 = .ok (.iload_n 2, 1) := by decide +kernel
theorem dX2_lastTurn_74 : decode cX2_lastTurn 74 = .ok (.ireturn, 1) := by decide +kernel
theorem dX2_walkBack_0 : decode cX2_walkBack 0 = .ok (.aload_n 0, 1) := by decide +kernel
theorem dX2_walkBack_1 : decode cX2_walkBack 1 = .ok (.getfield 18, 3) := by decide +kernel
theorem dX2_walkBack_4 : decode cX2_walkBack 4 = .ok (.aload_n 0, 1) := by decide +kernel
theorem dX2_walkBack_5 : decode cX2_walkBack 5 = .ok (.getfield 12, 3) := by decide +kernel
theorem dX2_walkBack_8 : decode cX2_walkBack 8 = .ok (.invokevirtual 34, 3) := by decide +kernel
theorem dX2_walkBack_11 : decode cX2_walkBack 11 = .ok (.iload_n 2, 1) := by decide +kernel
theorem dX2_walkBack_12 : decode cX2_walkBack 12 = .ok (.iconst 1, 1) := by decide +kernel
theorem dX2_walkBack_13 : decode cX2_walkBack 13 = .ok (.isub, 1) := by decide +kernel
theorem dX2_walkBack_14 : decode cX2_walkBack 14 = .ok (.istore_n 3, 1) := by decide +kernel
theorem dX2_walkBack_15 : decode cX2_walkBack 15 = .ok (.iload_n 3, 1) := by decide +kernel
theorem dX2_walkBack_16 : decode cX2_walkBack 16 = .ok (.ifCond .lt 31, 3) := by decide +kernel
theorem dX2_walkBack_19 : decode cX2_walkBack 19 = .ok (.aload_n 0, 1) := by decide +kernel
theorem dX2_walkBack_20 : decode cX2_walkBack 20 = .ok (.getfield 18, 3) := by decide +kernel
theorem dX2_walkBack_23 : decode cX2_walkBack 23 = .ok (.aload_n 1, 1) := by decide +kernel
theorem dX2_walkBack_24 : decode cX2_walkBack 24 = .ok (.getfield 136, 3) := by decide +kernel
theorem dX2_walkBack_27 : decode cX2_walkBack 27 = .ok (.iload_n 3, 1) := by decide +kernel
theorem dX2_walkBack_28 : decode cX2_walkBack 28 = .ok (.iaload, 1) := by decide +kernel
theorem dX2_walkBack_29 : decode cX2_walkBack 29 = .ok (.invokevirtual 139, 3) := by decide +kernel
theorem dX2_walkBack_32 : decode cX2_walkBack 32 = .ok (.aload_n 0, 1) := by decide +kernel
theorem dX2_walkBack_33 : decode cX2_walkBack 33 = .ok (.getfield 18, 3) := by decide +kernel
theorem dX2_walkBack_36 : decode cX2_walkBack 36 = .ok (.iconst 3, 1) := by decide +kernel
theorem dX2_walkBack_37 : decode cX2_walkBack 37 = .ok (.iconst 0, 1) := by decide +kernel
theorem dX2_walkBack_38 : decode cX2_walkBack 38 = .ok (.invokevirtual 143, 3) := by decide +kernel
theorem dX2_walkBack_41 : decode cX2_walkBack 41 = .ok (.iinc 3 (-1), 3) := by decide +kernel
theorem dX2_walkBack_44 : decode cX2_walkBack 44 = .ok (.goto (-29), 3) := by decide +kernel
theorem dX2_walkBack_47 : decode cX2_walkBack 47 = .ok (.aload_n 0, 1) := by decide +kernel
theorem dX2_walkBack_48 : decode cX2_walkBack 48 = .ok (.getfield 18, 3) := by decide +kernel
theorem dX2_walkBack_51 : decode cX2_walkBack 51 = .ok (.invokevirtual 53, 3) := by decide +kernel
theorem dX2_walkBack_54 : decode cX2_walkBack 54 = .ok (.ireturn, 1) := by decide +kernel
theorem dX2_findFits_0 : decode cX2_findFits 0 = .ok (.aload_n 0, 1) := by decide +kernel
theorem dX2_findFits_1 : decode cX2_findFits 1 = .ok (.iconst 0, 1) := by decide +kernel
theorem dX2_findFits_2 : decode cX2_findFits 2 = .ok (.putfield 58, 3) := by decide +kernel
theorem dX2_findFits_5 : decode cX2_findFits 5 = .ok (.aload_n 0, 1) := by decide +kernel
theorem dX2_findFits_6 : decode cX2_findFits 6 = .ok (.ldc 129, 2) := by decide +kernel
theorem dX2_findFits_8 : decode cX2_findFits 8 = .ok (.putfield 61, 3) := by decide +kernel
theorem dX2_findFits_11 : decode cX2_findFits 11 = .ok (.iconst 0, 1) := by decide +kernel
theorem dX2_findFits_12 : decode cX2_findFits 12 = .ok (.istore 6, 2) := by decide +kernel
theorem dX2_findFits_14 : decode cX2_findFits 14 = .ok (.iload 6, 2) := by decide +kernel
theorem dX2_findFits_16 : decode cX2_findFits 16 = .ok (.bipush 124, 2) := by decide +kernel
theorem dX2_findFits_18 : decode cX2_findFits 18 = .ok (.if_icmp .ge 64, 3) := by decide +kernel
theorem dX2_findFits_21 : decode cX2_findFits 21 = .ok (.iload 6, 2) := by decide +kernel
theorem dX2_findFits_23 : decode cX2_findFits 23 = .ok (.invokestatic 67, 3) := by decide +kernel
theorem dX2_findFits_26 : decode cX2_findFits 26 = .ok (.ifCond .eq 50, 3) := by decide +kernel
theorem dX2_findFits_29 : decode cX2_findFits 29 = .ok (.aload_n 0, 1) := by decide +kernel
theorem dX2_findFits_30 : decode cX2_findFits 30 = .ok (.aload_n 1, 1) := by decide +kernel
theorem dX2_findFits_31 : decode cX2_findFits 31 = .ok (.iload 6, 2) := by decide +kernel
theorem dX2_findFits_33 : decode cX2_findFits 33 = .ok (.iload_n 2, 1) := by decide +kernel
theorem dX2_findFits_34 : decode cX2_findFits 34 = .ok (.aload_n 3, 1) := by decide +kernel
theorem dX2_findFits_35 : decode cX2_findFits 35 = .ok (.iload 4, 2) := by decide +kernel
theorem dX2_findFits_37 : decode cX2_findFits 37 = .ok (.iload 5, 2) := by decide +kernel
theorem dX2_findFits_39 : decode cX2_findFits 39 = .ok (.invokevirtual 146, 3) := by decide +kernel
theorem dX2_findFits_42 : decode cX2_findFits 42 = .ok (.ifCond .eq 34, 3) := by decide +kernel
theorem dX2_findFits_45 : decode cX2_findFits 45 = .ok (.aload_n 0, 1) := by decide +kernel
theorem dX2_findFits_46 : decode cX2_findFits 46 = .ok (.dup, 1) := by decide +kernel
theorem dX2_findFits_47 : decode cX2_findFits 47 = .ok (.getfield 58, 3) := by decide +kernel
theorem dX2_findFits_50 : decode cX2_findFits 50 = .ok (.iconst 1, 1) := by decide +kernel
theorem dX2_findFits_51 : decode cX2_findFits 51 = .ok (.iadd, 1) := by decide +kernel
theorem dX2_findFits_52 : decode cX2_findFits 52 = .ok (.putfield 58, 3) := by decide +kernel
theorem dX2_findFits_55 : decode cX2_findFits 55 = .ok (.aload_n 0, 1) := by decide +kernel
theorem dX2_findFits_56 : decode cX2_findFits 56 = .ok (.aload_n 0, 1) := by decide +kernel
theorem dX2_findFits_57 : decode cX2_findFits 57 = .ok (.getfield 58, 3) := by decide +kernel
theorem dX2_findFits_60 : decode cX2_findFits 60 = .ok (.iconst 1, 1) := by decide +kernel
theorem dX2_findFits_61 : decode cX2_findFits 61 = .ok (.if_icmp .ne 8, 3) := by decide +kernel
theorem dX2_findFits_64 : decode cX2_findFits 64 = .ok (.iload 6, 2) := by decide +kernel
theorem dX2_findFits_66 : decode cX2_findFits 66 = .ok (.goto 7, 3) := by decide +kernel
theorem dX2_findFits_69 : decode cX2_findFits 69 = .ok (.aload_n 0, 1) := by decide +kernel
theorem dX2_findFits_70 : decode cX2_findFits 70 = .ok (.getfield 61, 3) := by decide +kernel
theorem dX2_findFits_73 : decode cX2_findFits 73 = .ok (.putfield 61, 3) := by decide +kernel
theorem dX2_findFits_76 : decode cX2_findFits 76 = .ok (.iinc 6 1, 3) := by decide +kernel
theorem dX2_findFits_79 : decode cX2_findFits 79 = .ok (.goto (-65), 3) := by decide +kernel
theorem dX2_findFits_82 : decode cX2_findFits 82 = .ok (.return_, 1) := by decide +kernel
theorem dX2_isSo_0 : decode cX2_isSo 0 = .ok (.aload_n 0, 1) := by decide +kernel
theorem dX2_isSo_1 : decode cX2_isSo 1 = .ok (.getfield 12, 3) := by decide +kernel
theorem dX2_isSo_4 : decode cX2_isSo 4 = .ok (.aload_n 1, 1) := by decide +kernel
theorem dX2_isSo_5 : decode cX2_isSo 5 = .ok (.getfield 31, 3) := by decide +kernel
theorem dX2_isSo_8 : decode cX2_isSo 8 = .ok (.invokevirtual 34, 3) := by decide +kernel
theorem dX2_isSo_11 : decode cX2_isSo 11 = .ok (.iconst 0, 1) := by decide +kernel
theorem dX2_isSo_12 : decode cX2_isSo 12 = .ok (.istore 7, 2) := by decide +kernel
theorem dX2_isSo_14 : decode cX2_isSo 14 = .ok (.iload 7, 2) := by decide +kernel
theorem dX2_isSo_16 : decode cX2_isSo 16 = .ok (.iload 6, 2) := by decide +kernel
theorem dX2_isSo_18 : decode cX2_isSo 18 = .ok (.if_icmp .ge 60, 3) := by decide +kernel
theorem dX2_isSo_21 : decode cX2_isSo 21 = .ok (.aload_n 1, 1) := by decide +kernel
theorem dX2_isSo_22 : decode cX2_isSo 22 = .ok (.aload_n 0, 1) := by decide +kernel
theorem dX2_isSo_23 : decode cX2_isSo 23 = .ok (.getfield 12, 3) := by decide +kernel
theorem dX2_isSo_26 : decode cX2_isSo 26 = .ok (.aload_n 1, 1) := by decide +kernel
theorem dX2_isSo_27 : decode cX2_isSo 27 = .ok (.getfield 42, 3) := by decide +kernel
theorem dX2_isSo_30 : decode cX2_isSo 30 = .ok (.iload 7, 2) := by decide +kernel
theorem dX2_isSo_32 : decode cX2_isSo 32 = .ok (.iadd, 1) := by decide +kernel
theorem dX2_isSo_33 : decode cX2_isSo 33 = .ok (.iload_n 2, 1) := by decide +kernel
theorem dX2_isSo_34 : decode cX2_isSo 34 = .ok (.bipush 31, 2) := by decide +kernel
theorem dX2_isSo_36 : decode cX2_isSo 36 = .ok (.idiv, 1) := by decide +kernel
theorem dX2_isSo_37 : decode cX2_isSo 37 = .ok (.iload_n 2, 1) := by decide +kernel
theorem dX2_isSo_38 : decode cX2_isSo 38 = .ok (.bipush 31, 2) := by decide +kernel
theorem dX2_isSo_40 : decode cX2_isSo 40 = .ok (.irem, 1) := by decide +kernel
theorem dX2_isSo_41 : decode cX2_isSo 41 = .ok (.invokevirtual 49, 3) := by decide +kernel
theorem dX2_isSo_44 : decode cX2_isSo 44 = .ok (.aload_n 0, 1) := by decide +kernel
theorem dX2_isSo_45 : decode cX2_isSo 45 = .ok (.getfield 12, 3) := by decide +kernel
theorem dX2_isSo_48 : decode cX2_isSo 48 = .ok (.getfield 81, 3) := by decide +kernel
theorem dX2_isSo_51 : decode cX2_isSo 51 = .ok (.iload_n 3, 1) := by decide +kernel
theorem dX2_isSo_52 : decode cX2_isSo 52 = .ok (.aaload, 1) := by decide +kernel
theorem dX2_isSo_53 : decode cX2_isSo 53 = .ok (.getfield 150, 3) := by decide +kernel
theorem dX2_isSo_56 : decode cX2_isSo 56 = .ok (.aload 4, 2) := by decide +kernel
theorem dX2_isSo_58 : decode cX2_isSo 58 = .ok (.getfield 153, 3) := by decide +kernel
theorem dX2_isSo_61 : decode cX2_isSo 61 = .ok (.iload 5, 2) := by decide +kernel
theorem dX2_isSo_63 : decode cX2_isSo 63 = .ok (.iload 7, 2) := by decide +kernel
theorem dX2_isSo_65 : decode cX2_isSo 65 = .ok (.iadd, 1) := by decide +kernel
theorem dX2_isSo_66 : decode cX2_isSo 66 = .ok (.iaload, 1) := by decide +kernel
theorem dX2_isSo_67 : decode cX2_isSo 67 = .ok (.if_icmp .eq 5, 3) := by decide +kernel
theorem dX2_isSo_70 : decode cX2_isSo 70 = .ok (.iconst 0, 1) := by decide +kernel
theorem dX2_isSo_71 : decode cX2_isSo 71 = .ok (.ireturn, 1) := by decide +kernel
theorem dX2_isSo_72 : decode cX2_isSo 72 = .ok (.iinc 7 1, 3) := by decide +kernel
theorem dX2_isSo_75 : decode cX2_isSo 75 = .ok (.goto (-61), 3) := by decide +kernel
theorem dX2_isSo_78 : decode cX2_isSo 78 = .ok (.iconst 1, 1) := by decide +kernel
theorem dX2_isSo_79 : decode cX2_isSo 79 = .ok (.ireturn, 1) := by decide +kernel
theorem dX3_init_0 : decode cX3_init 0 = .ok (.aload_n 0, 1) := by decide +kernel
theorem dX3_init_1 : decode cX3_init 1 = .ok (.invokespecial 3, 3) := by decide +kernel
theorem dX3_init_4 : decode cX3_init 4 = .ok (.aload_n 0, 1) := by decide +kernel
theorem dX3_init_5 : decode cX3_init 5 = .ok (.bipush 6, 2) := by decide +kernel
theorem dX3_init_7 : decode cX3_init 7 = .ok (.anewarray 9, 3) := by decide +kernel
theorem dX3_init_10 : decode cX3_init 10 = .ok (.putfield 11, 3) := by decide +kernel
theorem dX3_init_13 : decode cX3_init 13 = .ok (.aload_n 0, 1) := by decide +kernel
theorem dX3_init_14 : decode cX3_init 14 = .ok (.bipush 63, 2) := by decide +kernel
theorem dX3_init_16 : decode cX3_init 16 = .ok (.putfield 17, 3) := by decide +kernel
theorem dX3_init_19 : decode cX3_init 19 = .ok (.iconst 0, 1) := by decide +kernel
theorem dX3_init_20 : decode cX3_init 20 = .ok (.istore_n 1, 1) := by decide +kernel
theorem dX3_init_21 : decode cX3_init 21 = .ok (.iload_n 1, 1) := by decide +kernel
theorem dX3_init_22 : decode cX3_init 22 = .ok (.aload_n 0, 1) := by decide +kernel
theorem dX3_init_23 : decode cX3_init 23 = .ok (.getfield 11, 3) := by decide +kernel
theorem dX3_init_26 : decode cX3_init 26 = .ok (.arraylength, 1) := by decide +kernel
theorem dX3_init_27 : decode cX3_init 27 = .ok (.if_icmp .ge 22, 3) := by decide +kernel
theorem dX3_init_30 : decode cX3_init 30 = .ok (.aload_n 0, 1) := by decide +kernel
theorem dX3_init_31 : decode cX3_init 31 = .ok (.getfield 11, 3) := by decide +kernel
theorem dX3_init_34 : decode cX3_init 34 = .ok (.iload_n 1, 1) := by decide +kernel
theorem dX3_init_35 : decode cX3_init 35 = .ok (.new 9, 3) := by decide +kernel
theorem dX3_init_38 : decode cX3_init 38 = .ok (.dup, 1) := by decide +kernel
theorem dX3_init_39 : decode cX3_init 39 = .ok (.invokespecial 21, 3) := by decide +kernel
theorem dX3_init_42 : decode cX3_init 42 = .ok (.aastore, 1) := by decide +kernel
theorem dX3_init_43 : decode cX3_init 43 = .ok (.iinc 1 1, 3) := by decide +kernel
theorem dX3_init_46 : decode cX3_init 46 = .ok (.goto (-25), 3) := by decide +kernel
theorem dX3_init_49 : decode cX3_init 49 = .ok (.return_, 1) := by decide +kernel
theorem dX3_become_0 : decode cX3_become 0 = .ok (.aload_n 0, 1) := by decide +kernel
theorem dX3_become_1 : decode cX3_become 1 = .ok (.aload_n 1, 1) := by decide +kernel
theorem dX3_become_2 : decode cX3_become 2 = .ok (.getfield 22, 3) := by decide +kernel
theorem dX3_become_5 : decode cX3_become 5 = .ok (.putfield 22, 3) := by decide +kernel
theorem dX3_become_8 : decode cX3_become 8 = .ok (.aload_n 0, 1) := by decide +kernel
theorem dX3_become_9 : decode cX3_become 9 = .ok (.aload_n 1, 1) := by decide +kernel
theorem dX3_become_10 : decode cX3_become 10 = .ok (.getfield 17, 3) := by decide +kernel
theorem dX3_become_13 : decode cX3_become 13 = .ok (.putfield 17, 3) := by decide +kernel
theorem dX3_become_16 : decode cX3_become 16 = .ok (.iconst 0, 1) := by decide +kernel
theorem dX3_become_17 : decode cX3_become 17 = .ok (.istore_n 2, 1) := by decide +kernel
theorem dX3_become_18 : decode cX3_become 18 = .ok (.iload_n 2, 1) := by decide +kernel
theorem dX3_become_19 : decode cX3_become 19 = .ok (.aload_n 0, 1) := by decide +kernel
theorem dX3_become_20 : decode cX3_become 20 = .ok (.getfield 22, 3) := by decide +kernel
theorem dX3_become_23 : decode cX3_become 23 = .ok (.if_icmp .ge 24, 3) := by decide +kernel
theorem dX3_become_26 : decode cX3_become 26 = .ok (.aload_n 0, 1) := by decide +kernel
theorem dX3_become_27 : decode cX3_become 27 = .ok (.getfield 11, 3) := by decide +kernel
theorem dX3_become_30 : decode cX3_become 30 = .ok (.iload_n 2, 1) := by decide +kernel
theorem dX3_become_31 : decode cX3_become 31 = .ok (.aaload, 1) := by decide +kernel
theorem dX3_become_32 : decode cX3_become 32 = .ok (.aload_n 1, 1) := by decide +kernel
theorem dX3_become_33 : decode cX3_become 33 = .ok (.getfield 11, 3) := by decide +kernel
theorem dX3_become_36 : decode cX3_become 36 = .ok (.iload_n 2, 1) := by decide +kernel
theorem dX3_become_37 : decode cX3_become 37 = .ok (.aaload, 1) := by decide +kernel
theorem dX3_become_38 : decode cX3_become 38 = .ok (.invokevirtual 25, 3) := by decide +kernel
theorem dX3_become_41 : decode cX3_become 41 = .ok (.iinc 2 1, 3) := by decide +kernel
theorem dX3_become_44 : decode cX3_become 44 = .ok (.goto (-26), 3) := by decide +kernel
theorem dX3_become_47 : decode cX3_become 47 = .ok (.return_, 1) := by decide +kernel
theorem dX3_isIn_0 : decode cX3_isIn 0 = .ok (.aload_n 0, 1) := by decide +kernel
theorem dX3_isIn_1 : decode cX3_isIn 1 = .ok (.getfield 17, 3) := by decide +kernel
theorem dX3_isIn_4 : decode cX3_isIn 4 = .ok (.iload_n 1, 1) := by decide +kernel
theorem dX3_isIn_5 : decode cX3_isIn 5 = .ok (.ishr, 1) := by decide +kernel
theorem dX3_isIn_6 : decode cX3_isIn 6 = .ok (.iconst 1, 1) := by decide +kernel
theorem dX3_isIn_7 : decode cX3_isIn 7 = .ok (.iand, 1) := by decide +kernel
theorem dX3_isIn_8 : decode cX3_isIn 8 = .ok (.ifCond .eq 7, 3) := by decide +kernel
theorem dX3_isIn_11 : decode cX3_isIn 11 = .ok (.iconst 1, 1) := by decide +kernel
theorem dX3_isIn_12 : decode cX3_isIn 12 = .ok (.goto 4, 3) := by decide +kernel
theorem dX3_isIn_15 : decode cX3_isIn 15 = .ok (.iconst 0, 1) := by decide +kernel
theorem dX3_isIn_16 : decode cX3_isIn 16 = .ok (.ireturn, 1) := by decide +kernel
theorem dX3_walkLeg_0 : decode cX3_walkLeg 0 = .ok (.aload_n 0, 1) := by decide +kernel
theorem dX3_walkLeg_1 : decode cX3_walkLeg 1 = .ok (.invokevirtual 29, 3) := by decide +kernel
theorem dX3_walkLeg_4 : decode cX3_walkLeg 4 = .ok (.istore_n 2, 1) := by decide +kernel
theorem dX3_walkLeg_5 : decode cX3_walkLeg 5 = .ok (.iconst 0, 1) := by decide +kernel
theorem dX3_walkLeg_6 : decode cX3_walkLeg 6 = .ok (.istore_n 3, 1) := by decide +kernel
theorem dX3_walkLeg_7 : decode cX3_walkLeg 7 = .ok (.iload_n 3, 1) := by decide +kernel
theorem dX3_walkLeg_8 : decode cX3_walkLeg 8 = .ok (.aload_n 0, 1) := by decide +kernel
theorem dX3_walkLeg_9 : decode cX3_walkLeg 9 = .ok (.getfield 22, 3) := by decide +kernel
theorem dX3_walkLeg_12 : decode cX3_walkLeg 12 = .ok (.if_icmp .ge 68, 3) := by decide +kernel
theorem dX3_walkLeg_15 : decode cX3_walkLeg 15 = .ok (.aload_n 0, 1) := by decide +kernel
theorem dX3_walkLeg_16 : decode cX3_walkLeg 16 = .ok (.iload_n 3, 1) := by decide +kernel
theorem dX3_walkLeg_17 : decode cX3_walkLeg 17 = .ok (.invokevirtual 33, 3) := by decide +kernel
theorem dX3_walkLeg_20 : decode cX3_walkLeg 20 = .ok (.ifCond .eq 54, 3) := by decide +kernel
theorem dX3_walkLeg_23 : decode cX3_walkLeg 23 = .ok (.aload_n 0, 1) := by decide +kernel
theorem dX3_walkLeg_24 : decode cX3_walkLeg 24 = .ok (.getfield 11, 3) := by decide +kernel
theorem dX3_walkLeg_27 : decode cX3_walkLeg 27 = .ok (.iload_n 3, 1) := by decide +kernel
theorem dX3_walkLeg_28 : decode cX3_walkLeg 28 = .ok (.aaload, 1) := by decide +kernel
theorem dX3_walkLeg_29 : decode cX3_walkLeg 29 = .ok (.astore 4, 2) := by decide +kernel
theorem dX3_walkLeg_31 : decode cX3_walkLeg 31 = .ok (.aload 4, 2) := by decide +kernel
theorem dX3_walkLeg_33 : decode cX3_walkLeg 33 = .ok (.aload 4, 2) := by decide +kernel
theorem dX3_walkLeg_35 : decode cX3_walkLeg 35 = .ok (.getfield 37, 3) := by decide +kernel
theorem dX3_walkLeg_38 : decode cX3_walkLeg 38 = .ok (.aload 4, 2) := by decide +kernel
theorem dX3_walkLeg_40 : decode cX3_walkLeg 40 = .ok (.iload_n 1, 1) := by decide +kernel
theorem dX3_walkLeg_41 : decode cX3_walkLeg 41 = .ok (.invokevirtual 40, 3) := by decide +kernel
theorem dX3_walkLeg_44 : decode cX3_walkLeg 44 = .ok (.iadd, 1) := by decide +kernel
theorem dX3_walkLeg_45 : decode cX3_walkLeg 45 = .ok (.putfield 44, 3) := by decide +kernel
theorem dX3_walkLeg_48 : decode cX3_walkLeg 48 = .ok (.aload 4, 2) := by decide +kernel
theorem dX3_walkLeg_50 : decode cX3_walkLeg 50 = .ok (.dup, 1) := by decide +kernel
theorem dX3_walkLeg_51 : decode cX3_walkLeg 51 = .ok (.getfield 47, 3) := by decide +kernel
theorem dX3_walkLeg_54 : decode cX3_walkLeg 54 = .ok (.aload 4, 2) := by decide +kernel
theorem dX3_walkLeg_56 : decode cX3_walkLeg 56 = .ok (.iload_n 1, 1) := by decide +kernel
theorem dX3_walkLeg_57 : decode cX3_walkLeg 57 = .ok (.iload_n 3, 1) := by decide +kernel
theorem dX3_walkLeg_58 : decode cX3_walkLeg 58 = .ok (.iload_n 2, 1) := by decide +kernel
theorem dX3_walkLeg_59 : decode cX3_walkLeg 59 = .ok (.if_icmp .ne 7, 3) := by decide +kernel
theorem dX3_walkLeg_62 : decode cX3_walkLeg 62 = .ok (.iconst 1, 1) := by decide +kernel
theorem dX3_walkLeg_63 : decode cX3_walkLeg 63 = .ok (.goto 4, 3) := by decide +kernel
theorem dX3_walkLeg_66 : decode cX3_walkLeg 66 = .ok (.iconst 0, 1) := by decide +kernel
theorem dX3_walkLeg_67 : decode cX3_walkLeg 67 = .ok (.invokevirtual 50, 3) := by decide +kernel
theorem dX3_walkLeg_70 : decode cX3_walkLeg 70 = .ok (.iadd, 1) := by decide +kernel
theorem dX3_walkLeg_71 : decode cX3_walkLeg 71 = .ok (.putfield 47, 3) := by decide +kernel
theorem dX3_walkLeg_74 : decode cX3_walkLeg 74 = .ok (.iinc 3 1, 3) := by decide +kernel
theorem dX3_walkLeg_77 : decode cX3_walkLeg 77 = .ok (.goto (-70), 3) := by decide +kernel
theorem dX3_walkLeg_80 : decode cX3_walkLeg 80 = .ok (.return_, 1) := by decide +kernel
theorem dX3_firstToLeave_0 : decode cX3_firstToLeave 0 = .ok (.iconst (-1), 1) := by decide +kernel
theorem dX3_firstToLeave_1 : decode cX3_firstToLeave 1 = .ok (.istore_n 1, 1) := by decide +kernel
theorem dX3_firstToLeave_2 : decode cX3_firstToLeave 2 = .ok (.iconst 0, 1) := by decide +kernel
theorem dX3_firstToLeave_3 : decode cX3_firstToLeave 3 = .ok (.istore_n 2, 1) := by decide +kernel
theorem dX3_firstToLeave_4 : decode cX3_firstToLeave 4 = .ok (.iload_n 2, 1) := by decide +kernel
theorem dX3_firstToLeave_5 : decode cX3_firstToLeave 5 = .ok (.aload_n 0, 1) := by decide +kernel
theorem dX3_firstToLeave_6 : decode cX3_firstToLeave 6 = .ok (.getfield 22, 3) := by decide +kernel
theorem dX3_firstToLeave_9 : decode cX3_firstToLeave 9 = .ok (.if_icmp .ge 44, 3) := by decide +kernel
theorem dX3_firstToLeave_12 : decode cX3_firstToLeave 12 = .ok (.aload_n 0, 1) := by decide +kernel
theorem dX3_firstToLeave_13 : decode cX3_firstToLeave 13 = .ok (.iload_n 2, 1) := by decide +kernel
theorem dX3_firstToLeave_14 : decode cX3_firstToLeave 14 = .ok (.invokevirtual 33, 3) := by decide +kernel
theorem dX3_firstToLeave_17 : decode cX3_firstToLeave 17 = .ok (.ifCond .eq 30, 3) := by decide +kernel
theorem dX3_firstToLeave_20 : decode cX3_firstToLeave 20 = .ok (.iload_n 1, 1) := by decide +kernel
theorem dX3_firstToLeave_21 : decode cX3_firstToLeave 21 = .ok (.ifCond .lt 24, 3) := by decide +kernel
theorem dX3_firstToLeave_24 : decode cX3_firstToLeave 24 = .ok (.aload_n 0, 1) := by decide +kernel
theorem dX3_firstToLeave_25 : decode cX3_firstToLeave 25 = .ok (.getfield 11, 3) := by decide +kernel
theorem dX3_firstToLeave_28 : decode cX3_firstToLeave 28 = .ok (.iload_n 2, 1) := by decide +kernel
theorem dX3_firstToLeave_29 : decode cX3_firstToLeave 29 = .ok (.aaload, 1) := by decide +kernel
theorem dX3_firstToLeave_30 : decode cX3_firstToLeave 30 = .ok (.getfield 37, 3) := by decide +kernel
theorem dX3_firstToLeave_33 : decode cX3_firstToLeave 33 = .ok (.aload_n 0, 1) := by decide +kernel
theorem dX3_firstToLeave_34 : decode cX3_firstToLeave 34 = .ok (.getfield 11, 3) := by decide +kernel
theorem dX3_firstToLeave_37 : decode cX3_firstToLeave 37 = .ok (.iload_n 1, 1) := by decide +kernel
theorem dX3_firstToLeave_38 : decode cX3_firstToLeave 38 = .ok (.aaload, 1) := by decide +kernel
theorem dX3_firstToLeave_39 : decode cX3_firstToLeave 39 = .ok (.getfield 37, 3) := by decide +kernel
theorem dX3_firstToLeave_42 : decode cX3_firstToLeave 42 = .ok (.if_icmp .ge 5, 3) := by decide +kernel
theorem dX3_firstToLeave_45 : decode cX3_firstToLeave 45 = .ok (.iload_n 2, 1) := by decide +kernel
theorem dX3_firstToLeave_46 : decode cX3_firstToLeave 46 = .ok (.istore_n 1, 1) := by decide +kernel
theorem dX3_firstToLeave_47 : decode cX3_firstToLeave 47 = .ok (.iinc 2 1, 3) := by decide +kernel
theorem dX3_firstToLeave_50 : decode cX3_firstToLeave 50 = .ok (.goto (-46), 3) := by decide +kernel
theorem dX3_firstToLeave_53 : decode cX3_firstToLeave 53 = .ok (.iload_n 1, 1) := by decide +kernel
theorem dX3_firstToLeave_54 : decode cX3_firstToLeave 54 = .ok (.ireturn, 1) := by decide +kernel
theorem dX3_leaveGate_0 : decode cX3_leaveGate 0 = .ok (.aload_n 0, 1) := by decide +kernel
theorem dX3_leaveGate_1 : decode cX3_leaveGate 1 = .ok (.invokevirtual 54, 3) := by decide +kernel
theorem dX3_leaveGate_4 : decode cX3_leaveGate 4 = .ok (.istore_n 3, 1) := by decide +kernel
theorem dX3_leaveGate_5 : decode cX3_leaveGate 5 = .ok (.aload_n 0, 1) := by decide +kernel
theorem dX3_leaveGate_6 : decode cX3_leaveGate 6 = .ok (.invokevirtual 57, 3) := by decide +kernel
theorem dX3_leaveGate_9 : decode cX3_leaveGate 9 = .ok (.istore 4, 2) := by decide +kernel
theorem dX3_leaveGate_11 : decode cX3_leaveGate 11 = .ok (.iconst 0, 1) := by decide +kernel
theorem dX3_leaveGate_12 : decode cX3_leaveGate 12 = .ok (.istore 5, 2) := by decide +kernel
theorem dX3_leaveGate_14 : decode cX3_leaveGate 14 = .ok (.iload 5, 2) := by decide +kernel
theorem dX3_leaveGate_16 : decode cX3_leaveGate 16 = .ok (.aload_n 0, 1) := by decide +kernel
theorem dX3_leaveGate_17 : decode cX3_leaveGate 17 = .ok (.getfield 22, 3) := by decide +kernel
theorem dX3_leaveGate_20 : decode cX3_leaveGate 20 = .ok (.if_icmp .ge 46, 3) := by decide +kernel
theorem dX3_leaveGate_23 : decode cX3_leaveGate 23 = .ok (.aload_n 0, 1) := by decide +kernel
theorem dX3_leaveGate_24 : decode cX3_leaveGate 24 = .ok (.iload 5, 2) := by decide +kernel
theorem dX3_leaveGate_26 : decode cX3_leaveGate 26 = .ok (.invokevirtual 33, 3) := by decide +kernel
theorem dX3_leaveGate_29 : decode cX3_leaveGate 29 = .ok (.ifCond .eq 31, 3) := by decide +kernel
theorem dX3_leaveGate_32 : decode cX3_leaveGate 32 = .ok (.aload_n 0, 1) := by decide +kernel
theorem dX3_leaveGate_33 : decode cX3_leaveGate 33 = .ok (.getfield 11, 3) := by decide +kernel
theorem dX3_leaveGate_36 : decode cX3_leaveGate 36 = .ok (.iload 5, 2) := by decide +kernel
theorem dX3_leaveGate_38 : decode cX3_leaveGate 38 = .ok (.aaload, 1) := by decide +kernel
theorem dX3_leaveGate_39 : decode cX3_leaveGate 39 = .ok (.iload_n 1, 1) := by decide +kernel
theorem dX3_leaveGate_40 : decode cX3_leaveGate 40 = .ok (.iload_n 2, 1) := by decide +kernel
theorem dX3_leaveGate_41 : decode cX3_leaveGate 41 = .ok (.aload_n 0, 1) := by decide +kernel
theorem dX3_leaveGate_42 : decode cX3_leaveGate 42 = .ok (.getfield 11, 3) := by decide +kernel
theorem dX3_leaveGate_45 : decode cX3_leaveGate 45 = .ok (.iload 5, 2) := by decide +kernel
theorem dX3_leaveGate_47 : decode cX3_leaveGate 47 = .ok (.aaload, 1) := by decide +kernel
theorem dX3_leaveGate_48 : decode cX3_leaveGate 48 = .ok (.getfield 44, 3) := by decide +kernel
theorem dX3_leaveGate_51 : decode cX3_leaveGate 51 = .ok (.iload_n 3, 1) := by decide +kernel
theorem dX3_leaveGate_52 : decode cX3_leaveGate 52 = .ok (.iload 4, 2) := by decide +kernel
theorem dX3_leaveGate_54 : decode cX3_leaveGate 54 = .ok (.invokestatic 60, 3) := by decide +kernel
theorem dX3_leaveGate_57 : decode cX3_leaveGate 57 = .ok (.invokevirtual 64, 3) := by decide +kernel
theorem dX3_leaveGate_60 : decode cX3_leaveGate 60 = .ok (.iinc 5 1, 3) := by decide +kernel
theorem dX3_leaveGate_63 : decode cX3_leaveGate 63 = .ok (.goto (-49), 3) := by decide +kernel
theorem dX3_leaveGate_66 : decode cX3_leaveGate 66 = .ok (.return_, 1) := by decide +kernel
theorem dX3_leavesAt_0 : decode cX3_leavesAt 0 = .ok (.iload_n 0, 1) := by decide +kernel
theorem dX3_leavesAt_1 : decode cX3_leavesAt 1 = .ok (.tableswitch 43 0 2 #[27, 30, 35], 27) := by decide +kernel
theorem dX3_leavesAt_28 : decode cX3_leavesAt 28 = .ok (.iload 4, 2) := by decide +kernel
theorem dX3_leavesAt_30 : decode cX3_leavesAt 30 = .ok (.ireturn, 1) := by decide +kernel
theorem dX3_leavesAt_31 : decode cX3_leavesAt 31 = .ok (.iload 4, 2) := by decide +kernel
theorem dX3_leavesAt_33 : decode cX3_leavesAt 33 = .ok (.iload_n 1, 1) := by decide +kernel
theorem dX3_leavesAt_34 : decode cX3_leavesAt 34 = .ok (.iadd, 1) := by decide +kernel
theorem dX3_leavesAt_35 : decode cX3_leavesAt 35 = .ok (.ireturn, 1) := by decide +kernel
theorem dX3_leavesAt_36 : decode cX3_leavesAt 36 = .ok (.iload_n 3, 1) := by decide +kernel
theorem dX3_leavesAt_37 : decode cX3_leavesAt 37 = .ok (.iload_n 1, 1) := by decide +kernel
theorem dX3_leavesAt_38 : decode cX3_leavesAt 38 = .ok (.iadd, 1) := by decide +kernel
theorem dX3_leavesAt_39 : decode cX3_leavesAt 39 = .ok (.iload_n 2, 1) := by decide +kernel
theorem dX3_leavesAt_40 : decode cX3_leavesAt 40 = .ok (.invokestatic 68, 3) := by decide +kernel
theorem dX3_leavesAt_43 : decode cX3_leavesAt 43 = .ok (.ireturn, 1) := by decide +kernel
theorem dX3_leavesAt_44 : decode cX3_leavesAt 44 = .ok (.iload_n 2, 1) := by decide +kernel
theorem dX3_leavesAt_45 : decode cX3_leavesAt 45 = .ok (.ireturn, 1) := by decide +kernel
theorem dX3_firstCame_0 : decode cX3_firstCame 0 = .ok (.iconst (-1), 1) := by decide +kernel
theorem dX3_firstCame_1 : decode cX3_firstCame 1 = .ok (.istore_n 1, 1) := by decide +kernel
theorem dX3_firstCame_2 : decode cX3_firstCame 2 = .ok (.iconst 0, 1) := by decide +kernel
theorem dX3_firstCame_3 : decode cX3_firstCame 3 = .ok (.istore_n 2, 1) := by decide +kernel
theorem dX3_firstCame_4 : decode cX3_firstCame 4 = .ok (.iload_n 2, 1) := by decide +kernel
theorem dX3_firstCame_5 : decode cX3_firstCame 5 = .ok (.aload_n 0, 1) := by decide +kernel
theorem dX3_firstCame_6 : decode cX3_firstCame 6 = .ok (.getfield 22, 3) := by decide +kernel
theorem dX3_firstCame_9 : decode cX3_firstCame 9 = .ok (.if_icmp .ge 44, 3) := by decide +kernel
theorem dX3_firstCame_12 : decode cX3_firstCame 12 = .ok (.aload_n 0, 1) := by decide +kernel
theorem dX3_firstCame_13 : decode cX3_firstCame 13 = .ok (.iload_n 2, 1) := by decide +kernel
theorem dX3_firstCame_14 : decode cX3_firstCame 14 = .ok (.invokevirtual 33, 3) := by decide +kernel
theorem dX3_firstCame_17 : decode cX3_firstCame 17 = .ok (.ifCond .eq 30, 3) := by decide +kernel
theorem dX3_firstCame_20 : decode cX3_firstCame 20 = .ok (.iload_n 1, 1) := by decide +kernel
theorem dX3_firstCame_21 : decode cX3_firstCame 21 = .ok (.ifCond .lt 16, 3) := by decide +kernel
theorem dX3_firstCame_24 : decode cX3_firstCame 24 = .ok (.aload_n 0, 1) := by decide +kernel
theorem dX3_firstCame_25 : decode cX3_firstCame 25 = .ok (.getfield 11, 3) := by decide +kernel
theorem dX3_firstCame_28 : decode cX3_firstCame 28 = .ok (.iload_n 2, 1) := by decide +kernel
theorem dX3_firstCame_29 : decode cX3_firstCame 29 = .ok (.aaload, 1) := by decide +kernel
theorem dX3_firstCame_30 : decode cX3_firstCame 30 = .ok (.getfield 44, 3) := by decide +kernel
theorem dX3_firstCame_33 : decode cX3_firstCame 33 = .ok (.iload_n 1, 1) := by decide +kernel
theorem dX3_firstCame_34 : decode cX3_firstCame 34 = .ok (.if_icmp .ge 13, 3) := by decide +kernel
theorem dX3_firstCame_37 : decode cX3_firstCame 37 = .ok (.aload_n 0, 1) := by decide +kernel
theorem dX3_firstCame_38 : decode cX3_firstCame 38 = .ok (.getfield 11, 3) := by decide +kernel
theorem dX3_firstCame_41 : decode cX3_firstCame 41 = .ok (.iload_n 2, 1) := by decide +kernel
theorem dX3_firstCame_42 : decode cX3_firstCame 42 = .ok (.aaload, 1) := by decide +kernel
theorem dX3_firstCame_43 : decode cX3_firstCame 43 = .ok (.getfield 44, 3) := by decide +kernel
theorem dX3_firstCame_46 : decode cX3_firstCame 46 = .ok (.istore_n 1, 1) := by decide +kernel
theorem dX3_firstCame_47 : decode cX3_firstCame 47 = .ok (.iinc 2 1, 3) := by decide +kernel
theorem dX3_firstCame_50 : decode cX3_firstCame 50 = .ok (.goto (-46), 3) := by decide +kernel
theorem dX3_firstCame_53 : decode cX3_firstCame 53 = .ok (.iload_n 1, 1) := by decide +kernel
theorem dX3_firstCame_54 : decode cX3_firstCame 54 = .ok (.ireturn, 1) := by decide +kernel
theorem dX3_lastCame_0 : decode cX3_lastCame 0 = .ok (.iconst 0, 1) := by decide +kernel
theorem dX3_lastCame_1 : decode cX3_lastCame 1 = .ok (.istore_n 1, 1) := by decide +kernel
theorem dX3_lastCame_2 : decode cX3_lastCame 2 = .ok (.iconst 0, 1) := by decide +kernel
theorem dX3_lastCame_3 : decode cX3_lastCame 3 = .ok (.istore_n 2, 1) := by decide +kernel
theorem dX3_lastCame_4 : decode cX3_lastCame 4 = .ok (.iload_n 2, 1) := by decide +kernel
theorem dX3_lastCame_5 : decode cX3_lastCame 5 = .ok (.aload_n 0, 1) := by decide +kernel
theorem dX3_lastCame_6 : decode cX3_lastCame 6 = .ok (.getfield 22, 3) := by decide +kernel
theorem dX3_lastCame_9 : decode cX3_lastCame 9 = .ok (.if_icmp .ge 31, 3) := by decide +kernel
theorem dX3_lastCame_12 : decode cX3_lastCame 12 = .ok (.aload_n 0, 1) := by decide +kernel
theorem dX3_lastCame_13 : decode cX3_lastCame 13 = .ok (.iload_n 2, 1) := by decide +kernel
theorem dX3_lastCame_14 : decode cX3_lastCame 14 = .ok (.invokevirtual 33, 3) := by decide +kernel
theorem dX3_lastCame_17 : decode cX3_lastCame 17 = .ok (.ifCond .eq 17, 3) := by decide +kernel
theorem dX3_lastCame_20 : decode cX3_lastCame 20 = .ok (.iload_n 1, 1) := by decide +kernel
theorem dX3_lastCame_21 : decode cX3_lastCame 21 = .ok (.aload_n 0, 1) := by decide +kernel
theorem dX3_lastCame_22 : decode cX3_lastCame 22 = .ok (.getfield 11, 3) := by decide +kernel
theorem dX3_lastCame_25 : decode cX3_lastCame 25 = .ok (.iload_n 2, 1) := by decide +kernel
theorem dX3_lastCame_26 : decode cX3_lastCame 26 = .ok (.aaload, 1) := by decide +kernel
theorem dX3_lastCame_27 : decode cX3_lastCame 27 = .ok (.getfield 44, 3) := by decide +kernel
theorem dX3_lastCame_30 : decode cX3_lastCame 30 = .ok (.invokestatic 68, 3) := by decide +kernel
theorem dX3_lastCame_33 : decode cX3_lastCame 33 = .ok (.istore_n 1, 1) := by decide +kernel
theorem dX3_lastCame_34 : decode cX3_lastCame 34 = .ok (.iinc 2 1, 3) := by decide +kernel
theorem dX3_lastCame_37 : decode cX3_lastCame 37 = .ok (.goto (-33), 3) := by decide +kernel
theorem dX3_lastCame_40 : decode cX3_lastCame 40 = .ok (.iload_n 1, 1) := by decide +kernel
theorem dX3_lastCame_41 : decode cX3_lastCame 41 = .ok (.ireturn, 1) := by decide +kernel
theorem dX3_lastMinute_0 : decode cX3_lastMinute 0 = .ok (.iconst 0, 1) := by decide +kernel
theorem dX3_lastMinute_1 : decode cX3_lastMinute 1 = .ok (.istore_n 1, 1) := by decide +kernel
theorem dX3_lastMinute_2 : decode cX3_lastMinute 2 = .ok (.iconst 0, 1) := by decide +kernel
theorem dX3_lastMinute_3 : decode cX3_lastMinute 3 = .ok (.istore_n 2, 1) := by decide +kernel
theorem dX3_lastMinute_4 : decode cX3_lastMinute 4 = .ok (.iload_n 2, 1) := by decide +kernel
theorem dX3_lastMinute_5 : decode cX3_lastMinute 5 = .ok (.aload_n 0, 1) := by decide +kernel
theorem dX3_lastMinute_6 : decode cX3_lastMinute 6 = .ok (.getfield 22, 3) := by decide +kernel
theorem dX3_lastMinute_9 : decode cX3_lastMinute 9 = .ok (.if_icmp .ge 31, 3) := by decide +kernel
theorem dX3_lastMinute_12 : decode cX3_lastMinute 12 = .ok (.aload_n 0, 1) := by decide +kernel
theorem dX3_lastMinute_13 : decode cX3_lastMinute 13 = .ok (.iload_n 2, 1) := by decide +kernel
theorem dX3_lastMinute_14 : decode cX3_lastMinute 14 = .ok (.invokevirtual 33, 3) := by decide +kernel
theorem dX3_lastMinute_17 : decode cX3_lastMinute 17 = .ok (.ifCond .eq 17, 3) := by decide +kernel
theorem dX3_lastMinute_20 : decode cX3_lastMinute 20 = .ok (.iload_n 1, 1) := by decide +kernel
theorem dX3_lastMinute_21 : decode cX3_lastMinute 21 = .ok (.aload_n 0, 1) := by decide +kernel
theorem dX3_lastMinute_22 : decode cX3_lastMinute 22 = .ok (.getfield 11, 3) := by decide +kernel
theorem dX3_lastMinute_25 : decode cX3_lastMinute 25 = .ok (.iload_n 2, 1) := by decide +kernel
theorem dX3_lastMinute_26 : decode cX3_lastMinute 26 = .ok (.aaload, 1) := by decide +kernel
theorem dX3_lastMinute_27 : decode cX3_lastMinute 27 = .ok (.getfield 37, 3) := by decide +kernel
theorem dX3_lastMinute_30 : decode cX3_lastMinute 30 = .ok (.invokestatic 68, 3) := by decide +kernel
theorem dX3_lastMinute_33 : decode cX3_lastMinute 33 = .ok (.istore_n 1, 1) := by decide +kernel
theorem dX3_lastMinute_34 : decode cX3_lastMinute 34 = .ok (.iinc 2 1, 3) := by decide +kernel
theorem dX3_lastMinute_37 : decode cX3_lastMinute 37 = .ok (.goto (-33), 3) := by decide +kernel
theorem dX3_lastMinute_40 : decode cX3_lastMinute 40 = .ok (.iload_n 1, 1) := by decide +kernel
theorem dX3_lastMinute_41 : decode cX3_lastMinute 41 = .ok (.ireturn, 1) := by decide +kernel
theorem dX4_init_0 : decode cX4_init 0 = .ok (.aload_n 0, 1) := by decide +kernel
theorem dX4_init_1 : decode cX4_init 1 = .ok (.invokespecial 3, 3) := by decide +kernel
theorem dX4_init_4 : decode cX4_init 4 = .ok (.aload_n 0, 1) := by decide +kernel
theorem dX4_init_5 : decode cX4_init 5 = .ok (.bipush 120, 2) := by decide +kernel
theorem dX4_init_7 : decode cX4_init 7 = .ok (.newarray .int, 2) := by decide +kernel
theorem dX4_init_9 : decode cX4_init 9 = .ok (.putfield 11, 3) := by decide +kernel
theorem dX4_init_12 : decode cX4_init 12 = .ok (.return_, 1) := by decide +kernel
theorem dX4_append_0 : decode cX4_append 0 = .ok (.aload_n 0, 1) := by decide +kernel
theorem dX4_append_1 : decode cX4_append 1 = .ok (.getfield 11, 3) := by decide +kernel
theorem dX4_append_4 : decode cX4_append 4 = .ok (.aload_n 0, 1) := by decide +kernel
theorem dX4_append_5 : decode cX4_append 5 = .ok (.getfield 15, 3) := by decide +kernel
theorem dX4_append_8 : decode cX4_append 8 = .ok (.iload_n 1, 1) := by decide +kernel
theorem dX4_append_9 : decode cX4_append 9 = .ok (.iastore, 1) := by decide +kernel
theorem dX4_append_10 : decode cX4_append 10 = .ok (.aload_n 0, 1) := by decide +kernel
theorem dX4_append_11 : decode cX4_append 11 = .ok (.dup, 1) := by decide +kernel
theorem dX4_append_12 : decode cX4_append 12 = .ok (.getfield 15, 3) := by decide +kernel
theorem dX4_append_15 : decode cX4_append 15 = .ok (.iconst 1, 1) := by decide +kernel
theorem dX4_append_16 : decode cX4_append 16 = .ok (.iadd, 1) := by decide +kernel
theorem dX4_append_17 : decode cX4_append 17 = .ok (.putfield 15, 3) := by decide +kernel
theorem dX4_append_20 : decode cX4_append 20 = .ok (.aload_n 0, 1) := by decide +kernel
theorem dX4_append_21 : decode cX4_append 21 = .ok (.getfield 15, 3) := by decide +kernel
theorem dX4_append_24 : decode cX4_append 24 = .ok (.ireturn, 1) := by decide +kernel
theorem dX4_readInto_0 : decode cX4_readInto 0 = .ok (.aload_n 0, 1) := by decide +kernel
theorem dX4_readInto_1 : decode cX4_readInto 1 = .ok (.iconst 0, 1) := by decide +kernel
theorem dX4_readInto_2 : decode cX4_readInto 2 = .ok (.putfield 19, 3) := by decide +kernel
theorem dX4_readInto_5 : decode cX4_readInto 5 = .ok (.aload_n 0, 1) := by decide +kernel
theorem dX4_readInto_6 : decode cX4_readInto 6 = .ok (.iconst 0, 1) := by decide +kernel
theorem dX4_readInto_7 : decode cX4_readInto 7 = .ok (.putfield 22, 3) := by decide +kernel
theorem dX4_readInto_10 : decode cX4_readInto 10 = .ok (.aload_n 0, 1) := by decide +kernel
theorem dX4_readInto_11 : decode cX4_readInto 11 = .ok (.invokevirtual 25, 3) := by decide +kernel
theorem dX4_readInto_14 : decode cX4_readInto 14 = .ok (.aload_n 0, 1) := by decide +kernel
theorem dX4_readInto_15 : decode cX4_readInto 15 = .ok (.aload_n 1, 1) := by decide +kernel
theorem dX4_readInto_16 : decode cX4_readInto 16 = .ok (.invokevirtual 28, 3) := by decide +kernel
theorem dX4_readInto_19 : decode cX4_readInto 19 = .ok (.aload_n 0, 1) := by decide +kernel
theorem dX4_readInto_20 : decode cX4_readInto 20 = .ok (.aload_n 1, 1) := by decide +kernel
theorem dX4_readInto_21 : decode cX4_readInto 21 = .ok (.invokevirtual 32, 3) := by decide +kernel
theorem dX4_readInto_24 : decode cX4_readInto 24 = .ok (.aload_n 0, 1) := by decide +kernel
theorem dX4_readInto_25 : decode cX4_readInto 25 = .ok (.aload_n 1, 1) := by decide +kernel
theorem dX4_readInto_26 : decode cX4_readInto 26 = .ok (.invokevirtual 35, 3) := by decide +kernel
theorem dX4_readInto_29 : decode cX4_readInto 29 = .ok (.aload_n 0, 1) := by decide +kernel
theorem dX4_readInto_30 : decode cX4_readInto 30 = .ok (.iconst 0, 1) := by decide +kernel
theorem dX4_readInto_31 : decode cX4_readInto 31 = .ok (.putfield 15, 3) := by decide +kernel
theorem dX4_readInto_34 : decode cX4_readInto 34 = .ok (.aload_n 0, 1) := by decide +kernel
theorem dX4_readInto_35 : decode cX4_readInto 35 = .ok (.getfield 19, 3) := by decide +kernel
theorem dX4_readInto_38 : decode cX4_readInto 38 = .ok (.ifCond .eq 11, 3) := by decide +kernel
theorem dX4_readInto_41 : decode cX4_readInto 41 = .ok (.aload_n 0, 1) := by decide +kernel
theorem dX4_readInto_42 : decode cX4_readInto 42 = .ok (.aload_n 0, 1) := by decide +kernel
theorem dX4_readInto_43 : decode cX4_readInto 43 = .ok (.getfield 19, 3) := by decide +kernel
theorem dX4_readInto_46 : decode cX4_readInto 46 = .ok (.putfield 38, 3) := by decide +kernel
theorem dX4_readInto_49 : decode cX4_readInto 49 = .ok (.aload_n 1, 1) := by decide +kernel
theorem dX4_readInto_50 : decode cX4_readInto 50 = .ok (.aload_n 0, 1) := by decide +kernel
theorem dX4_readInto_51 : decode cX4_readInto 51 = .ok (.getfield 19, 3) := by decide +kernel
theorem dX4_readInto_54 : decode cX4_readInto 54 = .ok (.ifCond .ne 7, 3) := by decide +kernel
theorem dX4_readInto_57 : decode cX4_readInto 57 = .ok (.iconst 1, 1) := by decide +kernel
theorem dX4_readInto_58 : decode cX4_readInto 58 = .ok (.goto 4, 3) := by decide +kernel
theorem dX4_readInto_61 : decode cX4_readInto 61 = .ok (.iconst 0, 1) := by decide +kernel
theorem dX4_readInto_62 : decode cX4_readInto 62 = .ok (.putfield 41, 3) := by decide +kernel
theorem dX4_readInto_65 : decode cX4_readInto 65 = .ok (.aload_n 1, 1) := by decide +kernel
theorem dX4_readInto_66 : decode cX4_readInto 66 = .ok (.getfield 41, 3) := by decide +kernel
theorem dX4_readInto_69 : decode cX4_readInto 69 = .ok (.ireturn, 1) := by decide +kernel
theorem dX4_readLegs_0 : decode cX4_readLegs 0 = .ok (.aload_n 0, 1) := by decide +kernel
theorem dX4_readLegs_1 : decode cX4_readLegs 1 = .ok (.bipush 119, 2) := by decide +kernel
theorem dX4_readLegs_3 : decode cX4_readLegs 3 = .ok (.invokevirtual 47, 3) := by decide +kernel
theorem dX4_readLegs_6 : decode cX4_readLegs 6 = .ok (.iconst 1, 1) := by decide +kernel
theorem dX4_readLegs_7 : decode cX4_readLegs 7 = .ok (.istore_n 2, 1) := by decide +kernel
theorem dX4_readLegs_8 : decode cX4_readLegs 8 = .ok (.iconst 0, 1) := by decide +kernel
theorem dX4_readLegs_9 : decode cX4_readLegs 9 = .ok (.istore_n 3, 1) := by decide +kernel
theorem dX4_readLegs_10 : decode cX4_readLegs 10 = .ok (.iload_n 3, 1) := by decide +kernel
theorem dX4_readLegs_11 : decode cX4_readLegs 11 = .ok (.bipush 8, 2) := by decide +kernel
theorem dX4_readLegs_13 : decode cX4_readLegs 13 = .ok (.if_icmp .gt 62, 3) := by decide +kernel
theorem dX4_readLegs_16 : decode cX4_readLegs 16 = .ok (.iload_n 2, 1) := by decide +kernel
theorem dX4_readLegs_17 : decode cX4_readLegs 17 = .ok (.ifCond .eq 58, 3) := by decide +kernel
theorem dX4_readLegs_20 : decode cX4_readLegs 20 = .ok (.aload_n 0, 1) := by decide +kernel
theorem dX4_readLegs_21 : decode cX4_readLegs 21 = .ok (.iconst 1, 1) := by decide +kernel
theorem dX4_readLegs_22 : decode cX4_readLegs 22 = .ok (.bipush 9, 2) := by decide +kernel
theorem dX4_readLegs_24 : decode cX4_readLegs 24 = .ok (.iload_n 3, 1) := by decide +kernel
theorem dX4_readLegs_25 : decode cX4_readLegs 25 = .ok (.bipush 8, 2) := by decide +kernel
theorem dX4_readLegs_27 : decode cX4_readLegs 27 = .ok (.if_icmp .ge 7, 3) := by decide +kernel
theorem dX4_readLegs_30 : decode cX4_readLegs 30 = .ok (.iconst 1, 1) := by decide +kernel
theorem dX4_readLegs_31 : decode cX4_readLegs 31 = .ok (.goto 4, 3) := by decide +kernel
theorem dX4_readLegs_34 : decode cX4_readLegs 34 = .ok (.iconst 0, 1) := by decide +kernel
theorem dX4_readLegs_35 : decode cX4_readLegs 35 = .ok (.invokevirtual 51, 3) := by decide +kernel
theorem dX4_readLegs_38 : decode cX4_readLegs 38 = .ok (.istore 4, 2) := by decide +kernel
theorem dX4_readLegs_40 : decode cX4_readLegs 40 = .ok (.aload_n 0, 1) := by decide +kernel
theorem dX4_readLegs_41 : decode cX4_readLegs 41 = .ok (.getfield 19, 3) := by decide +kernel
theorem dX4_readLegs_44 : decode cX4_readLegs 44 = .ok (.ifCond .ne 18, 3) := by decide +kernel
theorem dX4_readLegs_47 : decode cX4_readLegs 47 = .ok (.aload_n 1, 1) := by decide +kernel
theorem dX4_readLegs_48 : decode cX4_readLegs 48 = .ok (.getfield 55, 3) := by decide +kernel
theorem dX4_readLegs_51 : decode cX4_readLegs 51 = .ok (.iload_n 3, 1) := by decide +kernel
theorem dX4_readLegs_52 : decode cX4_readLegs 52 = .ok (.iload 4, 2) := by decide +kernel
theorem dX4_readLegs_54 : decode cX4_readLegs 54 = .ok (.iastore, 1) := by decide +kernel
theorem dX4_readLegs_55 : decode cX4_readLegs 55 = .ok (.aload_n 1, 1) := by decide +kernel
theorem dX4_readLegs_56 : decode cX4_readLegs 56 = .ok (.iload_n 3, 1) := by decide +kernel
theorem dX4_readLegs_57 : decode cX4_readLegs 57 = .ok (.iconst 1, 1) := by decide +kernel
theorem dX4_readLegs_58 : decode cX4_readLegs 58 = .ok (.iadd, 1) := by decide +kernel
theorem dX4_readLegs_59 : decode cX4_readLegs 59 = .ok (.putfield 58, 3) := by decide +kernel
theorem dX4_readLegs_62 : decode cX4_readLegs 62 = .ok (.aload_n 0, 1) := by decide +kernel
theorem dX4_readLegs_63 : decode cX4_readLegs 63 = .ok (.bipush 44, 2) := by decide +kernel
theorem dX4_readLegs_65 : decode cX4_readLegs 65 = .ok (.invokevirtual 61, 3) := by decide +kernel
theorem dX4_readLegs_68 : decode cX4_readLegs 68 = .ok (.istore_n 2, 1) := by decide +kernel
theorem dX4_readLegs_69 : decode cX4_readLegs 69 = .ok (.iinc 3 1, 3) := by decide +kernel
theorem dX4_readLegs_72 : decode cX4_readLegs 72 = .ok (.goto (-62), 3) := by decide +kernel
theorem dX4_readLegs_75 : decode cX4_readLegs 75 = .ok (.aload_n 0, 1) := by decide +kernel
theorem dX4_readLegs_76 : decode cX4_readLegs 76 = .ok (.bipush 59, 2) := by decide +kernel
theorem dX4_readLegs_78 : decode cX4_readLegs 78 = .ok (.invokevirtual 47, 3) := by decide +kernel
theorem dX4_readLegs_81 : decode cX4_readLegs 81 = .ok (.return_, 1) := by decide +kernel
theorem dX4_readRule_0 : decode cX4_readRule 0 = .ok (.aload_n 0, 1) := by decide +kernel
theorem dX4_readRule_1 : decode cX4_readRule 1 = .ok (.bipush 114, 2) := by decide +kernel
theorem dX4_readRule_3 : decode cX4_readRule 3 = .ok (.invokevirtual 47, 3) := by decide +kernel
theorem dX4_readRule_6 : decode cX4_readRule 6 = .ok (.aload_n 1, 1) := by decide +kernel
theorem dX4_readRule_7 : decode cX4_readRule 7 = .ok (.aload_n 0, 1) := by decide +kernel
theorem dX4_readRule_8 : decode cX4_readRule 8 = .ok (.iconst 0, 1) := by decide +kernel
theorem dX4_readRule_9 : decode cX4_readRule 9 = .ok (.iconst 3, 1) := by decide +kernel
theorem dX4_readRule_10 : decode cX4_readRule 10 = .ok (.iconst 1, 1) := by decide +kernel
theorem dX4_readRule_11 : decode cX4_readRule 11 = .ok (.invokevirtual 51, 3) := by decide +kernel
theorem dX4_readRule_14 : decode cX4_readRule 14 = .ok (.putfield 65, 3) := by decide +kernel
theorem dX4_readRule_17 : decode cX4_readRule 17 = .ok (.aload_n 0, 1) := by decide +kernel
theorem dX4_readRule_18 : decode cX4_readRule 18 = .ok (.bipush 44, 2) := by decide +kernel
theorem dX4_readRule_20 : decode cX4_readRule 20 = .ok (.invokevirtual 47, 3) := by decide +kernel
theorem dX4_readRule_23 : decode cX4_readRule 23 = .ok (.aload_n 1, 1) := by decide +kernel
theorem dX4_readRule_24 : decode cX4_readRule 24 = .ok (.aload_n 0, 1) := by decide +kernel
theorem dX4_readRule_25 : decode cX4_readRule 25 = .ok (.iconst 0, 1) := by decide +kernel
theorem dX4_readRule_26 : decode cX4_readRule 26 = .ok (.bipush 30, 2) := by decide +kernel
theorem dX4_readRule_28 : decode cX4_readRule 28 = .ok (.iconst 1, 1) := by decide +kernel
theorem dX4_readRule_29 : decode cX4_readRule 29 = .ok (.invokevirtual 51, 3) := by decide +kernel
theorem dX4_readRule_32 : decode cX4_readRule 32 = .ok (.putfield 68, 3) := by decide +kernel
theorem dX4_readRule_35 : decode cX4_readRule 35 = .ok (.aload_n 0, 1) := by decide +kernel
theorem dX4_readRule_36 : decode cX4_readRule 36 = .ok (.bipush 44, 2) := by decide +kernel
theorem dX4_readRule_38 : decode cX4_readRule 38 = .ok (.invokevirtual 47, 3) := by decide +kernel
theorem dX4_readRule_41 : decode cX4_readRule 41 = .ok (.aload_n 1, 1) := by decide +kernel
theorem dX4_readRule_42 : decode cX4_readRule 42 = .ok (.aload_n 0, 1) := by decide +kernel
theorem dX4_readRule_43 : decode cX4_readRule 43 = .ok (.iconst 1, 1) := by decide +kernel
theorem dX4_readRule_44 : decode cX4_readRule 44 = .ok (.sipush 999, 3) := by decide +kernel
theorem dX4_readRule_47 : decode cX4_readRule 47 = .ok (.iconst 1, 1) := by decide +kernel
theorem dX4_readRule_48 : decode cX4_readRule 48 = .ok (.invokevirtual 51, 3) := by decide +kernel
theorem dX4_readRule_51 : decode cX4_readRule 51 = .ok (.putfield 71, 3) := by decide +kernel
theorem dX4_readRule_54 : decode cX4_readRule 54 = .ok (.aload_n 0, 1) := by decide +kernel
theorem dX4_readRule_55 : decode cX4_readRule 55 = .ok (.bipush 59, 2) := by decide +kernel
theorem dX4_readRule_57 : decode cX4_readRule 57 = .ok (.invokevirtual 47, 3) := by decide +kernel
theorem dX4_readRule_60 : decode cX4_readRule 60 = .ok (.return_, 1) := by decide +kernel
theorem dX4_readWalkers_0 : decode cX4_readWalkers 0 = .ok (.aload_n 1, 1) := by decide +kernel
theorem dX4_readWalkers_1 : decode cX4_readWalkers 1 = .ok (.getfield 74, 3) := by decide +kernel
theorem dX4_readWalkers_4 : decode cX4_readWalkers 4 = .ok (.iconst 0, 1) := by decide +kernel
theorem dX4_readWalkers_5 : decode cX4_readWalkers 5 = .ok (.putfield 78, 3) := by decide +kernel
theorem dX4_readWalkers_8 : decode cX4_readWalkers 8 = .ok (.iconst 0, 1) := by decide +kernel
theorem dX4_readWalkers_9 : decode cX4_readWalkers 9 = .ok (.istore_n 2, 1) := by decide +kernel
theorem dX4_readWalkers_10 : decode cX4_readWalkers 10 = .ok (.iload_n 2, 1) := by decide +kernel
theorem dX4_readWalkers_11 : decode cX4_readWalkers 11 = .ok (.bipush 6, 2) := by decide +kernel
theorem dX4_readWalkers_13 : decode cX4_readWalkers 13 = .ok (.if_icmp .gt 106, 3) := by decide +kernel
theorem dX4_readWalkers_16 : decode cX4_readWalkers 16 = .ok (.aload_n 0, 1) := by decide +kernel
theorem dX4_readWalkers_17 : decode cX4_readWalkers 17 = .ok (.getfield 19, 3) := by decide +kernel
theorem dX4_readWalkers_20 : decode cX4_readWalkers 20 = .ok (.ifCond .ne 99, 3) := by decide +kernel
theorem dX4_readWalkers_23 : decode cX4_readWalkers 23 = .ok (.aload_n 0, 1) := by decide +kernel
theorem dX4_readWalkers_24 : decode cX4_readWalkers 24 = .ok (.getfield 83, 3) := by decide +kernel
theorem dX4_readWalkers_27 : decode cX4_readWalkers 27 = .ok (.iconst (-1), 1) := by decide +kernel
theorem dX4_readWalkers_28 : decode cX4_readWalkers 28 = .ok (.if_icmp .eq 91, 3) := by decide +kernel
theorem dX4_readWalkers_31 : decode cX4_readWalkers 31 = .ok (.aload_n 0, 1) := by decide +kernel
theorem dX4_readWalkers_32 : decode cX4_readWalkers 32 = .ok (.iload_n 2, 1) := by decide +kernel
theorem dX4_readWalkers_33 : decode cX4_readWalkers 33 = .ok (.bipush 6, 2) := by decide +kernel
theorem dX4_readWalkers_35 : decode cX4_readWalkers 35 = .ok (.if_icmp .ge 7, 3) := by decide +kernel
theorem dX4_readWalkers_38 : decode cX4_readWalkers 38 = .ok (.iconst 1, 1) := by decide +kernel
theorem dX4_readWalkers_39 : decode cX4_readWalkers 39 = .ok (.goto 4, 3) := by decide +kernel
theorem dX4_readWalkers_42 : decode cX4_readWalkers 42 = .ok (.iconst 0, 1) := by decide +kernel
theorem dX4_readWalkers_43 : decode cX4_readWalkers 43 = .ok (.invokevirtual 86, 3) := by decide +kernel
theorem dX4_readWalkers_46 : decode cX4_readWalkers 46 = .ok (.istore_n 3, 1) := by decide +kernel
theorem dX4_readWalkers_47 : decode cX4_readWalkers 47 = .ok (.aload_n 0, 1) := by decide +kernel
theorem dX4_readWalkers_48 : decode cX4_readWalkers 48 = .ok (.iconst 1, 1) := by decide +kernel
theorem dX4_readWalkers_49 : decode cX4_readWalkers 49 = .ok (.bipush 20, 2) := by decide +kernel
theorem dX4_readWalkers_51 : decode cX4_readWalkers 51 = .ok (.iconst 1, 1) := by decide +kernel
theorem dX4_readWalkers_52 : decode cX4_readWalkers 52 = .ok (.invokevirtual 51, 3) := by decide +kernel
theorem dX4_readWalkers_55 : decode cX4_readWalkers 55 = .ok (.istore 4, 2) := by decide +kernel
theorem dX4_readWalkers_57 : decode cX4_readWalkers 57 = .ok (.aload_n 0, 1) := by decide +kernel
theorem dX4_readWalkers_58 : decode cX4_readWalkers 58 = .ok (.bipush 44, 2) := by decide +kernel
theorem dX4_readWalkers_60 : decode cX4_readWalkers 60 = .ok (.invokevirtual 47, 3) := by decide +kernel
theorem dX4_readWalkers_63 : decode cX4_readWalkers 63 = .ok (.aload_n 0, 1) := by decide +kernel
theorem dX4_readWalkers_64 : decode cX4_readWalkers 64 = .ok (.iconst 0, 1) := by decide +kernel
theorem dX4_readWalkers_65 : decode cX4_readWalkers 65 = .ok (.bipush 9, 2) := by decide +kernel
theorem dX4_readWalkers_67 : decode cX4_readWalkers 67 = .ok (.iconst 1, 1) := by decide +kernel
theorem dX4_readWalkers_68 : decode cX4_readWalkers 68 = .ok (.invokevirtual 51, 3) := by decide +kernel
theorem dX4_readWalkers_71 : decode cX4_readWalkers 71 = .ok (.istore 5, 2) := by decide +kernel
theorem dX4_readWalkers_73 : decode cX4_readWalkers 73 = .ok (.aload_n 0, 1) := by decide +kernel
theorem dX4_readWalkers_74 : decode cX4_readWalkers 74 = .ok (.bipush 59, 2) := by decide +kernel
theorem dX4_readWalkers_76 : decode cX4_readWalkers 76 = .ok (.invokevirtual 47, 3) := by decide +kernel
theorem dX4_readWalkers_79 : decode cX4_readWalkers 79 = .ok (.aload_n 0, 1) := by decide +kernel
theorem dX4_readWalkers_80 : decode cX4_readWalkers 80 = .ok (.getfield 19, 3) := by decide +kernel
theorem dX4_readWalkers_83 : decode cX4_readWalkers 83 = .ok (.ifCond .ne 30, 3) := by decide +kernel
theorem dX4_readWalkers_86 : decode cX4_readWalkers 86 = .ok (.aload_n 1, 1) := by decide +kernel
theorem dX4_readWalkers_87 : decode cX4_readWalkers 87 = .ok (.getfield 74, 3) := by decide +kernel
theorem dX4_readWalkers_90 : decode cX4_readWalkers 90 = .ok (.getfield 90, 3) := by decide +kernel
theorem dX4_readWalkers_93 : decode cX4_readWalkers 93 = .ok (.iload_n 2, 1) := by decide +kernel
theorem dX4_readWalkers_94 : decode cX4_readWalkers 94 = .ok (.aaload, 1) := by decide +kernel
theorem dX4_readWalkers_95 : decode cX4_readWalkers 95 = .ok (.iload_n 3, 1) := by decide +kernel
theorem dX4_readWalkers_96 : decode cX4_readWalkers 96 = .ok (.iload 4, 2) := by decide +kernel
theorem dX4_readWalkers_98 : decode cX4_readWalkers 98 = .ok (.iload 5, 2) := by decide +kernel
theorem dX4_readWalkers_100 : decode cX4_readWalkers 100 = .ok (.invokevirtual 94, 3) := by decide +kernel
theorem dX4_readWalkers_103 : decode cX4_readWalkers 103 = .ok (.aload_n 1, 1) := by decide +kernel
theorem dX4_readWalkers_104 : decode cX4_readWalkers 104 = .ok (.getfield 74, 3) := by decide +kernel
theorem dX4_readWalkers_107 : decode cX4_readWalkers 107 = .ok (.iload_n 2, 1) := by decide +kernel
theorem dX4_readWalkers_108 : decode cX4_readWalkers 108 = .ok (.iconst 1, 1) := by decide +kernel
theorem dX4_readWalkers_109 : decode cX4_readWalkers 109 = .ok (.iadd, 1) := by decide +kernel
theorem dX4_readWalkers_110 : decode cX4_readWalkers 110 = .ok (.putfield 78, 3) := by decide +kernel
theorem dX4_readWalkers_113 : decode cX4_readWalkers 113 = .ok (.iinc 2 1, 3) := by decide +kernel
theorem dX4_readWalkers_116 : decode cX4_readWalkers 116 = .ok (.goto (-106), 3) := by decide +kernel
theorem dX4_readWalkers_119 : decode cX4_readWalkers 119 = .ok (.return_, 1) := by decide +kernel
theorem dX4_expectSort_0 : decode cX4_expectSort 0 = .ok (.aload_n 0, 1) := by decide +kernel
theorem dX4_expectSort_1 : decode cX4_expectSort 1 = .ok (.getfield 83, 3) := by decide +kernel
theorem dX4_expectSort_4 : decode cX4_expectSort 4 = .ok (.invokestatic 100, 3) := by decide +kernel
theorem dX4_expectSort_7 : decode cX4_expectSort 7 = .ok (.istore_n 2, 1) := by decide +kernel
theorem dX4_expectSort_8 : decode cX4_expectSort 8 = .ok (.iload_n 2, 1) := by decide +kernel
theorem dX4_expectSort_9 : decode cX4_expectSort 9 = .ok (.ifCond .ne 11, 3) := by decide +kernel
theorem dX4_expectSort_12 : decode cX4_expectSort 12 = .ok (.aload_n 0, 1) := by decide +kernel
theorem dX4_expectSort_13 : decode cX4_expectSort 13 = .ok (.iconst 1, 1) := by decide +kernel
theorem dX4_expectSort_14 : decode cX4_expectSort 14 = .ok (.invokevirtual 104, 3) := by decide +kernel
theorem dX4_expectSort_17 : decode cX4_expectSort 17 = .ok (.goto 19, 3) := by decide +kernel
theorem dX4_expectSort_20 : decode cX4_expectSort 20 = .ok (.iload_n 1, 1) := by decide +kernel
theorem dX4_expectSort_21 : decode cX4_expectSort 21 = .ok (.ifCond .ne 11, 3) := by decide +kernel
theorem dX4_expectSort_24 : decode cX4_expectSort 24 = .ok (.aload_n 0, 1) := by decide +kernel
theorem dX4_expectSort_25 : decode cX4_expectSort 25 = .ok (.iconst 3, 1) := by decide +kernel
theorem dX4_expectSort_26 : decode cX4_expectSort 26 = .ok (.invokevirtual 104, 3) := by decide +kernel
theorem dX4_expectSort_29 : decode cX4_expectSort 29 = .ok (.goto 7, 3) := by decide +kernel
theorem dX4_expectSort_32 : decode cX4_expectSort 32 = .ok (.aload_n 0, 1) := by decide +kernel
theorem dX4_expectSort_33 : decode cX4_expectSort 33 = .ok (.invokevirtual 25, 3) := by decide +kernel
theorem dX4_expectSort_36 : decode cX4_expectSort 36 = .ok (.iload_n 2, 1) := by decide +kernel
theorem dX4_expectSort_37 : decode cX4_expectSort 37 = .ok (.ireturn, 1) := by decide +kernel
theorem dX4_kindOf_0 : decode cX4_kindOf 0 = .ok (.iload_n 0, 1) := by decide +kernel
theorem dX4_kindOf_1 : decode cX4_kindOf 1 = .ok (.tableswitch 57 108 115 #[55, 57, 57, 53, 51, 49, 57, 47], 47) := by decide +kernel
theorem dX4_kindOf_48 : decode cX4_kindOf 48 = .ok (.iconst 1, 1) := by decide +kernel
theorem dX4_kindOf_49 : decode cX4_kindOf 49 = .ok (.ireturn, 1) := by decide +kernel
theorem dX4_kindOf_50 : decode cX4_kindOf 50 = .ok (.iconst 2, 1) := by decide +kernel
theorem dX4_kindOf_51 : decode cX4_kindOf 51 = .ok (.ireturn, 1) := by decide +kernel
theorem dX4_kindOf_52 : decode cX4_kindOf 52 = .ok (.iconst 3, 1) := by decide +kernel
theorem dX4_kindOf_53 : decode cX4_kindOf 53 = .ok (.ireturn, 1) := by decide +kernel
theorem dX4_kindOf_54 : decode cX4_kindOf 54 = .ok (.iconst 4, 1) := by decide +kernel
theorem dX4_kindOf_55 : decode cX4_kindOf 55 = .ok (.ireturn, 1) := by decide +kernel
theorem dX4_kindOf_56 : decode cX4_kindOf 56 = .ok (.iconst 5, 1) := by decide +kernel
theorem dX4_kindOf_57 : decode cX4_kindOf 57 = .ok (.ireturn, 1) := by decide +kernel
theorem dX4_kindOf_58 : decode cX4_kindOf 58 = .ok (.iconst 0, 1) := by decide +kernel
theorem dX4_kindOf_59 : decode cX4_kindOf 59 = .ok (.ireturn, 1) := by decide +kernel
theorem dX4_expectNumber_0 : decode cX4_expectNumber 0 = .ok (.aload_n 0, 1) := by decide +kernel
theorem dX4_expectNumber_1 : decode cX4_expectNumber 1 = .ok (.getfield 107, 3) := by decide +kernel
theorem dX4_expectNumber_4 : decode cX4_expectNumber 4 = .ok (.istore 4, 2) := by decide +kernel
theorem dX4_expectNumber_6 : decode cX4_expectNumber 6 = .ok (.aload_n 0, 1) := by decide +kernel
theorem dX4_expectNumber_7 : decode cX4_expectNumber 7 = .ok (.getfield 83, 3) := by decide +kernel
theorem dX4_expectNumber_10 : decode cX4_expectNumber 10 = .ok (.bipush (-3), 2) := by decide +kernel
theorem dX4_expectNumber_12 : decode cX4_expectNumber 12 = .ok (.if_icmp .eq 11, 3) := by decide +kernel
theorem dX4_expectNumber_15 : decode cX4_expectNumber 15 = .ok (.aload_n 0, 1) := by decide +kernel
theorem dX4_expectNumber_16 : decode cX4_expectNumber 16 = .ok (.iconst 1, 1) := by decide +kernel
theorem dX4_expectNumber_17 : decode cX4_expectNumber 17 = .ok (.invokevirtual 104, 3) := by decide +kernel
theorem dX4_expectNumber_20 : decode cX4_expectNumber 20 = .ok (.goto 39, 3) := by decide +kernel
theorem dX4_expectNumber_23 : decode cX4_expectNumber 23 = .ok (.iload 4, 2) := by decide +kernel
theorem dX4_expectNumber_25 : decode cX4_expectNumber 25 = .ok (.iload_n 1, 1) := by decide +kernel
theorem dX4_expectNumber_26 : decode cX4_expectNumber 26 = .ok (.if_icmp .lt 9, 3) := by decide +kernel
theorem dX4_expectNumber_29 : decode cX4_expectNumber 29 = .ok (.iload 4, 2) := by decide +kernel
theorem dX4_expectNumber_31 : decode cX4_expectNumber 31 = .ok (.iload_n 2, 1) := by decide +kernel
theorem dX4_expectNumber_32 : decode cX4_expectNumber 32 = .ok (.if_icmp .le 11, 3) := by decide +kernel
theorem dX4_expectNumber_35 : decode cX4_expectNumber 35 = .ok (.aload_n 0, 1) := by decide +kernel
theorem dX4_expectNumber_36 : decode cX4_expectNumber 36 = .ok (.iconst 2, 1) := by decide +kernel
theorem dX4_expectNumber_37 : decode cX4_expectNumber 37 = .ok (.invokevirtual 104, 3) := by decide +kernel
theorem dX4_expectNumber_40 : decode cX4_expectNumber 40 = .ok (.goto 19, 3) := by decide +kernel
theorem dX4_expectNumber_43 : decode cX4_expectNumber 43 = .ok (.iload_n 3, 1) := by decide +kernel
theorem dX4_expectNumber_44 : decode cX4_expectNumber 44 = .ok (.ifCond .ne 11, 3) := by decide +kernel
theorem dX4_expectNumber_47 : decode cX4_expectNumber 47 = .ok (.aload_n 0, 1) := by decide +kernel
theorem dX4_expectNumber_48 : decode cX4_expectNumber 48 = .ok (.iconst 3, 1) := by decide +kernel
theorem dX4_expectNumber_49 : decode cX4_expectNumber 49 = .ok (.invokevirtual 104, 3) := by decide +kernel
theorem dX4_expectNumber_52 : decode cX4_expectNumber 52 = .ok (.goto 7, 3) := by decide +kernel
theorem dX4_expectNumber_55 : decode cX4_expectNumber 55 = .ok (.aload_n 0, 1) := by decide +kernel
theorem dX4_expectNumber_56 : decode cX4_expectNumber 56 = .ok (.invokevirtual 25, 3) := by decide +kernel
theorem dX4_expectNumber_59 : decode cX4_expectNumber 59 = .ok (.iload 4, 2) := by decide +kernel
theorem dX4_expectNumber_61 : decode cX4_expectNumber 61 = .ok (.ireturn, 1) := by decide +kernel
theorem dX4_expect_0 : decode cX4_expect 0 = .ok (.aload_n 0, 1) := by decide +kernel
theorem dX4_expect_1 : decode cX4_expect 1 = .ok (.getfield 83, 3) := by decide +kernel
theorem dX4_expect_4 : decode cX4_expect 4 = .ok (.iload_n 1, 1) := by decide +kernel
theorem dX4_expect_5 : decode cX4_expect 5 = .ok (.if_icmp .ne 10, 3) := by decide +kernel
theorem dX4_expect_8 : decode cX4_expect 8 = .ok (.aload_n 0, 1) := by decide +kernel
theorem dX4_expect_9 : decode cX4_expect 9 = .ok (.invokevirtual 25, 3) := by decide +kernel
theorem dX4_expect_12 : decode cX4_expect 12 = .ok (.goto 8, 3) := by decide +kernel
theorem dX4_expect_15 : decode cX4_expect 15 = .ok (.aload_n 0, 1) := by decide +kernel
theorem dX4_expect_16 : decode cX4_expect 16 = .ok (.iconst 1, 1) := by decide +kernel
theorem dX4_expect_17 : decode cX4_expect 17 = .ok (.invokevirtual 104, 3) := by decide +kernel
theorem dX4_expect_20 : decode cX4_expect 20 = .ok (.return_, 1) := by decide +kernel
theorem dX4_accept_0 : decode cX4_accept 0 = .ok (.aload_n 0, 1) := by decide +kernel
theorem dX4_accept_1 : decode cX4_accept 1 = .ok (.getfield 19, 3) := by decide +kernel
theorem dX4_accept_4 : decode cX4_accept 4 = .ok (.ifCond .ne 11, 3) := by decide +kernel
theorem dX4_accept_7 : decode cX4_accept 7 = .ok (.aload_n 0, 1) := by decide +kernel
theorem dX4_accept_8 : decode cX4_accept 8 = .ok (.getfield 83, 3) := by decide +kernel
theorem dX4_accept_11 : decode cX4_accept 11 = .ok (.iload_n 1, 1) := by decide +kernel
theorem dX4_accept_12 : decode cX4_accept 12 = .ok (.if_icmp .eq 5, 3) := by decide +kernel
theorem dX4_accept_15 : decode cX4_accept 15 = .ok (.iconst 0, 1) := by decide +kernel
theorem dX4_accept_16 : decode cX4_accept 16 = .ok (.ireturn, 1) := by decide +kernel
theorem dX4_accept_17 : decode cX4_accept 17 = .ok (.aload_n 0, 1) := by decide +kernel
theorem dX4_accept_18 : decode cX4_accept 18 = .ok (.invokevirtual 25, 3) := by decide +kernel
theorem dX4_accept_21 : decode cX4_accept 21 = .ok (.iconst 1, 1) := by decide +kernel
theorem dX4_accept_22 : decode cX4_accept 22 = .ok (.ireturn, 1) := by decide +kernel
theorem dX4_blame_0 : decode cX4_blame 0 = .ok (.aload_n 0, 1) := by decide +kernel
theorem dX4_blame_1 : decode cX4_blame 1 = .ok (.getfield 19, 3) := by decide +kernel
theorem dX4_blame_4 : decode cX4_blame 4 = .ok (.ifCond .ne 16, 3) := by decide +kernel
theorem dX4_blame_7 : decode cX4_blame 7 = .ok (.aload_n 0, 1) := by decide +kernel
theorem dX4_blame_8 : decode cX4_blame 8 = .ok (.iload_n 1, 1) := by decide +kernel
theorem dX4_blame_9 : decode cX4_blame 9 = .ok (.putfield 19, 3) := by decide +kernel
theorem dX4_blame_12 : decode cX4_blame 12 = .ok (.aload_n 0, 1) := by decide +kernel
theorem dX4_blame_13 : decode cX4_blame 13 = .ok (.aload_n 0, 1) := by decide +kernel
theorem dX4_blame_14 : decode cX4_blame 14 = .ok (.getfield 110, 3) := by decide +kernel
theorem dX4_blame_17 : decode cX4_blame 17 = .ok (.putfield 113, 3) := by decide +kernel
theorem dX4_blame_20 : decode cX4_blame 20 = .ok (.return_, 1) := by decide +kernel
theorem dX4_advance_0 : decode cX4_advance 0 = .ok (.aload_n 0, 1) := by decide +kernel
theorem dX4_advance_1 : decode cX4_advance 1 = .ok (.getfield 19, 3) := by decide +kernel
theorem dX4_advance_4 : decode cX4_advance 4 = .ok (.ifCond .eq 4, 3) := by decide +kernel
theorem dX4_advance_7 : decode cX4_advance 7 = .ok (.return_, 1) := by decide +kernel
theorem dX4_advance_8 : decode cX4_advance 8 = .ok (.aload_n 0, 1) := by decide +kernel
theorem dX4_advance_9 : decode cX4_advance 9 = .ok (.aload_n 0, 1) := by decide +kernel
theorem dX4_advance_10 : decode cX4_advance 10 = .ok (.getfield 22, 3) := by decide +kernel
theorem dX4_advance_13 : decode cX4_advance 13 = .ok (.putfield 110, 3) := by decide +kernel
theorem dX4_advance_16 : decode cX4_advance 16 = .ok (.aload_n 0, 1) := by decide +kernel
theorem dX4_advance_17 : decode cX4_advance 17 = .ok (.getfield 22, 3) := by decide +kernel
theorem dX4_advance_20 : decode cX4_advance 20 = .ok (.aload_n 0, 1) := by decide +kernel
theorem dX4_advance_21 : decode cX4_advance 21 = .ok (.getfield 15, 3) := by decide +kernel
theorem dX4_advance_24 : decode cX4_advance 24 = .ok (.if_icmp .lt 9, 3) := by decide +kernel
theorem dX4_advance_27 : decode cX4_advance 27 = .ok (.aload_n 0, 1) := by decide +kernel
theorem dX4_advance_28 : decode cX4_advance 28 = .ok (.iconst (-1), 1) := by decide +kernel
theorem dX4_advance_29 : decode cX4_advance 29 = .ok (.putfield 83, 3) := by decide +kernel
theorem dX4_advance_32 : decode cX4_advance 32 = .ok (.return_, 1) := by decide +kernel
theorem dX4_advance_33 : decode cX4_advance 33 = .ok (.aload_n 0, 1) := by decide +kernel
theorem dX4_advance_34 : decode cX4_advance 34 = .ok (.getfield 11, 3) := by decide +kernel
theorem dX4_advance_37 : decode cX4_advance 37 = .ok (.aload_n 0, 1) := by decide +kernel
theorem dX4_advance_38 : decode cX4_advance 38 = .ok (.getfield 22, 3) := by decide +kernel
theorem dX4_advance_41 : decode cX4_advance 41 = .ok (.iaload, 1) := by decide +kernel
theorem dX4_advance_42 : decode cX4_advance 42 = .ok (.istore_n 1, 1) := by decide +kernel
theorem dX4_advance_43 : decode cX4_advance 43 = .ok (.iload_n 1, 1) := by decide +kernel
theorem dX4_advance_44 : decode cX4_advance 44 = .ok (.invokestatic 116, 3) := by decide +kernel
theorem dX4_advance_47 : decode cX4_advance 47 = .ok (.ifCond .eq 8, 3) := by decide +kernel
theorem dX4_advance_50 : decode cX4_advance 50 = .ok (.aload_n 0, 1) := by decide +kernel
theorem dX4_advance_51 : decode cX4_advance 51 = .ok (.invokevirtual 119, 3) := by decide +kernel
theorem dX4_advance_54 : decode cX4_advance 54 = .ok (.return_, 1) := by decide +kernel
theorem dX4_advance_55 : decode cX4_advance 55 = .ok (.aload_n 0, 1) := by decide +kernel
theorem dX4_advance_56 : decode cX4_advance 56 = .ok (.dup, 1) := by decide +kernel
theorem dX4_advance_57 : decode cX4_advance 57 = .ok (.getfield 22, 3) := by decide +kernel
theorem dX4_advance_60 : decode cX4_advance 60 = .ok (.iconst 1, 1) := by decide +kernel
theorem dX4_advance_61 : decode cX4_advance 61 = .ok (.iadd, 1) := by decide +kernel
theorem dX4_advance_62 : decode cX4_advance 62 = .ok (.putfield 22, 3) := by decide +kernel
theorem dX4_advance_65 : decode cX4_advance 65 = .ok (.iload_n 1, 1) := by decide +kernel
theorem dX4_advance_66 : decode cX4_advance 66 = .ok (.bipush 97, 2) := by decide +kernel
theorem dX4_advance_68 : decode cX4_advance 68 = .ok (.if_icmp .lt 9, 3) := by decide +kernel
theorem dX4_advance_71 : decode cX4_advance 71 = .ok (.iload_n 1, 1) := by decide +kernel
theorem dX4_advance_72 : decode cX4_advance 72 = .ok (.bipush 122, 2) := by decide +kernel
theorem dX4_advance_74 : decode cX4_advance 74 = .ok (.if_icmp .le 15, 3) := by decide +kernel
theorem dX4_advance_77 : decode cX4_advance 77 = .ok (.iload_n 1, 1) := by decide +kernel
theorem dX4_advance_78 : decode cX4_advance 78 = .ok (.bipush 44, 2) := by decide +kernel
theorem dX4_advance_80 : decode cX4_advance 80 = .ok (.if_icmp .eq 9, 3) := by decide +kernel
theorem dX4_advance_83 : decode cX4_advance 83 = .ok (.iload_n 1, 1) := by decide +kernel
theorem dX4_advance_84 : decode cX4_advance 84 = .ok (.bipush 59, 2) := by decide +kernel
theorem dX4_advance_86 : decode cX4_advance 86 = .ok (.if_icmp .ne 7, 3) := by decide +kernel
theorem dX4_advance_89 : decode cX4_advance 89 = .ok (.iconst 1, 1) := by decide +kernel
theorem dX4_advance_90 : decode cX4_advance 90 = .ok (.goto 4, 3) := by decide +kernel
theorem dX4_advance_93 : decode cX4_advance 93 = .ok (.iconst 0, 1) := by decide +kernel
theorem dX4_advance_94 : decode cX4_advance 94 = .ok (.istore_n 2, 1) := by decide +kernel
theorem dX4_advance_95 : decode cX4_advance 95 = .ok (.aload_n 0, 1) := by decide +kernel
theorem dX4_advance_96 : decode cX4_advance 96 = .ok (.iload_n 2, 1) := by decide +kernel
theorem dX4_advance_97 : decode cX4_advance 97 = .ok (.ifCond .eq 7, 3) := by decide +kernel
theorem dX4_advance_100 : decode cX4_advance 100 = .ok (.iload_n 1, 1) := by decide +kernel
theorem dX4_advance_101 : decode cX4_advance 101 = .ok (.goto 5, 3) := by decide +kernel
theorem dX4_advance_104 : decode cX4_advance 104 = .ok (.bipush (-2), 2) := by decide +kernel
theorem dX4_advance_106 : decode cX4_advance 106 = .ok (.putfield 83, 3) := by decide +kernel
theorem dX4_advance_109 : decode cX4_advance 109 = .ok (.return_, 1) := by decide +kernel
theorem dX4_takeFigures_0 : decode cX4_takeFigures 0 = .ok (.aload_n 0, 1) := by decide +kernel
theorem dX4_takeFigures_1 : decode cX4_takeFigures 1 = .ok (.iconst 0, 1) := by decide +kernel
theorem dX4_takeFigures_2 : decode cX4_takeFigures 2 = .ok (.putfield 107, 3) := by decide +kernel
theorem dX4_takeFigures_5 : decode cX4_takeFigures 5 = .ok (.aload_n 0, 1) := by decide +kernel
theorem dX4_takeFigures_6 : decode cX4_takeFigures 6 = .ok (.getfield 22, 3) := by decide +kernel
theorem dX4_takeFigures_9 : decode cX4_takeFigures 9 = .ok (.aload_n 0, 1) := by decide +kernel
theorem dX4_takeFigures_10 : decode cX4_takeFigures 10 = .ok (.getfield 15, 3) := by decide +kernel
theorem dX4_takeFigures_13 : decode cX4_takeFigures 13 = .ok (.if_icmp .ge 55, 3) := by decide +kernel
theorem dX4_takeFigures_16 : decode cX4_takeFigures 16 = .ok (.aload_n 0, 1) := by decide +kernel
theorem dX4_takeFigures_17 : decode cX4_takeFigures 17 = .ok (.getfield 11, 3) := by decide +kernel
theorem dX4_takeFigures_20 : decode cX4_takeFigures 20 = .ok (.aload_n 0, 1) := by decide +kernel
theorem dX4_takeFigures_21 : decode cX4_takeFigures 21 = .ok (.getfield 22, 3) := by decide +kernel
theorem dX4_takeFigures_24 : decode cX4_takeFigures 24 = .ok (.iaload, 1) := by decide +kernel
theorem dX4_takeFigures_25 : decode cX4_takeFigures 25 = .ok (.invokestatic 116, 3) := by decide +kernel
theorem dX4_takeFigures_28 : decode cX4_takeFigures 28 = .ok (.ifCond .eq 40, 3) := by decide +kernel
theorem dX4_takeFigures_31 : decode cX4_takeFigures 31 = .ok (.aload_n 0, 1) := by decide +kernel
theorem dX4_takeFigures_32 : decode cX4_takeFigures 32 = .ok (.bipush 10, 2) := by decide +kernel
theorem dX4_takeFigures_34 : decode cX4_takeFigures 34 = .ok (.aload_n 0, 1) := by decide +kernel
theorem dX4_takeFigures_35 : decode cX4_takeFigures 35 = .ok (.getfield 107, 3) := by decide +kernel
theorem dX4_takeFigures_38 : decode cX4_takeFigures 38 = .ok (.imul, 1) := by decide +kernel
theorem dX4_takeFigures_39 : decode cX4_takeFigures 39 = .ok (.aload_n 0, 1) := by decide +kernel
theorem dX4_takeFigures_40 : decode cX4_takeFigures 40 = .ok (.getfield 11, 3) := by decide +kernel
theorem dX4_takeFigures_43 : decode cX4_takeFigures 43 = .ok (.aload_n 0, 1) := by decide +kernel
theorem dX4_takeFigures_44 : decode cX4_takeFigures 44 = .ok (.getfield 22, 3) := by decide +kernel
theorem dX4_takeFigures_47 : decode cX4_takeFigures 47 = .ok (.iaload, 1) := by decide +kernel
theorem dX4_takeFigures_48 : decode cX4_takeFigures 48 = .ok (.iadd, 1) := by decide +kernel
theorem dX4_takeFigures_49 : decode cX4_takeFigures 49 = .ok (.bipush 48, 2) := by decide +kernel
theorem dX4_takeFigures_51 : decode cX4_takeFigures 51 = .ok (.isub, 1) := by decide +kernel
theorem dX4_takeFigures_52 : decode cX4_takeFigures 52 = .ok (.putfield 107, 3) := by decide +kernel
theorem dX4_takeFigures_55 : decode cX4_takeFigures 55 = .ok (.aload_n 0, 1) := by decide +kernel
theorem dX4_takeFigures_56 : decode cX4_takeFigures 56 = .ok (.dup, 1) := by decide +kernel
theorem dX4_takeFigures_57 : decode cX4_takeFigures 57 = .ok (.getfield 22, 3) := by decide +kernel
theorem dX4_takeFigures_60 : decode cX4_takeFigures 60 = .ok (.iconst 1, 1) := by decide +kernel
theorem dX4_takeFigures_61 : decode cX4_takeFigures 61 = .ok (.iadd, 1) := by decide +kernel
theorem dX4_takeFigures_62 : decode cX4_takeFigures 62 = .ok (.putfield 22, 3) := by decide +kernel
theorem dX4_takeFigures_65 : decode cX4_takeFigures 65 = .ok (.goto (-60), 3) := by decide +kernel
theorem dX4_takeFigures_68 : decode cX4_takeFigures 68 = .ok (.aload_n 0, 1) := by decide +kernel
theorem dX4_takeFigures_69 : decode cX4_takeFigures 69 = .ok (.aload_n 0, 1) := by decide +kernel
theorem dX4_takeFigures_70 : decode cX4_takeFigures 70 = .ok (.getfield 22, 3) := by decide +kernel
theorem dX4_takeFigures_73 : decode cX4_takeFigures 73 = .ok (.aload_n 0, 1) := by decide +kernel
theorem dX4_takeFigures_74 : decode cX4_takeFigures 74 = .ok (.getfield 110, 3) := by decide +kernel
theorem dX4_takeFigures_77 : decode cX4_takeFigures 77 = .ok (.isub, 1) := by decide +kernel
theorem dX4_takeFigures_78 : decode cX4_takeFigures 78 = .ok (.iconst 3, 1) := by decide +kernel
theorem dX4_takeFigures_79 : decode cX4_takeFigures 79 = .ok (.if_icmp .gt 8, 3) := by decide +kernel
theorem dX4_takeFigures_82 : decode cX4_takeFigures 82 = .ok (.bipush (-3), 2) := by decide +kernel
theorem dX4_takeFigures_84 : decode cX4_takeFigures 84 = .ok (.goto 5, 3) := by decide +kernel
theorem dX4_takeFigures_87 : decode cX4_takeFigures 87 = .ok (.bipush (-2), 2) := by decide +kernel
theorem dX4_takeFigures_89 : decode cX4_takeFigures 89 = .ok (.putfield 83, 3) := by decide +kernel
theorem dX4_takeFigures_92 : decode cX4_takeFigures 92 = .ok (.return_, 1) := by decide +kernel
theorem dX4_isFigure_0 : decode cX4_isFigure 0 = .ok (.iload_n 0, 1) := by decide +kernel
theorem dX4_isFigure_1 : decode cX4_isFigure 1 = .ok (.bipush 48, 2) := by decide +kernel
theorem dX4_isFigure_3 : decode cX4_isFigure 3 = .ok (.if_icmp .lt 13, 3) := by decide +kernel
theorem dX4_isFigure_6 : decode cX4_isFigure 6 = .ok (.iload_n 0, 1) := by decide +kernel
theorem dX4_isFigure_7 : decode cX4_isFigure 7 = .ok (.bipush 57, 2) := by decide +kernel
theorem dX4_isFigure_9 : decode cX4_isFigure 9 = .ok (.if_icmp .gt 7, 3) := by decide +kernel
theorem dX4_isFigure_12 : decode cX4_isFigure 12 = .ok (.iconst 1, 1) := by decide +kernel
theorem dX4_isFigure_13 : decode cX4_isFigure 13 = .ok (.goto 4, 3) := by decide +kernel
theorem dX4_isFigure_16 : decode cX4_isFigure 16 = .ok (.iconst 0, 1) := by decide +kernel
theorem dX4_isFigure_17 : decode cX4_isFigure 17 = .ok (.ireturn, 1) := by decide +kernel
theorem dX5_init_0 : decode cX5_init 0 = .ok (.aload_n 0, 1) := by decide +kernel
theorem dX5_init_1 : decode cX5_init 1 = .ok (.invokespecial 3, 3) := by decide +kernel
theorem dX5_init_4 : decode cX5_init 4 = .ok (.aload_n 0, 1) := by decide +kernel
theorem dX5_init_5 : decode cX5_init 5 = .ok (.bipush 40, 2) := by decide +kernel
theorem dX5_init_7 : decode cX5_init 7 = .ok (.newarray .int, 2) := by decide +kernel
theorem dX5_init_9 : decode cX5_init 9 = .ok (.putfield 9, 3) := by decide +kernel
theorem dX5_init_12 : decode cX5_init 12 = .ok (.aload_n 0, 1) := by decide +kernel
theorem dX5_init_13 : decode cX5_init 13 = .ok (.iconst 1, 1) := by decide +kernel
theorem dX5_init_14 : decode cX5_init 14 = .ok (.putfield 15, 3) := by decide +kernel
theorem dX5_init_17 : decode cX5_init 17 = .ok (.return_, 1) := by decide +kernel
theorem dX5_make_0 : decode cX5_make 0 = .ok (.aload_n 0, 1) := by decide +kernel
theorem dX5_make_1 : decode cX5_make 1 = .ok (.iconst 0, 1) := by decide +kernel
theorem dX5_make_2 : decode cX5_make 2 = .ok (.putfield 15, 3) := by decide +kernel
theorem dX5_make_5 : decode cX5_make 5 = .ok (.aload_n 0, 1) := by decide +kernel
theorem dX5_make_6 : decode cX5_make 6 = .ok (.iload_n 1, 1) := by decide +kernel
theorem dX5_make_7 : decode cX5_make 7 = .ok (.putfield 19, 3) := by decide +kernel
theorem dX5_make_10 : decode cX5_make 10 = .ok (.aload_n 0, 1) := by decide +kernel
theorem dX5_make_11 : decode cX5_make 11 = .ok (.iload_n 2, 1) := by decide +kernel
theorem dX5_make_12 : decode cX5_make 12 = .ok (.putfield 23, 3) := by decide +kernel
theorem dX5_make_15 : decode cX5_make 15 = .ok (.iconst 0, 1) := by decide +kernel
theorem dX5_make_16 : decode cX5_make 16 = .ok (.istore_n 3, 1) := by decide +kernel
theorem dX5_make_17 : decode cX5_make 17 = .ok (.iload_n 3, 1) := by decide +kernel
theorem dX5_make_18 : decode cX5_make 18 = .ok (.aload_n 0, 1) := by decide +kernel
theorem dX5_make_19 : decode cX5_make 19 = .ok (.getfield 9, 3) := by decide +kernel
theorem dX5_make_22 : decode cX5_make 22 = .ok (.arraylength, 1) := by decide +kernel
theorem dX5_make_23 : decode cX5_make 23 = .ok (.if_icmp .ge 16, 3) := by decide +kernel
theorem dX5_make_26 : decode cX5_make 26 = .ok (.aload_n 0, 1) := by decide +kernel
theorem dX5_make_27 : decode cX5_make 27 = .ok (.getfield 9, 3) := by decide +kernel
theorem dX5_make_30 : decode cX5_make 30 = .ok (.iload_n 3, 1) := by decide +kernel
theorem dX5_make_31 : decode cX5_make 31 = .ok (.iconst 0, 1) := by decide +kernel
theorem dX5_make_32 : decode cX5_make 32 = .ok (.iastore, 1) := by decide +kernel
theorem dX5_make_33 : decode cX5_make 33 = .ok (.iinc 3 1, 3) := by decide +kernel
theorem dX5_make_36 : decode cX5_make 36 = .ok (.goto (-19), 3) := by decide +kernel
theorem dX5_make_39 : decode cX5_make 39 = .ok (.return_, 1) := by decide +kernel
theorem dX5_put_0 : decode cX5_put 0 = .ok (.aload_n 0, 1) := by decide +kernel
theorem dX5_put_1 : decode cX5_put 1 = .ok (.getfield 9, 3) := by decide +kernel
theorem dX5_put_4 : decode cX5_put 4 = .ok (.iload_n 1, 1) := by decide +kernel
theorem dX5_put_5 : decode cX5_put 5 = .ok (.aload_n 0, 1) := by decide +kernel
theorem dX5_put_6 : decode cX5_put 6 = .ok (.iload_n 2, 1) := by decide +kernel
theorem dX5_put_7 : decode cX5_put 7 = .ok (.invokevirtual 26, 3) := by decide +kernel
theorem dX5_put_10 : decode cX5_put 10 = .ok (.iastore, 1) := by decide +kernel
theorem dX5_put_11 : decode cX5_put 11 = .ok (.aload_n 0, 1) := by decide +kernel
theorem dX5_put_12 : decode cX5_put 12 = .ok (.getfield 9, 3) := by decide +kernel
theorem dX5_put_15 : decode cX5_put 15 = .ok (.iload_n 1, 1) := by decide +kernel
theorem dX5_put_16 : decode cX5_put 16 = .ok (.iaload, 1) := by decide +kernel
theorem dX5_put_17 : decode cX5_put 17 = .ok (.ireturn, 1) := by decide +kernel
theorem dX5_cut_0 : decode cX5_cut 0 = .ok (.aload_n 0, 1) := by decide +kernel
theorem dX5_cut_1 : decode cX5_cut 1 = .ok (.getfield 19, 3) := by decide +kernel
theorem dX5_cut_4 : decode cX5_cut 4 = .ok (.ifCond .ne 6, 3) := by decide +kernel
theorem dX5_cut_7 : decode cX5_cut 7 = .ok (.iload_n 1, 1) := by decide +kernel
theorem dX5_cut_8 : decode cX5_cut 8 = .ok (.i2b, 1) := by decide +kernel
theorem dX5_cut_9 : decode cX5_cut 9 = .ok (.ireturn, 1) := by decide +kernel
theorem dX5_cut_10 : decode cX5_cut 10 = .ok (.aload_n 0, 1) := by decide +kernel
theorem dX5_cut_11 : decode cX5_cut 11 = .ok (.getfield 19, 3) := by decide +kernel
theorem dX5_cut_14 : decode cX5_cut 14 = .ok (.iconst 1, 1) := by decide +kernel
theorem dX5_cut_15 : decode cX5_cut 15 = .ok (.if_icmp .ne 8, 3) := by decide +kernel
theorem dX5_cut_18 : decode cX5_cut 18 = .ok (.iload_n 1, 1) := by decide +kernel
theorem dX5_cut_19 : decode cX5_cut 19 = .ok (.i2s, 1) := by decide +kernel
theorem dX5_cut_20 : decode cX5_cut 20 = .ok (.goto 4, 3) := by decide +kernel
theorem dX5_cut_23 : decode cX5_cut 23 = .ok (.iload_n 1, 1) := by decide +kernel
theorem dX5_cut_24 : decode cX5_cut 24 = .ok (.ireturn, 1) := by decide +kernel
theorem dX5_holds_0 : decode cX5_holds 0 = .ok (.iload_n 1, 1) := by decide +kernel
theorem dX5_holds_1 : decode cX5_holds 1 = .ok (.ifCond .lt 29, 3) := by decide +kernel
theorem dX5_holds_4 : decode cX5_holds 4 = .ok (.iload_n 2, 1) := by decide +kernel
theorem dX5_holds_5 : decode cX5_holds 5 = .ok (.ifCond .lt 25, 3) := by decide +kernel
theorem dX5_holds_8 : decode cX5_holds 8 = .ok (.iload_n 1, 1) := by decide +kernel
theorem dX5_holds_9 : decode cX5_holds 9 = .ok (.aload_n 0, 1) := by decide +kernel
theorem dX5_holds_10 : decode cX5_holds 10 = .ok (.getfield 23, 3) := by decide +kernel
theorem dX5_holds_13 : decode cX5_holds 13 = .ok (.if_icmp .gt 17, 3) := by decide +kernel
theorem dX5_holds_16 : decode cX5_holds 16 = .ok (.iload_n 2, 1) := by decide +kernel
theorem dX5_holds_17 : decode cX5_holds 17 = .ok (.aload_n 0, 1) := by decide +kernel
theorem dX5_holds_18 : decode cX5_holds 18 = .ok (.getfield 23, 3) := by decide +kernel
theorem dX5_holds_21 : decode cX5_holds 21 = .ok (.iload_n 1, 1) := by decide +kernel
theorem dX5_holds_22 : decode cX5_holds 22 = .ok (.isub, 1) := by decide +kernel
theorem dX5_holds_23 : decode cX5_holds 23 = .ok (.if_icmp .gt 7, 3) := by decide +kernel
theorem dX5_holds_26 : decode cX5_holds 26 = .ok (.iconst 1, 1) := by decide +kernel
theorem dX5_holds_27 : decode cX5_holds 27 = .ok (.goto 4, 3) := by decide +kernel
theorem dX5_holds_30 : decode cX5_holds 30 = .ok (.iconst 0, 1) := by decide +kernel
theorem dX5_holds_31 : decode cX5_holds 31 = .ok (.ireturn, 1) := by decide +kernel
theorem dX6_init_0 : decode cX6_init 0 = .ok (.aload_n 0, 1) := by decide +kernel
theorem dX6_init_1 : decode cX6_init 1 = .ok (.invokespecial 3, 3) := by decide +kernel
theorem dX6_init_4 : decode cX6_init 4 = .ok (.return_, 1) := by decide +kernel
theorem dX6_become_0 : decode cX6_become 0 = .ok (.aload_n 0, 1) := by decide +kernel
theorem dX6_become_1 : decode cX6_become 1 = .ok (.aload_n 1, 1) := by decide +kernel
theorem dX6_become_2 : decode cX6_become 2 = .ok (.getfield 9, 3) := by decide +kernel
theorem dX6_become_5 : decode cX6_become 5 = .ok (.putfield 9, 3) := by decide +kernel
theorem dX6_become_8 : decode cX6_become 8 = .ok (.aload_n 0, 1) := by decide +kernel
theorem dX6_become_9 : decode cX6_become 9 = .ok (.aload_n 1, 1) := by decide +kernel
theorem dX6_become_10 : decode cX6_become 10 = .ok (.getfield 15, 3) := by decide +kernel
theorem dX6_become_13 : decode cX6_become 13 = .ok (.putfield 15, 3) := by decide +kernel
theorem dX6_become_16 : decode cX6_become 16 = .ok (.aload_n 0, 1) := by decide +kernel
theorem dX6_become_17 : decode cX6_become 17 = .ok (.aload_n 1, 1) := by decide +kernel
theorem dX6_become_18 : decode cX6_become 18 = .ok (.getfield 18, 3) := by decide +kernel
theorem dX6_become_21 : decode cX6_become 21 = .ok (.putfield 18, 3) := by decide +kernel
theorem dX6_become_24 : decode cX6_become 24 = .ok (.aload_n 0, 1) := by decide +kernel
theorem dX6_become_25 : decode cX6_become 25 = .ok (.aload_n 1, 1) := by decide +kernel
theorem dX6_become_26 : decode cX6_become 26 = .ok (.getfield 21, 3) := by decide +kernel
theorem dX6_become_29 : decode cX6_become 29 = .ok (.putfield 21, 3) := by decide +kernel
theorem dX6_become_32 : decode cX6_become 32 = .ok (.aload_n 0, 1) := by decide +kernel
theorem dX6_become_33 : decode cX6_become 33 = .ok (.aload_n 1, 1) := by decide +kernel
theorem dX6_become_34 : decode cX6_become 34 = .ok (.getfield 24, 3) := by decide +kernel
theorem dX6_become_37 : decode cX6_become 37 = .ok (.putfield 24, 3) := by decide +kernel
theorem dX6_become_40 : decode cX6_become 40 = .ok (.aload_n 0, 1) := by decide +kernel
theorem dX6_become_41 : decode cX6_become 41 = .ok (.aload_n 1, 1) := by decide +kernel
theorem dX6_become_42 : decode cX6_become 42 = .ok (.getfield 27, 3) := by decide +kernel
theorem dX6_become_45 : decode cX6_become 45 = .ok (.putfield 27, 3) := by decide +kernel
theorem dX6_become_48 : decode cX6_become 48 = .ok (.aload_n 0, 1) := by decide +kernel
theorem dX6_become_49 : decode cX6_become 49 = .ok (.aload_n 1, 1) := by decide +kernel
theorem dX6_become_50 : decode cX6_become 50 = .ok (.getfield 30, 3) := by decide +kernel
theorem dX6_become_53 : decode cX6_become 53 = .ok (.putfield 30, 3) := by decide +kernel
theorem dX6_become_56 : decode cX6_become 56 = .ok (.return_, 1) := by decide +kernel
theorem dX6_begin_0 : decode cX6_begin 0 = .ok (.aload_n 0, 1) := by decide +kernel
theorem dX6_begin_1 : decode cX6_begin 1 = .ok (.iload_n 1, 1) := by decide +kernel
theorem dX6_begin_2 : decode cX6_begin 2 = .ok (.putfield 9, 3) := by decide +kernel
theorem dX6_begin_5 : decode cX6_begin 5 = .ok (.aload_n 0, 1) := by decide +kernel
theorem dX6_begin_6 : decode cX6_begin 6 = .ok (.iload_n 2, 1) := by decide +kernel
theorem dX6_begin_7 : decode cX6_begin 7 = .ok (.putfield 15, 3) := by decide +kernel
theorem dX6_begin_10 : decode cX6_begin 10 = .ok (.aload_n 0, 1) := by decide +kernel
theorem dX6_begin_11 : decode cX6_begin 11 = .ok (.iload_n 3, 1) := by decide +kernel
theorem dX6_begin_12 : decode cX6_begin 12 = .ok (.putfield 18, 3) := by decide +kernel
theorem dX6_begin_15 : decode cX6_begin 15 = .ok (.return_, 1) := by decide +kernel
theorem dX6_minutesFor_0 : decode cX6_minutesFor 0 = .ok (.aload_n 0, 1) := by decide +kernel
theorem dX6_minutesFor_1 : decode cX6_minutesFor 1 = .ok (.getfield 15, 3) := by decide +kernel
theorem dX6_minutesFor_4 : decode cX6_minutesFor 4 = .ok (.aload_n 0, 1) := by decide +kernel
theorem dX6_minutesFor_5 : decode cX6_minutesFor 5 = .ok (.getfield 21, 3) := by decide +kernel
theorem dX6_minutesFor_8 : decode cX6_minutesFor 8 = .ok (.iconst 2, 1) := by decide +kernel
theorem dX6_minutesFor_9 : decode cX6_minutesFor 9 = .ok (.aload_n 0, 1) := by decide +kernel
theorem dX6_minutesFor_10 : decode cX6_minutesFor 10 = .ok (.getfield 18, 3) := by decide +kernel
theorem dX6_minutesFor_13 : decode cX6_minutesFor 13 = .ok (.imul, 1) := by decide +kernel
theorem dX6_minutesFor_14 : decode cX6_minutesFor 14 = .ok (.iadd, 1) := by decide +kernel
theorem dX6_minutesFor_15 : decode cX6_minutesFor 15 = .ok (.bipush 8, 2) := by decide +kernel
theorem dX6_minutesFor_17 : decode cX6_minutesFor 17 = .ok (.idiv, 1) := by decide +kernel
theorem dX6_minutesFor_18 : decode cX6_minutesFor 18 = .ok (.iadd, 1) := by decide +kernel
theorem dX6_minutesFor_19 : decode cX6_minutesFor 19 = .ok (.istore_n 2, 1) := by decide +kernel
theorem dX6_minutesFor_20 : decode cX6_minutesFor 20 = .ok (.aload_n 0, 1) := by decide +kernel
theorem dX6_minutesFor_21 : decode cX6_minutesFor 21 = .ok (.getfield 9, 3) := by decide +kernel
theorem dX6_minutesFor_24 : decode cX6_minutesFor 24 = .ok (.iconst 2, 1) := by decide +kernel
theorem dX6_minutesFor_25 : decode cX6_minutesFor 25 = .ok (.if_icmp .ne 13, 3) := by decide +kernel
theorem dX6_minutesFor_28 : decode cX6_minutesFor 28 = .ok (.iload_n 1, 1) := by decide +kernel
theorem dX6_minutesFor_29 : decode cX6_minutesFor 29 = .ok (.iconst 1, 1) := by decide +kernel
theorem dX6_minutesFor_30 : decode cX6_minutesFor 30 = .ok (.iload_n 2, 1) := by decide +kernel
theorem dX6_minutesFor_31 : decode cX6_minutesFor 31 = .ok (.iconst 1, 1) := by decide +kernel
theorem dX6_minutesFor_32 : decode cX6_minutesFor 32 = .ok (.isub, 1) := by decide +kernel
theorem dX6_minutesFor_33 : decode cX6_minutesFor 33 = .ok (.invokestatic 33, 3) := by decide +kernel
theorem dX6_minutesFor_36 : decode cX6_minutesFor 36 = .ok (.imul, 1) := by decide +kernel
theorem dX6_minutesFor_37 : decode cX6_minutesFor 37 = .ok (.ireturn, 1) := by decide +kernel
theorem dX6_minutesFor_38 : decode cX6_minutesFor 38 = .ok (.aload_n 0, 1) := by decide +kernel
theorem dX6_minutesFor_39 : decode cX6_minutesFor 39 = .ok (.getfield 9, 3) := by decide +kernel
theorem dX6_minutesFor_42 : decode cX6_minutesFor 42 = .ok (.iconst 4, 1) := by decide +kernel
theorem dX6_minutesFor_43 : decode cX6_minutesFor 43 = .ok (.if_icmp .eq 11, 3) := by decide +kernel
theorem dX6_minutesFor_46 : decode cX6_minutesFor 46 = .ok (.aload_n 0, 1) := by decide +kernel
theorem dX6_minutesFor_47 : decode cX6_minutesFor 47 = .ok (.getfield 9, 3) := by decide +kernel
theorem dX6_minutesFor_50 : decode cX6_minutesFor 50 = .ok (.iconst 5, 1) := by decide +kernel
theorem dX6_minutesFor_51 : decode cX6_minutesFor 51 = .ok (.if_icmp .ne 9, 3) := by decide +kernel
theorem dX6_minutesFor_54 : decode cX6_minutesFor 54 = .ok (.iload_n 1, 1) := by decide +kernel
theorem dX6_minutesFor_55 : decode cX6_minutesFor 55 = .ok (.iload_n 2, 1) := by decide +kernel
theorem dX6_minutesFor_56 : decode cX6_minutesFor 56 = .ok (.iconst 3, 1) := by decide +kernel
theorem dX6_minutesFor_57 : decode cX6_minutesFor 57 = .ok (.iadd, 1) := by decide +kernel
theorem dX6_minutesFor_58 : decode cX6_minutesFor 58 = .ok (.imul, 1) := by decide +kernel
theorem dX6_minutesFor_59 : decode cX6_minutesFor 59 = .ok (.ireturn, 1) := by decide +kernel
theorem dX6_minutesFor_60 : decode cX6_minutesFor 60 = .ok (.iload_n 1, 1) := by decide +kernel
theorem dX6_minutesFor_61 : decode cX6_minutesFor 61 = .ok (.iload_n 2, 1) := by decide +kernel
theorem dX6_minutesFor_62 : decode cX6_minutesFor 62 = .ok (.imul, 1) := by decide +kernel
theorem dX6_minutesFor_63 : decode cX6_minutesFor 63 = .ok (.ireturn, 1) := by decide +kernel
theorem dX6_tiresBy_0 : decode cX6_tiresBy 0 = .ok (.aload_n 0, 1) := by decide +kernel
theorem dX6_tiresBy_1 : decode cX6_tiresBy 1 = .ok (.getfield 9, 3) := by decide +kernel
theorem dX6_tiresBy_4 : decode cX6_tiresBy 4 = .ok (.iconst 4, 1) := by decide +kernel
theorem dX6_tiresBy_5 : decode cX6_tiresBy 5 = .ok (.if_icmp .eq 15, 3) := by decide +kernel
theorem dX6_tiresBy_8 : decode cX6_tiresBy 8 = .ok (.aload_n 0, 1) := by decide +kernel
theorem dX6_tiresBy_9 : decode cX6_tiresBy 9 = .ok (.getfield 9, 3) := by decide +kernel
theorem dX6_tiresBy_12 : decode cX6_tiresBy 12 = .ok (.iconst 3, 1) := by decide +kernel
theorem dX6_tiresBy_13 : decode cX6_tiresBy 13 = .ok (.if_icmp .ne 9, 3) := by decide +kernel
theorem dX6_tiresBy_16 : decode cX6_tiresBy 16 = .ok (.iload_n 2, 1) := by decide +kernel
theorem dX6_tiresBy_17 : decode cX6_tiresBy 17 = .ok (.ifCond .eq 5, 3) := by decide +kernel
theorem dX6_tiresBy_20 : decode cX6_tiresBy 20 = .ok (.iconst 0, 1) := by decide +kernel
theorem dX6_tiresBy_21 : decode cX6_tiresBy 21 = .ok (.ireturn, 1) := by decide +kernel
theorem dX6_tiresBy_22 : decode cX6_tiresBy 22 = .ok (.iload_n 1, 1) := by decide +kernel
theorem dX6_tiresBy_23 : decode cX6_tiresBy 23 = .ok (.iconst 1, 1) := by decide +kernel
theorem dX6_tiresBy_24 : decode cX6_tiresBy 24 = .ok (.aload_n 0, 1) := by decide +kernel
theorem dX6_tiresBy_25 : decode cX6_tiresBy 25 = .ok (.getfield 18, 3) := by decide +kernel
theorem dX6_tiresBy_28 : decode cX6_tiresBy 28 = .ok (.iconst 2, 1) := by decide +kernel
theorem dX6_tiresBy_29 : decode cX6_tiresBy 29 = .ok (.idiv, 1) := by decide +kernel
theorem dX6_tiresBy_30 : decode cX6_tiresBy 30 = .ok (.iadd, 1) := by decide +kernel
theorem dX6_tiresBy_31 : decode cX6_tiresBy 31 = .ok (.imul, 1) := by decide +kernel
theorem dX6_tiresBy_32 : decode cX6_tiresBy 32 = .ok (.istore_n 3, 1) := by decide +kernel
theorem dX6_tiresBy_33 : decode cX6_tiresBy 33 = .ok (.aload_n 0, 1) := by decide +kernel
theorem dX6_tiresBy_34 : decode cX6_tiresBy 34 = .ok (.getfield 9, 3) := by decide +kernel
theorem dX6_tiresBy_37 : decode cX6_tiresBy 37 = .ok (.iconst 5, 1) := by decide +kernel
theorem dX6_tiresBy_38 : decode cX6_tiresBy 38 = .ok (.if_icmp .ne 9, 3) := by decide +kernel
theorem dX6_tiresBy_41 : decode cX6_tiresBy 41 = .ok (.iload_n 3, 1) := by decide +kernel
theorem dX6_tiresBy_42 : decode cX6_tiresBy 42 = .ok (.iload_n 1, 1) := by decide +kernel
theorem dX6_tiresBy_43 : decode cX6_tiresBy 43 = .ok (.iadd, 1) := by decide +kernel
theorem dX6_tiresBy_44 : decode cX6_tiresBy 44 = .ok (.goto 4, 3) := by decide +kernel
theorem dX6_tiresBy_47 : decode cX6_tiresBy 47 = .ok (.iload_n 3, 1) := by decide +kernel
theorem dX6_tiresBy_48 : decode cX6_tiresBy 48 = .ok (.ireturn, 1) := by decide +kernel
theorem dX6_leaveAt_0 : decode cX6_leaveAt 0 = .ok (.iload_n 1, 1) := by decide +kernel
theorem dX6_leaveAt_1 : decode cX6_leaveAt 1 = .ok (.aload_n 0, 1) := by decide +kernel
theorem dX6_leaveAt_2 : decode cX6_leaveAt 2 = .ok (.getfield 30, 3) := by decide +kernel
theorem dX6_leaveAt_5 : decode cX6_leaveAt 5 = .ok (.isub, 1) := by decide +kernel
theorem dX6_leaveAt_6 : decode cX6_leaveAt 6 = .ok (.istore_n 2, 1) := by decide +kernel
theorem dX6_leaveAt_7 : decode cX6_leaveAt 7 = .ok (.aload_n 0, 1) := by decide +kernel
theorem dX6_leaveAt_8 : decode cX6_leaveAt 8 = .ok (.dup, 1) := by decide +kernel
theorem dX6_leaveAt_9 : decode cX6_leaveAt 9 = .ok (.getfield 27, 3) := by decide +kernel
theorem dX6_leaveAt_12 : decode cX6_leaveAt 12 = .ok (.iload_n 2, 1) := by decide +kernel
theorem dX6_leaveAt_13 : decode cX6_leaveAt 13 = .ok (.iadd, 1) := by decide +kernel
theorem dX6_leaveAt_14 : decode cX6_leaveAt 14 = .ok (.putfield 27, 3) := by decide +kernel
theorem dX6_leaveAt_17 : decode cX6_leaveAt 17 = .ok (.aload_n 0, 1) := by decide +kernel
theorem dX6_leaveAt_18 : decode cX6_leaveAt 18 = .ok (.iconst 0, 1) := by decide +kernel
theorem dX6_leaveAt_19 : decode cX6_leaveAt 19 = .ok (.aload_n 0, 1) := by decide +kernel
theorem dX6_leaveAt_20 : decode cX6_leaveAt 20 = .ok (.getfield 21, 3) := by decide +kernel
theorem dX6_leaveAt_23 : decode cX6_leaveAt 23 = .ok (.iload_n 2, 1) := by decide +kernel
theorem dX6_leaveAt_24 : decode cX6_leaveAt 24 = .ok (.invokestatic 39, 3) := by decide +kernel
theorem dX6_leaveAt_27 : decode cX6_leaveAt 27 = .ok (.isub, 1) := by decide +kernel
theorem dX6_leaveAt_28 : decode cX6_leaveAt 28 = .ok (.invokestatic 33, 3) := by decide +kernel
theorem dX6_leaveAt_31 : decode cX6_leaveAt 31 = .ok (.putfield 21, 3) := by decide +kernel
theorem dX6_leaveAt_34 : decode cX6_leaveAt 34 = .ok (.aload_n 0, 1) := by decide +kernel
theorem dX6_leaveAt_35 : decode cX6_leaveAt 35 = .ok (.iload_n 1, 1) := by decide +kernel
theorem dX6_leaveAt_36 : decode cX6_leaveAt 36 = .ok (.putfield 24, 3) := by decide +kernel
theorem dX6_leaveAt_39 : decode cX6_leaveAt 39 = .ok (.return_, 1) := by decide +kernel
theorem dX6_mendedBy_0 : decode cX6_mendedBy 0 = .ok (.iload_n 0, 1) := by decide +kernel
theorem dX6_mendedBy_1 : decode cX6_mendedBy 1 = .ok (.iconst 2, 1) := by decide +kernel
theorem dX6_mendedBy_2 : decode cX6_mendedBy 2 = .ok (.if_icmp .ge 5, 3) := by decide +kernel
theorem dX6_mendedBy_5 : decode cX6_mendedBy 5 = .ok (.iconst 0, 1) := by decide +kernel
theorem dX6_mendedBy_6 : decode cX6_mendedBy 6 = .ok (.ireturn, 1) := by decide +kernel
theorem dX6_mendedBy_7 : decode cX6_mendedBy 7 = .ok (.iload_n 0, 1) := by decide +kernel
theorem dX6_mendedBy_8 : decode cX6_mendedBy 8 = .ok (.bipush 10, 2) := by decide +kernel
theorem dX6_mendedBy_10 : decode cX6_mendedBy 10 = .ok (.if_icmp .ge 5, 3) := by decide +kernel
theorem dX6_mendedBy_13 : decode cX6_mendedBy 13 = .ok (.iconst 2, 1) := by decide +kernel
theorem dX6_mendedBy_14 : decode cX6_mendedBy 14 = .ok (.ireturn, 1) := by decide +kernel
theorem dX6_mendedBy_15 : decode cX6_mendedBy 15 = .ok (.iload_n 0, 1) := by decide +kernel
theorem dX6_mendedBy_16 : decode cX6_mendedBy 16 = .ok (.bipush 20, 2) := by decide +kernel
theorem dX6_mendedBy_18 : decode cX6_mendedBy 18 = .ok (.if_icmp .gt 8, 3) := by decide +kernel
theorem dX6_mendedBy_21 : decode cX6_mendedBy 21 = .ok (.bipush 6, 2) := by decide +kernel
theorem dX6_mendedBy_23 : decode cX6_mendedBy 23 = .ok (.goto 4, 3) := by decide +kernel
theorem dX6_mendedBy_26 : decode cX6_mendedBy 26 = .ok (.iconst 4, 1) := by decide +kernel
theorem dX6_mendedBy_27 : decode cX6_mendedBy 27 = .ok (.ireturn, 1) := by decide +kernel
theorem dX7_init_0 : decode cX7_init 0 = .ok (.aload_n 0, 1) := by decide +kernel
theorem dX7_init_1 : decode cX7_init 1 = .ok (.invokespecial 3, 3) := by decide +kernel
theorem dX7_init_4 : decode cX7_init 4 = .ok (.aload_n 0, 1) := by decide +kernel
theorem dX7_init_5 : decode cX7_init 5 = .ok (.bipush 8, 2) := by decide +kernel
theorem dX7_init_7 : decode cX7_init 7 = .ok (.newarray .int, 2) := by decide +kernel
theorem dX7_init_9 : decode cX7_init 9 = .ok (.putfield 9, 3) := by decide +kernel
theorem dX7_init_12 : decode cX7_init 12 = .ok (.aload_n 0, 1) := by decide +kernel
theorem dX7_init_13 : decode cX7_init 13 = .ok (.new 15, 3) := by decide +kernel
theorem dX7_init_16 : decode cX7_init 16 = .ok (.dup, 1) := by decide +kernel
theorem dX7_init_17 : decode cX7_init 17 = .ok (.invokespecial 17, 3) := by decide +kernel
theorem dX7_init_20 : decode cX7_init 20 = .ok (.putfield 18, 3) := by decide +kernel
theorem dX7_init_23 : decode cX7_init 23 = .ok (.return_, 1) := by decide +kernel
theorem dX7_become_0 : decode cX7_become 0 = .ok (.aload_n 0, 1) := by decide +kernel
theorem dX7_become_1 : decode cX7_become 1 = .ok (.aload_n 1, 1) := by decide +kernel
theorem dX7_become_2 : decode cX7_become 2 = .ok (.getfield 22, 3) := by decide +kernel
theorem dX7_become_5 : decode cX7_become 5 = .ok (.putfield 22, 3) := by decide +kernel
theorem dX7_become_8 : decode cX7_become 8 = .ok (.aload_n 0, 1) := by decide +kernel
theorem dX7_become_9 : decode cX7_become 9 = .ok (.aload_n 1, 1) := by decide +kernel
theorem dX7_become_10 : decode cX7_become 10 = .ok (.getfield 26, 3) := by decide +kernel
theorem dX7_become_13 : decode cX7_become 13 = .ok (.putfield 26, 3) := by decide +kernel
theorem dX7_become_16 : decode cX7_become 16 = .ok (.aload_n 0, 1) := by decide +kernel
theorem dX7_become_17 : decode cX7_become 17 = .ok (.aload_n 1, 1) := by decide +kernel
theorem dX7_become_18 : decode cX7_become 18 = .ok (.getfield 30, 3) := by decide +kernel
theorem dX7_become_21 : decode cX7_become 21 = .ok (.putfield 30, 3) := by decide +kernel
theorem dX7_become_24 : decode cX7_become 24 = .ok (.aload_n 0, 1) := by decide +kernel
theorem dX7_become_25 : decode cX7_become 25 = .ok (.aload_n 1, 1) := by decide +kernel
theorem dX7_become_26 : decode cX7_become 26 = .ok (.getfield 33, 3) := by decide +kernel
theorem dX7_become_29 : decode cX7_become 29 = .ok (.putfield 33, 3) := by decide +kernel
theorem dX7_become_32 : decode cX7_become 32 = .ok (.aload_n 0, 1) := by decide +kernel
theorem dX7_become_33 : decode cX7_become 33 = .ok (.aload_n 1, 1) := by decide +kernel
theorem dX7_become_34 : decode cX7_become 34 = .ok (.getfield 36, 3) := by decide +kernel
theorem dX7_become_37 : decode cX7_become 37 = .ok (.putfield 36, 3) := by decide +kernel
theorem dX7_become_40 : decode cX7_become 40 = .ok (.aload_n 0, 1) := by decide +kernel
theorem dX7_become_41 : decode cX7_become 41 = .ok (.aload_n 1, 1) := by decide +kernel
theorem dX7_become_42 : decode cX7_become 42 = .ok (.getfield 39, 3) := by decide +kernel
theorem dX7_become_45 : decode cX7_become 45 = .ok (.putfield 39, 3) := by decide +kernel
theorem dX7_become_48 : decode cX7_become 48 = .ok (.aload_n 1, 1) := by decide +kernel
theorem dX7_become_49 : decode cX7_become 49 = .ok (.getfield 9, 3) := by decide +kernel
theorem dX7_become_52 : decode cX7_become 52 = .ok (.iconst 0, 1) := by decide +kernel
theorem dX7_become_53 : decode cX7_become 53 = .ok (.aload_n 0, 1) := by decide +kernel
theorem dX7_become_54 : decode cX7_become 54 = .ok (.getfield 9, 3) := by decide +kernel
theorem dX7_become_57 : decode cX7_become 57 = .ok (.iconst 0, 1) := by decide +kernel
theorem dX7_become_58 : decode cX7_become 58 = .ok (.aload_n 0, 1) := by decide +kernel
theorem dX7_become_59 : decode cX7_become 59 = .ok (.getfield 9, 3) := by decide +kernel
theorem dX7_become_62 : decode cX7_become 62 = .ok (.arraylength, 1) := by decide +kernel
theorem dX7_become_63 : decode cX7_become 63 = .ok (.invokestatic 42, 3) := by decide +kernel
theorem dX7_become_66 : decode cX7_become 66 = .ok (.aload_n 0, 1) := by decide +kernel
theorem dX7_become_67 : decode cX7_become 67 = .ok (.getfield 18, 3) := by decide +kernel
theorem dX7_become_70 : decode cX7_become 70 = .ok (.aload_n 1, 1) := by decide +kernel
theorem dX7_become_71 : decode cX7_become 71 = .ok (.getfield 18, 3) := by decide +kernel
theorem dX7_become_74 : decode cX7_become 74 = .ok (.invokevirtual 48, 3) := by decide +kernel
theorem dX7_become_77 : decode cX7_become 77 = .ok (.return_, 1) := by decide +kernel
theorem dX7_move_0 : decode cX7_move 0 = .ok (.iload_n 2, 1) := by decide +kernel
theorem dX7_move_1 : decode cX7_move 1 = .ok (.iconst 1, 1) := by decide +kernel
theorem dX7_move_2 : decode cX7_move 2 = .ok (.iadd, 1) := by decide +kernel
theorem dX7_move_3 : decode cX7_move 3 = .ok (.aload_n 0, 1) := by decide +kernel
theorem dX7_move_4 : decode cX7_move 4 = .ok (.getfield 26, 3) := by decide +kernel
theorem dX7_move_7 : decode cX7_move 7 = .ok (.if_icmp .lt 7, 3) := by decide +kernel
theorem dX7_move_10 : decode cX7_move 10 = .ok (.iconst 1, 1) := by decide +kernel
theorem dX7_move_11 : decode cX7_move 11 = .ok (.goto 4, 3) := by decide +kernel
theorem dX7_move_14 : decode cX7_move 14 = .ok (.iconst 0, 1) := by decide +kernel
theorem dX7_move_15 : decode cX7_move 15 = .ok (.istore 5, 2) := by decide +kernel
theorem dX7_move_17 : decode cX7_move 17 = .ok (.aload_n 1, 1) := by decide +kernel
theorem dX7_move_18 : decode cX7_move 18 = .ok (.aload_n 0, 1) := by decide +kernel
theorem dX7_move_19 : decode cX7_move 19 = .ok (.getfield 9, 3) := by decide +kernel
theorem dX7_move_22 : decode cX7_move 22 = .ok (.iload_n 2, 1) := by decide +kernel
theorem dX7_move_23 : decode cX7_move 23 = .ok (.iaload, 1) := by decide +kernel
theorem dX7_move_24 : decode cX7_move 24 = .ok (.invokevirtual 52, 3) := by decide +kernel
theorem dX7_move_27 : decode cX7_move 27 = .ok (.aload_n 1, 1) := by decide +kernel
theorem dX7_move_28 : decode cX7_move 28 = .ok (.iload 5, 2) := by decide +kernel
theorem dX7_move_30 : decode cX7_move 30 = .ok (.ifCond .eq 7, 3) := by decide +kernel
theorem dX7_move_33 : decode cX7_move 33 = .ok (.iconst 3, 1) := by decide +kernel
theorem dX7_move_34 : decode cX7_move 34 = .ok (.goto 4, 3) := by decide +kernel
theorem dX7_move_37 : decode cX7_move 37 = .ok (.iload_n 3, 1) := by decide +kernel
theorem dX7_move_38 : decode cX7_move 38 = .ok (.iload 4, 2) := by decide +kernel
theorem dX7_move_40 : decode cX7_move 40 = .ok (.invokevirtual 56, 3) := by decide +kernel
theorem dX7_move_43 : decode cX7_move 43 = .ok (.return_, 1) := by decide +kernel
theorem dX8_init_0 : decode cX8_init 0 = .ok (.aload_n 0, 1) := by decide +kernel
theorem dX8_init_1 : decode cX8_init 1 = .ok (.invokespecial 1, 3) := by decide +kernel
theorem dX8_init_4 : decode cX8_init 4 = .ok (.aload_n 0, 1) := by decide +kernel
theorem dX8_init_5 : decode cX8_init 5 = .ok (.bipush 8, 2) := by decide +kernel
theorem dX8_init_7 : decode cX8_init 7 = .ok (.anewarray 9, 3) := by decide +kernel
theorem dX8_init_10 : decode cX8_init 10 = .ok (.putfield 11, 3) := by decide +kernel
theorem dX8_init_13 : decode cX8_init 13 = .ok (.aload_n 0, 1) := by decide +kernel
theorem dX8_init_14 : decode cX8_init 14 = .ok (.new 15, 3) := by decide +kernel
theorem dX8_init_17 : decode cX8_init 17 = .ok (.dup, 1) := by decide +kernel
theorem dX8_init_18 : decode cX8_init 18 = .ok (.invokespecial 17, 3) := by decide +kernel
theorem dX8_init_21 : decode cX8_init 21 = .ok (.putfield 18, 3) := by decide +kernel
theorem dX8_init_24 : decode cX8_init 24 = .ok (.aload_n 0, 1) := by decide +kernel
theorem dX8_init_25 : decode cX8_init 25 = .ok (.new 22, 3) := by decide +kernel
theorem dX8_init_28 : decode cX8_init 28 = .ok (.dup, 1) := by decide +kernel
theorem dX8_init_29 : decode cX8_init 29 = .ok (.invokespecial 24, 3) := by decide +kernel
theorem dX8_init_32 : decode cX8_init 32 = .ok (.putfield 25, 3) := by decide +kernel
theorem dX8_init_35 : decode cX8_init 35 = .ok (.aload_n 0, 1) := by decide +kernel
theorem dX8_init_36 : decode cX8_init 36 = .ok (.new 22, 3) := by decide +kernel
theorem dX8_init_39 : decode cX8_init 39 = .ok (.dup, 1) := by decide +kernel
theorem dX8_init_40 : decode cX8_init 40 = .ok (.invokespecial 24, 3) := by decide +kernel
theorem dX8_init_43 : decode cX8_init 43 = .ok (.putfield 29, 3) := by decide +kernel
theorem dX8_init_46 : decode cX8_init 46 = .ok (.aload_n 0, 1) := by decide +kernel
theorem dX8_init_47 : decode cX8_init 47 = .ok (.iconst 2, 1) := by decide +kernel
theorem dX8_init_48 : decode cX8_init 48 = .ok (.anewarray 22, 3) := by decide +kernel
theorem dX8_init_51 : decode cX8_init 51 = .ok (.putfield 32, 3) := by decide +kernel
theorem dX8_init_54 : decode cX8_init 54 = .ok (.aload_n 0, 1) := by decide +kernel
theorem dX8_init_55 : decode cX8_init 55 = .ok (.new 36, 3) := by decide +kernel
theorem dX8_init_58 : decode cX8_init 58 = .ok (.dup, 1) := by decide +kernel
theorem dX8_init_59 : decode cX8_init 59 = .ok (.invokespecial 38, 3) := by decide +kernel
theorem dX8_init_62 : decode cX8_init 62 = .ok (.putfield 39, 3) := by decide +kernel
theorem dX8_init_65 : decode cX8_init 65 = .ok (.aload_n 0, 1) := by decide +kernel
theorem dX8_init_66 : decode cX8_init 66 = .ok (.new 43, 3) := by decide +kernel
theorem dX8_init_69 : decode cX8_init 69 = .ok (.dup, 1) := by decide +kernel
theorem dX8_init_70 : decode cX8_init 70 = .ok (.invokespecial 45, 3) := by decide +kernel
theorem dX8_init_73 : decode cX8_init 73 = .ok (.putfield 46, 3) := by decide +kernel
theorem dX8_init_76 : decode cX8_init 76 = .ok (.aload_n 0, 1) := by decide +kernel
theorem dX8_init_77 : decode cX8_init 77 = .ok (.new 50, 3) := by decide +kernel
theorem dX8_init_80 : decode cX8_init 80 = .ok (.dup, 1) := by decide +kernel
theorem dX8_init_81 : decode cX8_init 81 = .ok (.invokespecial 52, 3) := by decide +kernel
theorem dX8_init_84 : decode cX8_init 84 = .ok (.putfield 53, 3) := by decide +kernel
theorem dX8_init_87 : decode cX8_init 87 = .ok (.iconst 0, 1) := by decide +kernel
theorem dX8_init_88 : decode cX8_init 88 = .ok (.istore_n 1, 1) := by decide +kernel
theorem dX8_init_89 : decode cX8_init 89 = .ok (.iload_n 1, 1) := by decide +kernel
theorem dX8_init_90 : decode cX8_init 90 = .ok (.aload_n 0, 1) := by decide +kernel
theorem dX8_init_91 : decode cX8_init 91 = .ok (.getfield 11, 3) := by decide +kernel
theorem dX8_init_94 : decode cX8_init 94 = .ok (.arraylength, 1) := by decide +kernel
theorem dX8_init_95 : decode cX8_init 95 = .ok (.if_icmp .ge 22, 3) := by decide +kernel
theorem dX8_init_98 : decode cX8_init 98 = .ok (.aload_n 0, 1) := by decide +kernel
theorem dX8_init_99 : decode cX8_init 99 = .ok (.getfield 11, 3) := by decide +kernel
theorem dX8_init_102 : decode cX8_init 102 = .ok (.iload_n 1, 1) := by decide +kernel
theorem dX8_init_103 : decode cX8_init 103 = .ok (.new 9, 3) := by decide +kernel
theorem dX8_init_106 : decode cX8_init 106 = .ok (.dup, 1) := by decide +kernel
theorem dX8_init_107 : decode cX8_init 107 = .ok (.invokespecial 57, 3) := by decide +kernel
theorem dX8_init_110 : decode cX8_init 110 = .ok (.aastore, 1) := by decide +kernel
theorem dX8_init_111 : decode cX8_init 111 = .ok (.iinc 1 1, 3) := by decide +kernel
theorem dX8_init_114 : decode cX8_init 114 = .ok (.goto (-25), 3) := by decide +kernel
theorem dX8_init_117 : decode cX8_init 117 = .ok (.iconst 0, 1) := by decide +kernel
theorem dX8_init_118 : decode cX8_init 118 = .ok (.istore_n 1, 1) := by decide +kernel
theorem dX8_init_119 : decode cX8_init 119 = .ok (.iload_n 1, 1) := by decide +kernel
theorem dX8_init_120 : decode cX8_init 120 = .ok (.aload_n 0, 1) := by decide +kernel
theorem dX8_init_121 : decode cX8_init 121 = .ok (.getfield 32, 3) := by decide +kernel
theorem dX8_init_124 : decode cX8_init 124 = .ok (.arraylength, 1) := by decide +kernel
theorem dX8_init_125 : decode cX8_init 125 = .ok (.if_icmp .ge 22, 3) := by decide +kernel
theorem dX8_init_128 : decode cX8_init 128 = .ok (.aload_n 0, 1) := by decide +kernel
theorem dX8_init_129 : decode cX8_init 129 = .ok (.getfield 32, 3) := by decide +kernel
theorem dX8_init_132 : decode cX8_init 132 = .ok (.iload_n 1, 1) := by decide +kernel
theorem dX8_init_133 : decode cX8_init 133 = .ok (.new 22, 3) := by decide +kernel
theorem dX8_init_136 : decode cX8_init 136 = .ok (.dup, 1) := by decide +kernel
theorem dX8_init_137 : decode cX8_init 137 = .ok (.invokespecial 24, 3) := by decide +kernel
theorem dX8_init_140 : decode cX8_init 140 = .ok (.aastore, 1) := by decide +kernel
theorem dX8_init_141 : decode cX8_init 141 = .ok (.iinc 1 1, 3) := by decide +kernel
theorem dX8_init_144 : decode cX8_init 144 = .ok (.goto (-25), 3) := by decide +kernel
theorem dX8_init_147 : decode cX8_init 147 = .ok (.return_, 1) := by decide +kernel
theorem dX8_row_0 : decode cX8_row 0 = .ok (.iload_n 1, 1) := by decide +kernel
theorem dX8_row_1 : decode cX8_row 1 = .ok (.bipush 8, 2) := by decide +kernel
theorem dX8_row_3 : decode cX8_row 3 = .ok (.invokestatic 58, 3) := by decide +kernel
theorem dX8_row_6 : decode cX8_row 6 = .ok (.ifCond .eq 17, 3) := by decide +kernel
theorem dX8_row_9 : decode cX8_row 9 = .ok (.iload_n 2, 1) := by decide +kernel
theorem dX8_row_10 : decode cX8_row 10 = .ok (.iconst 3, 1) := by decide +kernel
theorem dX8_row_11 : decode cX8_row 11 = .ok (.invokestatic 58, 3) := by decide +kernel
theorem dX8_row_14 : decode cX8_row 14 = .ok (.ifCond .eq 9, 3) := by decide +kernel
theorem dX8_row_17 : decode cX8_row 17 = .ok (.iload_n 3, 1) := by decide +kernel
theorem dX8_row_18 : decode cX8_row 18 = .ok (.bipush 40, 2) := by decide +kernel
theorem dX8_row_20 : decode cX8_row 20 = .ok (.if_icmp .le 6, 3) := by decide +kernel
theorem dX8_row_23 : decode cX8_row 23 = .ok (.ldc 62, 2) := by decide +kernel
theorem dX8_row_25 : decode cX8_row 25 = .ok (.ireturn, 1) := by decide +kernel
theorem dX8_row_26 : decode cX8_row 26 = .ok (.iload_n 3, 1) := by decide +kernel
theorem dX8_row_27 : decode cX8_row 27 = .ok (.ifCond .ge 9, 3) := by decide +kernel
theorem dX8_row_30 : decode cX8_row 30 = .ok (.aload_n 0, 1) := by decide +kernel
theorem dX8_row_31 : decode cX8_row 31 = .ok (.iconst 4, 1) := by decide +kernel
theorem dX8_row_32 : decode cX8_row 32 = .ok (.invokevirtual 63, 3) := by decide +kernel
theorem dX8_row_35 : decode cX8_row 35 = .ok (.ireturn, 1) := by decide +kernel
theorem dX8_row_36 : decode cX8_row 36 = .ok (.aload_n 0, 1) := by decide +kernel
theorem dX8_row_37 : decode cX8_row 37 = .ok (.getfield 11, 3) := by decide +kernel
theorem dX8_row_40 : decode cX8_row 40 = .ok (.iload_n 1, 1) := by decide +kernel
theorem dX8_row_41 : decode cX8_row 41 = .ok (.aaload, 1) := by decide +kernel
theorem dX8_row_42 : decode cX8_row 42 = .ok (.iload_n 2, 1) := by decide +kernel
theorem dX8_row_43 : decode cX8_row 43 = .ok (.iload_n 3, 1) := by decide +kernel
theorem dX8_row_44 : decode cX8_row 44 = .ok (.invokevirtual 67, 3) := by decide +kernel
theorem dX8_row_47 : decode cX8_row 47 = .ok (.aload_n 0, 1) := by decide +kernel
theorem dX8_row_48 : decode cX8_row 48 = .ok (.iload_n 3, 1) := by decide +kernel
theorem dX8_row_49 : decode cX8_row 49 = .ok (.invokevirtual 71, 3) := by decide +kernel
theorem dX8_row_52 : decode cX8_row 52 = .ok (.ireturn, 1) := by decide +kernel
theorem dX8_set_0 : decode cX8_set 0 = .ok (.iload_n 1, 1) := by decide +kernel
theorem dX8_set_1 : decode cX8_set 1 = .ok (.bipush 8, 2) := by decide +kernel
theorem dX8_set_3 : decode cX8_set 3 = .ok (.invokestatic 58, 3) := by decide +kernel
theorem dX8_set_6 : decode cX8_set 6 = .ok (.ifCond .ne 6, 3) := by decide +kernel
theorem dX8_set_9 : decode cX8_set 9 = .ok (.ldc 62, 2) := by decide +kernel
theorem dX8_set_11 : decode cX8_set 11 = .ok (.ireturn, 1) := by decide +kernel
theorem dX8_set_12 : decode cX8_set 12 = .ok (.aload_n 0, 1) := by decide +kernel
theorem dX8_set_13 : decode cX8_set 13 = .ok (.getfield 11, 3) := by decide +kernel
theorem dX8_set_16 : decode cX8_set 16 = .ok (.iload_n 1, 1) := by decide +kernel
theorem dX8_set_17 : decode cX8_set 17 = .ok (.aaload, 1) := by decide +kernel
theorem dX8_set_18 : decode cX8_set 18 = .ok (.astore 4, 2) := by decide +kernel
theorem dX8_set_20 : decode cX8_set 20 = .ok (.aload 4, 2) := by decide +kernel
theorem dX8_set_22 : decode cX8_set 22 = .ok (.getfield 74, 3) := by decide +kernel
theorem dX8_set_25 : decode cX8_set 25 = .ok (.ifCond .eq 9, 3) := by decide +kernel
theorem dX8_set_28 : decode cX8_set 28 = .ok (.aload_n 0, 1) := by decide +kernel
theorem dX8_set_29 : decode cX8_set 29 = .ok (.iconst 1, 1) := by decide +kernel
theorem dX8_set_30 : decode cX8_set 30 = .ok (.invokevirtual 63, 3) := by decide +kernel
theorem dX8_set_33 : decode cX8_set 33 = .ok (.ireturn, 1) := by decide +kernel
theorem dX8_set_34 : decode cX8_set 34 = .ok (.iload_n 2, 1) := by decide +kernel
theorem dX8_set_35 : decode cX8_set 35 = .ok (.aload 4, 2) := by decide +kernel
theorem dX8_set_37 : decode cX8_set 37 = .ok (.getfield 78, 3) := by decide +kernel
theorem dX8_set_40 : decode cX8_set 40 = .ok (.invokestatic 58, 3) := by decide +kernel
theorem dX8_set_43 : decode cX8_set 43 = .ok (.ifCond .ne 9, 3) := by decide +kernel
theorem dX8_set_46 : decode cX8_set 46 = .ok (.aload_n 0, 1) := by decide +kernel
theorem dX8_set_47 : decode cX8_set 47 = .ok (.iconst 2, 1) := by decide +kernel
theorem dX8_set_48 : decode cX8_set 48 = .ok (.invokevirtual 63, 3) := by decide +kernel
theorem dX8_set_51 : decode cX8_set 51 = .ok (.ireturn, 1) := by decide +kernel
theorem dX8_set_52 : decode cX8_set 52 = .ok (.aload_n 0, 1) := by decide +kernel
theorem dX8_set_53 : decode cX8_set 53 = .ok (.aload 4, 2) := by decide +kernel
theorem dX8_set_55 : decode cX8_set 55 = .ok (.iload_n 2, 1) := by decide +kernel
theorem dX8_set_56 : decode cX8_set 56 = .ok (.iload_n 3, 1) := by decide +kernel
theorem dX8_set_57 : decode cX8_set 57 = .ok (.invokevirtual 82, 3) := by decide +kernel
theorem dX8_set_60 : decode cX8_set 60 = .ok (.invokevirtual 71, 3) := by decide +kernel
theorem dX8_set_63 : decode cX8_set 63 = .ok (.ireturn, 1) := by decide +kernel
theorem dX8_copy_0 : decode cX8_copy 0 = .ok (.iload_n 1, 1) := by decide +kernel
theorem dX8_copy_1 : decode cX8_copy 1 = .ok (.bipush 8, 2) := by decide +kernel
theorem dX8_copy_3 : decode cX8_copy 3 = .ok (.invokestatic 58, 3) := by decide +kernel
theorem dX8_copy_6 : decode cX8_copy 6 = .ok (.ifCond .eq 12, 3) := by decide +kernel
theorem dX8_copy_9 : decode cX8_copy 9 = .ok (.iload_n 3, 1) := by decide +kernel
theorem dX8_copy_10 : decode cX8_copy 10 = .ok (.bipush 8, 2) := by decide +kernel
theorem dX8_copy_12 : decode cX8_copy 12 = .ok (.invokestatic 58, 3) := by decide +kernel
theorem dX8_copy_15 : decode cX8_copy 15 = .ok (.ifCond .ne 6, 3) := by decide +kernel
theorem dX8_copy_18 : decode cX8_copy 18 = .ok (.ldc 62, 2) := by decide +kernel
theorem dX8_copy_20 : decode cX8_copy 20 = .ok (.ireturn, 1) := by decide +kernel
theorem dX8_copy_21 : decode cX8_copy 21 = .ok (.aload_n 0, 1) := by decide +kernel
theorem dX8_copy_22 : decode cX8_copy 22 = .ok (.getfield 11, 3) := by decide +kernel
theorem dX8_copy_25 : decode cX8_copy 25 = .ok (.iload_n 1, 1) := by decide +kernel
theorem dX8_copy_26 : decode cX8_copy 26 = .ok (.aaload, 1) := by decide +kernel
theorem dX8_copy_27 : decode cX8_copy 27 = .ok (.astore 6, 2) := by decide +kernel
theorem dX8_copy_29 : decode cX8_copy 29 = .ok (.aload_n 0, 1) := by decide +kernel
theorem dX8_copy_30 : decode cX8_copy 30 = .ok (.getfield 11, 3) := by decide +kernel
theorem dX8_copy_33 : decode cX8_copy 33 = .ok (.iload_n 3, 1) := by decide +kernel
theorem dX8_copy_34 : decode cX8_copy 34 = .ok (.aaload, 1) := by decide +kernel
theorem dX8_copy_35 : decode cX8_copy 35 = .ok (.astore 7, 2) := by decide +kernel
theorem dX8_copy_37 : decode cX8_copy 37 = .ok (.aload 6, 2) := by decide +kernel
theorem dX8_copy_39 : decode cX8_copy 39 = .ok (.getfield 74, 3) := by decide +kernel
theorem dX8_copy_42 : decode cX8_copy 42 = .ok (.ifCond .ne 11, 3) := by decide +kernel
theorem dX8_copy_45 : decode cX8_copy 45 = .ok (.aload 7, 2) := by decide +kernel
theorem dX8_copy_47 : decode cX8_copy 47 = .ok (.getfield 74, 3) := by decide +kernel
theorem dX8_copy_50 : decode cX8_copy 50 = .ok (.ifCond .eq 9, 3) := by decide +kernel
theorem dX8_copy_53 : decode cX8_copy 53 = .ok (.aload_n 0, 1) := by decide +kernel
theorem dX8_copy_54 : decode cX8_copy 54 = .ok (.iconst 1, 1) := by decide +kernel
theorem dX8_copy_55 : decode cX8_copy 55 = .ok (.invokevirtual 63, 3) := by decide +kernel
theorem dX8_copy_58 : decode cX8_copy 58 = .ok (.ireturn, 1) := by decide +kernel
theorem dX8_copy_59 : decode cX8_copy 59 = .ok (.aload 6, 2) := by decide +kernel
theorem dX8_copy_61 : decode cX8_copy 61 = .ok (.getfield 86, 3) := by decide +kernel
theorem dX8_copy_64 : decode cX8_copy 64 = .ok (.aload 7, 2) := by decide +kernel
theorem dX8_copy_66 : decode cX8_copy 66 = .ok (.getfield 86, 3) := by decide +kernel
theorem dX8_copy_69 : decode cX8_copy 69 = .ok (.if_icmp .eq 9, 3) := by decide +kernel
theorem dX8_copy_72 : decode cX8_copy 72 = .ok (.aload_n 0, 1) := by decide +kernel
theorem dX8_copy_73 : decode cX8_copy 73 = .ok (.iconst 5, 1) := by decide +kernel
theorem dX8_copy_74 : decode cX8_copy 74 = .ok (.invokevirtual 63, 3) := by decide +kernel
theorem dX8_copy_77 : decode cX8_copy 77 = .ok (.ireturn, 1) := by decide +kernel
theorem dX8_copy_78 : decode cX8_copy 78 = .ok (.aload 6, 2) := by decide +kernel
theorem dX8_copy_80 : decode cX8_copy 80 = .ok (.iload_n 2, 1) := by decide +kernel
theorem dX8_copy_81 : decode cX8_copy 81 = .ok (.iload 5, 2) := by decide +kernel
theorem dX8_copy_83 : decode cX8_copy 83 = .ok (.invokevirtual 89, 3) := by decide +kernel
theorem dX8_copy_86 : decode cX8_copy 86 = .ok (.ifCond .eq 15, 3) := by decide +kernel
theorem dX8_copy_89 : decode cX8_copy 89 = .ok (.aload 7, 2) := by decide +kernel
theorem dX8_copy_91 : decode cX8_copy 91 = .ok (.iload 4, 2) := by decide +kernel
theorem dX8_copy_93 : decode cX8_copy 93 = .ok (.iload 5, 2) := by decide +kernel
theorem dX8_copy_95 : decode cX8_copy 95 = .ok (.invokevirtual 89, 3) := by decide +kernel
theorem dX8_copy_98 : decode cX8_copy 98 = .ok (.ifCond .ne 9, 3) := by decide +kernel
theorem dX8_copy_101 : decode cX8_copy 101 = .ok (.aload_n 0, 1) := by decide +kernel
theorem dX8_copy_102 : decode cX8_copy 102 = .ok (.iconst 2, 1) := by decide +kernel
theorem dX8_copy_103 : decode cX8_copy 103 = .ok (.invokevirtual 63, 3) := by decide +kernel
theorem dX8_copy_106 : decode cX8_copy 106 = .ok (.ireturn, 1) := by decide +kernel
theorem dX8_copy_107 : decode cX8_copy 107 = .ok (.aload 6, 2) := by decide +kernel
theorem dX8_copy_109 : decode cX8_copy 109 = .ok (.getfield 92, 3) := by decide +kernel
theorem dX8_copy_112 : decode cX8_copy 112 = .ok (.iload_n 2, 1) := by decide +kernel
theorem dX8_copy_113 : decode cX8_copy 113 = .ok (.aload 7, 2) := by decide +kernel
theorem dX8_copy_115 : decode cX8_copy 115 = .ok (.getfield 92, 3) := by decide +kernel
theorem dX8_copy_118 : decode cX8_copy 118 = .ok (.iload 4, 2) := by decide +kernel
theorem dX8_copy_120 : decode cX8_copy 120 = .ok (.iload 5, 2) := by decide +kernel
theorem dX8_copy_122 : decode cX8_copy 122 = .ok (.invokestatic 96, 3) := by decide +kernel
theorem dX8_copy_125 : decode cX8_copy 125 = .ok (.aload_n 0, 1) := by decide +kernel
theorem dX8_copy_126 : decode cX8_copy 126 = .ok (.iload 5, 2) := by decide +kernel
theorem dX8_copy_128 : decode cX8_copy 128 = .ok (.invokevirtual 71, 3) := by decide +kernel
theorem dX8_copy_131 : decode cX8_copy 131 = .ok (.ireturn, 1) := by decide +kernel
theorem dX8_drop_0 : decode cX8_drop 0 = .ok (.iload_n 1, 1) := by decide +kernel
theorem dX8_drop_1 : decode cX8_drop 1 = .ok (.bipush 8, 2) := by decide +kernel
theorem dX8_drop_3 : decode cX8_drop 3 = .ok (.invokestatic 58, 3) := by decide +kernel
theorem dX8_drop_6 : decode cX8_drop 6 = .ok (.ifCond .ne 6, 3) := by decide +kernel
theorem dX8_drop_9 : decode cX8_drop 9 = .ok (.ldc 62, 2) := by decide +kernel
theorem dX8_drop_11 : decode cX8_drop 11 = .ok (.ireturn, 1) := by decide +kernel
theorem dX8_drop_12 : decode cX8_drop 12 = .ok (.aload_n 0, 1) := by decide +kernel
theorem dX8_drop_13 : decode cX8_drop 13 = .ok (.getfield 11, 3) := by decide +kernel
theorem dX8_drop_16 : decode cX8_drop 16 = .ok (.iload_n 1, 1) := by decide +kernel
theorem dX8_drop_17 : decode cX8_drop 17 = .ok (.aaload, 1) := by decide +kernel
theorem dX8_drop_18 : decode cX8_drop 18 = .ok (.astore_n 2, 1) := by decide +kernel
theorem dX8_drop_19 : decode cX8_drop 19 = .ok (.aload_n 2, 1) := by decide +kernel
theorem dX8_drop_20 : decode cX8_drop 20 = .ok (.getfield 74, 3) := by decide +kernel
theorem dX8_drop_23 : decode cX8_drop 23 = .ok (.ifCond .eq 9, 3) := by decide +kernel
theorem dX8_drop_26 : decode cX8_drop 26 = .ok (.aload_n 0, 1) := by decide +kernel
theorem dX8_drop_27 : decode cX8_drop 27 = .ok (.iconst 1, 1) := by decide +kernel
theorem dX8_drop_28 : decode cX8_drop 28 = .ok (.invokevirtual 63, 3) := by decide +kernel
theorem dX8_drop_31 : decode cX8_drop 31 = .ok (.ireturn, 1) := by decide +kernel
theorem dX8_drop_32 : decode cX8_drop 32 = .ok (.aload_n 2, 1) := by decide +kernel
theorem dX8_drop_33 : decode cX8_drop 33 = .ok (.iconst 1, 1) := by decide +kernel
theorem dX8_drop_34 : decode cX8_drop 34 = .ok (.putfield 74, 3) := by decide +kernel
theorem dX8_drop_37 : decode cX8_drop 37 = .ok (.aload_n 0, 1) := by decide +kernel
theorem dX8_drop_38 : decode cX8_drop 38 = .ok (.aload_n 2, 1) := by decide +kernel
theorem dX8_drop_39 : decode cX8_drop 39 = .ok (.getfield 78, 3) := by decide +kernel
theorem dX8_drop_42 : decode cX8_drop 42 = .ok (.invokevirtual 71, 3) := by decide +kernel
theorem dX8_drop_45 : decode cX8_drop 45 = .ok (.ireturn, 1) := by decide +kernel
theorem dX8_feed_0 : decode cX8_feed 0 = .ok (.iload_n 1, 1) := by decide +kernel
theorem dX8_feed_1 : decode cX8_feed 1 = .ok (.sipush 256, 3) := by decide +kernel
theorem dX8_feed_4 : decode cX8_feed 4 = .ok (.invokestatic 58, 3) := by decide +kernel
theorem dX8_feed_7 : decode cX8_feed 7 = .ok (.ifCond .ne 6, 3) := by decide +kernel
theorem dX8_feed_10 : decode cX8_feed 10 = .ok (.ldc 62, 2) := by decide +kernel
theorem dX8_feed_12 : decode cX8_feed 12 = .ok (.ireturn, 1) := by decide +kernel
theorem dX8_feed_13 : decode cX8_feed 13 = .ok (.aload_n 0, 1) := by decide +kernel
theorem dX8_feed_14 : decode cX8_feed 14 = .ok (.getfield 18, 3) := by decide +kernel
theorem dX8_feed_17 : decode cX8_feed 17 = .ok (.getfield 102, 3) := by decide +kernel
theorem dX8_feed_20 : decode cX8_feed 20 = .ok (.bipush 120, 2) := by decide +kernel
theorem dX8_feed_22 : decode cX8_feed 22 = .ok (.if_icmp .ne 6, 3) := by decide +kernel
theorem dX8_feed_25 : decode cX8_feed 25 = .ok (.ldc 105, 2) := by decide +kernel
theorem dX8_feed_27 : decode cX8_feed 27 = .ok (.ireturn, 1) := by decide +kernel
theorem dX8_feed_28 : decode cX8_feed 28 = .ok (.aload_n 0, 1) := by decide +kernel
theorem dX8_feed_29 : decode cX8_feed 29 = .ok (.getfield 18, 3) := by decide +kernel
theorem dX8_feed_32 : decode cX8_feed 32 = .ok (.iload_n 1, 1) := by decide +kernel
theorem dX8_feed_33 : decode cX8_feed 33 = .ok (.invokevirtual 106, 3) := by decide +kernel
theorem dX8_feed_36 : decode cX8_feed 36 = .ok (.ireturn, 1) := by decide +kernel
theorem dX8_way_0 : decode cX8_way 0 = .ok (.aload_n 0, 1) := by decide +kernel
theorem dX8_way_1 : decode cX8_way 1 = .ok (.getfield 18, 3) := by decide +kernel
theorem dX8_way_4 : decode cX8_way 4 = .ok (.aload_n 0, 1) := by decide +kernel
theorem dX8_way_5 : decode cX8_way 5 = .ok (.getfield 29, 3) := by decide +kernel
theorem dX8_way_8 : decode cX8_way 8 = .ok (.invokevirtual 109, 3) := by decide +kernel
theorem dX8_way_11 : decode cX8_way 11 = .ok (.ifCond .ne 14, 3) := by decide +kernel
theorem dX8_way_14 : decode cX8_way 14 = .ok (.ldc 113, 2) := by decide +kernel
theorem dX8_way_16 : decode cX8_way 16 = .ok (.aload_n 0, 1) := by decide +kernel
theorem dX8_way_17 : decode cX8_way 17 = .ok (.getfield 18, 3) := by decide +kernel
theorem dX8_way_20 : decode cX8_way 20 = .ok (.getfield 114, 3) := by decide +kernel
theorem dX8_way_23 : decode cX8_way 23 = .ok (.isub, 1) := by decide +kernel
theorem dX8_way_24 : decode cX8_way 24 = .ok (.ireturn, 1) := by decide +kernel
theorem dX8_way_25 : decode cX8_way 25 = .ok (.aload_n 0, 1) := by decide +kernel
theorem dX8_way_26 : decode cX8_way 26 = .ok (.getfield 25, 3) := by decide +kernel
theorem dX8_way_29 : decode cX8_way 29 = .ok (.aload_n 0, 1) := by decide +kernel
theorem dX8_way_30 : decode cX8_way 30 = .ok (.getfield 29, 3) := by decide +kernel
theorem dX8_way_33 : decode cX8_way 33 = .ok (.invokevirtual 117, 3) := by decide +kernel
theorem dX8_way_36 : decode cX8_way 36 = .ok (.aload_n 0, 1) := by decide +kernel
theorem dX8_way_37 : decode cX8_way 37 = .ok (.getfield 39, 3) := by decide +kernel
theorem dX8_way_40 : decode cX8_way 40 = .ok (.invokevirtual 121, 3) := by decide +kernel
theorem dX8_way_43 : decode cX8_way 43 = .ok (.aload_n 0, 1) := by decide +kernel
theorem dX8_way_44 : decode cX8_way 44 = .ok (.getfield 25, 3) := by decide +kernel
theorem dX8_way_47 : decode cX8_way 47 = .ok (.getfield 124, 3) := by decide +kernel
theorem dX8_way_50 : decode cX8_way 50 = .ok (.getfield 128, 3) := by decide +kernel
theorem dX8_way_53 : decode cX8_way 53 = .ok (.ireturn, 1) := by decide +kernel
theorem dX8_fault_0 : decode cX8_fault 0 = .ok (.aload_n 0, 1) := by decide +kernel
theorem dX8_fault_1 : decode cX8_fault 1 = .ok (.getfield 18, 3) := by decide +kernel
theorem dX8_fault_4 : decode cX8_fault 4 = .ok (.getfield 131, 3) := by decide +kernel
theorem dX8_fault_7 : decode cX8_fault 7 = .ok (.ireturn, 1) := by decide +kernel
theorem dX8_go_0 : decode cX8_go 0 = .ok (.aload_n 0, 1) := by decide +kernel
theorem dX8_go_1 : decode cX8_go 1 = .ok (.getfield 25, 3) := by decide +kernel
theorem dX8_go_4 : decode cX8_go 4 = .ok (.getfield 134, 3) := by decide +kernel
theorem dX8_go_7 : decode cX8_go 7 = .ok (.ifCond .eq 20, 3) := by decide +kernel
theorem dX8_go_10 : decode cX8_go 10 = .ok (.aload_n 0, 1) := by decide +kernel
theorem dX8_go_11 : decode cX8_go 11 = .ok (.getfield 25, 3) := by decide +kernel
theorem dX8_go_14 : decode cX8_go 14 = .ok (.getfield 137, 3) := by decide +kernel
theorem dX8_go_17 : decode cX8_go 17 = .ok (.aload_n 0, 1) := by decide +kernel
theorem dX8_go_18 : decode cX8_go 18 = .ok (.getfield 25, 3) := by decide +kernel
theorem dX8_go_21 : decode cX8_go 21 = .ok (.getfield 140, 3) := by decide +kernel
theorem dX8_go_24 : decode cX8_go 24 = .ok (.if_icmp .lt 6, 3) := by decide +kernel
theorem dX8_go_27 : decode cX8_go 27 = .ok (.ldc 143, 2) := by decide +kernel
theorem dX8_go_29 : decode cX8_go 29 = .ok (.ireturn, 1) := by decide +kernel
theorem dX8_go_30 : decode cX8_go 30 = .ok (.aload_n 0, 1) := by decide +kernel
theorem dX8_go_31 : decode cX8_go 31 = .ok (.getfield 39, 3) := by decide +kernel
theorem dX8_go_34 : decode cX8_go 34 = .ok (.aload_n 0, 1) := by decide +kernel
theorem dX8_go_35 : decode cX8_go 35 = .ok (.getfield 25, 3) := by decide +kernel
theorem dX8_go_38 : decode cX8_go 38 = .ok (.invokevirtual 144, 3) := by decide +kernel
theorem dX8_go_41 : decode cX8_go 41 = .ok (.aload_n 0, 1) := by decide +kernel
theorem dX8_go_42 : decode cX8_go 42 = .ok (.getfield 25, 3) := by decide +kernel
theorem dX8_go_45 : decode cX8_go 45 = .ok (.aload_n 0, 1) := by decide +kernel
theorem dX8_go_46 : decode cX8_go 46 = .ok (.getfield 25, 3) := by decide +kernel
theorem dX8_go_49 : decode cX8_go 49 = .ok (.getfield 124, 3) := by decide +kernel
theorem dX8_go_52 : decode cX8_go 52 = .ok (.aload_n 0, 1) := by decide +kernel
theorem dX8_go_53 : decode cX8_go 53 = .ok (.getfield 25, 3) := by decide +kernel
theorem dX8_go_56 : decode cX8_go 56 = .ok (.getfield 137, 3) := by decide +kernel
theorem dX8_go_59 : decode cX8_go 59 = .ok (.aload_n 0, 1) := by decide +kernel
theorem dX8_go_60 : decode cX8_go 60 = .ok (.getfield 25, 3) := by decide +kernel
theorem dX8_go_63 : decode cX8_go 63 = .ok (.getfield 147, 3) := by decide +kernel
theorem dX8_go_66 : decode cX8_go 66 = .ok (.aload_n 0, 1) := by decide +kernel
theorem dX8_go_67 : decode cX8_go 67 = .ok (.getfield 25, 3) := by decide +kernel
theorem dX8_go_70 : decode cX8_go 70 = .ok (.getfield 150, 3) := by decide +kernel
theorem dX8_go_73 : decode cX8_go 73 = .ok (.invokevirtual 153, 3) := by decide +kernel
theorem dX8_go_76 : decode cX8_go 76 = .ok (.aload_n 0, 1) := by decide +kernel
theorem dX8_go_77 : decode cX8_go 77 = .ok (.getfield 25, 3) := by decide +kernel
theorem dX8_go_80 : decode cX8_go 80 = .ok (.dup, 1) := by decide +kernel
theorem dX8_go_81 : decode cX8_go 81 = .ok (.getfield 137, 3) := by decide +kernel
theorem dX8_go_84 : decode cX8_go 84 = .ok (.iconst 1, 1) := by decide +kernel
theorem dX8_go_85 : decode cX8_go 85 = .ok (.iadd, 1) := by decide +kernel
theorem dX8_go_86 : decode cX8_go 86 = .ok (.putfield 137, 3) := by decide +kernel
theorem dX8_go_89 : decode cX8_go 89 = .ok (.aload_n 0, 1) := by decide +kernel
theorem dX8_go_90 : decode cX8_go 90 = .ok (.getfield 25, 3) := by decide +kernel
end
section
theorem dX8_go_93 : decode cX8_go 93 = .ok (.getfield 137, 3) := by decide +kernel
theorem dX8_go_96 : decode cX8_go 96 = .ok (.ireturn, 1) := by decide +kernel
theorem dX8_rule_0 : decode cX8_rule 0 = .ok (.aload_n 0, 1) := by decide +kernel
theorem dX8_rule_1 : decode cX8_rule 1 = .ok (.getfield 25, 3) := by decide +kernel
theorem dX8_rule_4 : decode cX8_rule 4 = .ok (.getfield 134, 3) := by decide +kernel
theorem dX8_rule_7 : decode cX8_rule 7 = .ok (.ifCond .ne 6, 3) := by decide +kernel
theorem dX8_rule_10 : decode cX8_rule 10 = .ok (.ldc 143, 2) := by decide +kernel
theorem dX8_rule_12 : decode cX8_rule 12 = .ok (.ireturn, 1) := by decide +kernel
theorem dX8_rule_13 : decode cX8_rule 13 = .ok (.iload_n 1, 1) := by decide +kernel
theorem dX8_rule_14 : decode cX8_rule 14 = .ok (.iconst 4, 1) := by decide +kernel
theorem dX8_rule_15 : decode cX8_rule 15 = .ok (.invokestatic 58, 3) := by decide +kernel
theorem dX8_rule_18 : decode cX8_rule 18 = .ok (.ifCond .eq 12, 3) := by decide +kernel
theorem dX8_rule_21 : decode cX8_rule 21 = .ok (.iload_n 2, 1) := by decide +kernel
theorem dX8_rule_22 : decode cX8_rule 22 = .ok (.bipush 31, 2) := by decide +kernel
theorem dX8_rule_24 : decode cX8_rule 24 = .ok (.invokestatic 58, 3) := by decide +kernel
theorem dX8_rule_27 : decode cX8_rule 27 = .ok (.ifCond .ne 6, 3) := by decide +kernel
theorem dX8_rule_30 : decode cX8_rule 30 = .ok (.ldc 62, 2) := by decide +kernel
theorem dX8_rule_32 : decode cX8_rule 32 = .ok (.ireturn, 1) := by decide +kernel
theorem dX8_rule_33 : decode cX8_rule 33 = .ok (.bipush 31, 2) := by decide +kernel
theorem dX8_rule_35 : decode cX8_rule 35 = .ok (.aload_n 0, 1) := by decide +kernel
theorem dX8_rule_36 : decode cX8_rule 36 = .ok (.getfield 25, 3) := by decide +kernel
theorem dX8_rule_39 : decode cX8_rule 39 = .ok (.getfield 147, 3) := by decide +kernel
theorem dX8_rule_42 : decode cX8_rule 42 = .ok (.imul, 1) := by decide +kernel
theorem dX8_rule_43 : decode cX8_rule 43 = .ok (.aload_n 0, 1) := by decide +kernel
theorem dX8_rule_44 : decode cX8_rule 44 = .ok (.getfield 25, 3) := by decide +kernel
theorem dX8_rule_47 : decode cX8_rule 47 = .ok (.getfield 150, 3) := by decide +kernel
theorem dX8_rule_50 : decode cX8_rule 50 = .ok (.iadd, 1) := by decide +kernel
theorem dX8_rule_51 : decode cX8_rule 51 = .ok (.istore_n 3, 1) := by decide +kernel
theorem dX8_rule_52 : decode cX8_rule 52 = .ok (.aload_n 0, 1) := by decide +kernel
theorem dX8_rule_53 : decode cX8_rule 53 = .ok (.getfield 39, 3) := by decide +kernel
theorem dX8_rule_56 : decode cX8_rule 56 = .ok (.aload_n 0, 1) := by decide +kernel
theorem dX8_rule_57 : decode cX8_rule 57 = .ok (.getfield 25, 3) := by decide +kernel
theorem dX8_rule_60 : decode cX8_rule 60 = .ok (.invokevirtual 144, 3) := by decide +kernel
theorem dX8_rule_63 : decode cX8_rule 63 = .ok (.aload_n 0, 1) := by decide +kernel
theorem dX8_rule_64 : decode cX8_rule 64 = .ok (.getfield 25, 3) := by decide +kernel
theorem dX8_rule_67 : decode cX8_rule 67 = .ok (.iload_n 1, 1) := by decide +kernel
theorem dX8_rule_68 : decode cX8_rule 68 = .ok (.putfield 147, 3) := by decide +kernel
theorem dX8_rule_71 : decode cX8_rule 71 = .ok (.aload_n 0, 1) := by decide +kernel
theorem dX8_rule_72 : decode cX8_rule 72 = .ok (.getfield 25, 3) := by decide +kernel
theorem dX8_rule_75 : decode cX8_rule 75 = .ok (.iload_n 2, 1) := by decide +kernel
theorem dX8_rule_76 : decode cX8_rule 76 = .ok (.putfield 150, 3) := by decide +kernel
theorem dX8_rule_79 : decode cX8_rule 79 = .ok (.iload_n 3, 1) := by decide +kernel
theorem dX8_rule_80 : decode cX8_rule 80 = .ok (.ireturn, 1) := by decide +kernel
theorem dX8_give_0 : decode cX8_give 0 = .ok (.aload_n 0, 1) := by decide +kernel
theorem dX8_give_1 : decode cX8_give 1 = .ok (.iload_n 1, 1) := by decide +kernel
theorem dX8_give_2 : decode cX8_give 2 = .ok (.invokevirtual 157, 3) := by decide +kernel
theorem dX8_give_5 : decode cX8_give 5 = .ok (.ifCond .eq 16, 3) := by decide +kernel
theorem dX8_give_8 : decode cX8_give 8 = .ok (.aload_n 0, 1) := by decide +kernel
theorem dX8_give_9 : decode cX8_give 9 = .ok (.iload_n 2, 1) := by decide +kernel
theorem dX8_give_10 : decode cX8_give 10 = .ok (.invokevirtual 157, 3) := by decide +kernel
theorem dX8_give_13 : decode cX8_give 13 = .ok (.ifCond .eq 8, 3) := by decide +kernel
theorem dX8_give_16 : decode cX8_give 16 = .ok (.iload_n 1, 1) := by decide +kernel
theorem dX8_give_17 : decode cX8_give 17 = .ok (.iload_n 2, 1) := by decide +kernel
theorem dX8_give_18 : decode cX8_give 18 = .ok (.if_icmp .ne 6, 3) := by decide +kernel
theorem dX8_give_21 : decode cX8_give 21 = .ok (.ldc 62, 2) := by decide +kernel
theorem dX8_give_23 : decode cX8_give 23 = .ok (.ireturn, 1) := by decide +kernel
theorem dX8_give_24 : decode cX8_give 24 = .ok (.aload_n 0, 1) := by decide +kernel
theorem dX8_give_25 : decode cX8_give 25 = .ok (.getfield 25, 3) := by decide +kernel
theorem dX8_give_28 : decode cX8_give 28 = .ok (.getfield 124, 3) := by decide +kernel
theorem dX8_give_31 : decode cX8_give 31 = .ok (.getfield 161, 3) := by decide +kernel
theorem dX8_give_34 : decode cX8_give 34 = .ok (.iload_n 1, 1) := by decide +kernel
theorem dX8_give_35 : decode cX8_give 35 = .ok (.aaload, 1) := by decide +kernel
theorem dX8_give_36 : decode cX8_give 36 = .ok (.astore_n 3, 1) := by decide +kernel
theorem dX8_give_37 : decode cX8_give 37 = .ok (.aload_n 0, 1) := by decide +kernel
theorem dX8_give_38 : decode cX8_give 38 = .ok (.getfield 25, 3) := by decide +kernel
theorem dX8_give_41 : decode cX8_give 41 = .ok (.getfield 124, 3) := by decide +kernel
theorem dX8_give_44 : decode cX8_give 44 = .ok (.getfield 161, 3) := by decide +kernel
theorem dX8_give_47 : decode cX8_give 47 = .ok (.iload_n 2, 1) := by decide +kernel
theorem dX8_give_48 : decode cX8_give 48 = .ok (.aaload, 1) := by decide +kernel
theorem dX8_give_49 : decode cX8_give 49 = .ok (.astore 4, 2) := by decide +kernel
theorem dX8_give_51 : decode cX8_give 51 = .ok (.aload_n 3, 1) := by decide +kernel
theorem dX8_give_52 : decode cX8_give 52 = .ok (.getfield 165, 3) := by decide +kernel
theorem dX8_give_55 : decode cX8_give 55 = .ok (.aload 4, 2) := by decide +kernel
theorem dX8_give_57 : decode cX8_give 57 = .ok (.getfield 165, 3) := by decide +kernel
theorem dX8_give_60 : decode cX8_give 60 = .ok (.iadd, 1) := by decide +kernel
theorem dX8_give_61 : decode cX8_give 61 = .ok (.istore 5, 2) := by decide +kernel
theorem dX8_give_63 : decode cX8_give 63 = .ok (.iload 5, 2) := by decide +kernel
theorem dX8_give_65 : decode cX8_give 65 = .ok (.bipush 20, 2) := by decide +kernel
theorem dX8_give_67 : decode cX8_give 67 = .ok (.if_icmp .le 6, 3) := by decide +kernel
theorem dX8_give_70 : decode cX8_give 70 = .ok (.ldc 105, 2) := by decide +kernel
theorem dX8_give_72 : decode cX8_give 72 = .ok (.ireturn, 1) := by decide +kernel
theorem dX8_give_73 : decode cX8_give 73 = .ok (.aload_n 0, 1) := by decide +kernel
theorem dX8_give_74 : decode cX8_give 74 = .ok (.getfield 39, 3) := by decide +kernel
theorem dX8_give_77 : decode cX8_give 77 = .ok (.aload_n 0, 1) := by decide +kernel
theorem dX8_give_78 : decode cX8_give 78 = .ok (.getfield 25, 3) := by decide +kernel
theorem dX8_give_81 : decode cX8_give 81 = .ok (.invokevirtual 144, 3) := by decide +kernel
theorem dX8_give_84 : decode cX8_give 84 = .ok (.aload_n 3, 1) := by decide +kernel
theorem dX8_give_85 : decode cX8_give 85 = .ok (.iconst 0, 1) := by decide +kernel
theorem dX8_give_86 : decode cX8_give 86 = .ok (.putfield 165, 3) := by decide +kernel
theorem dX8_give_89 : decode cX8_give 89 = .ok (.aload 4, 2) := by decide +kernel
theorem dX8_give_91 : decode cX8_give 91 = .ok (.iload 5, 2) := by decide +kernel
theorem dX8_give_93 : decode cX8_give 93 = .ok (.putfield 165, 3) := by decide +kernel
theorem dX8_give_96 : decode cX8_give 96 = .ok (.iload 5, 2) := by decide +kernel
theorem dX8_give_98 : decode cX8_give 98 = .ok (.ireturn, 1) := by decide +kernel
theorem dX8_undo_0 : decode cX8_undo 0 = .ok (.aload_n 0, 1) := by decide +kernel
theorem dX8_undo_1 : decode cX8_undo 1 = .ok (.getfield 39, 3) := by decide +kernel
theorem dX8_undo_4 : decode cX8_undo 4 = .ok (.getfield 170, 3) := by decide +kernel
theorem dX8_undo_7 : decode cX8_undo 7 = .ok (.ifCond .ne 6, 3) := by decide +kernel
theorem dX8_undo_10 : decode cX8_undo 10 = .ok (.ldc 143, 2) := by decide +kernel
theorem dX8_undo_12 : decode cX8_undo 12 = .ok (.ireturn, 1) := by decide +kernel
theorem dX8_undo_13 : decode cX8_undo 13 = .ok (.aload_n 0, 1) := by decide +kernel
theorem dX8_undo_14 : decode cX8_undo 14 = .ok (.getfield 39, 3) := by decide +kernel
theorem dX8_undo_17 : decode cX8_undo 17 = .ok (.aload_n 0, 1) := by decide +kernel
theorem dX8_undo_18 : decode cX8_undo 18 = .ok (.getfield 25, 3) := by decide +kernel
theorem dX8_undo_21 : decode cX8_undo 21 = .ok (.invokevirtual 171, 3) := by decide +kernel
theorem dX8_undo_24 : decode cX8_undo 24 = .ok (.aload_n 0, 1) := by decide +kernel
theorem dX8_undo_25 : decode cX8_undo 25 = .ok (.getfield 39, 3) := by decide +kernel
theorem dX8_undo_28 : decode cX8_undo 28 = .ok (.getfield 170, 3) := by decide +kernel
theorem dX8_undo_31 : decode cX8_undo 31 = .ok (.ireturn, 1) := by decide +kernel
theorem dX8_walker_0 : decode cX8_walker 0 = .ok (.aload_n 0, 1) := by decide +kernel
theorem dX8_walker_1 : decode cX8_walker 1 = .ok (.iload_n 1, 1) := by decide +kernel
theorem dX8_walker_2 : decode cX8_walker 2 = .ok (.invokevirtual 157, 3) := by decide +kernel
theorem dX8_walker_5 : decode cX8_walker 5 = .ok (.ifCond .ne 6, 3) := by decide +kernel
theorem dX8_walker_8 : decode cX8_walker 8 = .ok (.ldc 62, 2) := by decide +kernel
theorem dX8_walker_10 : decode cX8_walker 10 = .ok (.ireturn, 1) := by decide +kernel
theorem dX8_walker_11 : decode cX8_walker 11 = .ok (.aload_n 0, 1) := by decide +kernel
theorem dX8_walker_12 : decode cX8_walker 12 = .ok (.getfield 25, 3) := by decide +kernel
theorem dX8_walker_15 : decode cX8_walker 15 = .ok (.getfield 124, 3) := by decide +kernel
theorem dX8_walker_18 : decode cX8_walker 18 = .ok (.getfield 161, 3) := by decide +kernel
theorem dX8_walker_21 : decode cX8_walker 21 = .ok (.iload_n 1, 1) := by decide +kernel
theorem dX8_walker_22 : decode cX8_walker 22 = .ok (.aaload, 1) := by decide +kernel
theorem dX8_walker_23 : decode cX8_walker 23 = .ok (.astore_n 3, 1) := by decide +kernel
theorem dX8_walker_24 : decode cX8_walker 24 = .ok (.iload_n 2, 1) := by decide +kernel
theorem dX8_walker_25 : decode cX8_walker 25 = .ok (.tableswitch 106 0 5 #[39, 44, 49, 54, 59, 64], 39) := by decide +kernel
theorem dX8_walker_64 : decode cX8_walker 64 = .ok (.aload_n 3, 1) := by decide +kernel
theorem dX8_walker_65 : decode cX8_walker 65 = .ok (.getfield 174, 3) := by decide +kernel
theorem dX8_walker_68 : decode cX8_walker 68 = .ok (.ireturn, 1) := by decide +kernel
theorem dX8_walker_69 : decode cX8_walker 69 = .ok (.aload_n 3, 1) := by decide +kernel
theorem dX8_walker_70 : decode cX8_walker 70 = .ok (.getfield 165, 3) := by decide +kernel
theorem dX8_walker_73 : decode cX8_walker 73 = .ok (.ireturn, 1) := by decide +kernel
theorem dX8_walker_74 : decode cX8_walker 74 = .ok (.aload_n 3, 1) := by decide +kernel
theorem dX8_walker_75 : decode cX8_walker 75 = .ok (.getfield 177, 3) := by decide +kernel
theorem dX8_walker_78 : decode cX8_walker 78 = .ok (.ireturn, 1) := by decide +kernel
theorem dX8_walker_79 : decode cX8_walker 79 = .ok (.aload_n 3, 1) := by decide +kernel
theorem dX8_walker_80 : decode cX8_walker 80 = .ok (.getfield 180, 3) := by decide +kernel
theorem dX8_walker_83 : decode cX8_walker 83 = .ok (.ireturn, 1) := by decide +kernel
theorem dX8_walker_84 : decode cX8_walker 84 = .ok (.aload_n 3, 1) := by decide +kernel
theorem dX8_walker_85 : decode cX8_walker 85 = .ok (.getfield 183, 3) := by decide +kernel
theorem dX8_walker_88 : decode cX8_walker 88 = .ok (.ireturn, 1) := by decide +kernel
theorem dX8_walker_89 : decode cX8_walker 89 = .ok (.aload_n 0, 1) := by decide +kernel
theorem dX8_walker_90 : decode cX8_walker 90 = .ok (.getfield 25, 3) := by decide +kernel
theorem dX8_walker_93 : decode cX8_walker 93 = .ok (.getfield 137, 3) := by decide +kernel
theorem dX8_walker_96 : decode cX8_walker 96 = .ok (.aload_n 0, 1) := by decide +kernel
theorem dX8_walker_97 : decode cX8_walker 97 = .ok (.getfield 25, 3) := by decide +kernel
theorem dX8_walker_100 : decode cX8_walker 100 = .ok (.getfield 140, 3) := by decide +kernel
theorem dX8_walker_103 : decode cX8_walker 103 = .ok (.if_icmp .ge 25, 3) := by decide +kernel
theorem dX8_walker_106 : decode cX8_walker 106 = .ok (.aload_n 3, 1) := by decide +kernel
theorem dX8_walker_107 : decode cX8_walker 107 = .ok (.aload_n 0, 1) := by decide +kernel
theorem dX8_walker_108 : decode cX8_walker 108 = .ok (.getfield 25, 3) := by decide +kernel
theorem dX8_walker_111 : decode cX8_walker 111 = .ok (.getfield 186, 3) := by decide +kernel
theorem dX8_walker_114 : decode cX8_walker 114 = .ok (.aload_n 0, 1) := by decide +kernel
theorem dX8_walker_115 : decode cX8_walker 115 = .ok (.getfield 25, 3) := by decide +kernel
theorem dX8_walker_118 : decode cX8_walker 118 = .ok (.getfield 137, 3) := by decide +kernel
theorem dX8_walker_121 : decode cX8_walker 121 = .ok (.iaload, 1) := by decide +kernel
theorem dX8_walker_122 : decode cX8_walker 122 = .ok (.invokevirtual 189, 3) := by decide +kernel
theorem dX8_walker_125 : decode cX8_walker 125 = .ok (.goto 5, 3) := by decide +kernel
theorem dX8_walker_128 : decode cX8_walker 128 = .ok (.ldc 192, 2) := by decide +kernel
theorem dX8_walker_130 : decode cX8_walker 130 = .ok (.ireturn, 1) := by decide +kernel
theorem dX8_walker_131 : decode cX8_walker 131 = .ok (.ldc 62, 2) := by decide +kernel
theorem dX8_walker_133 : decode cX8_walker 133 = .ok (.ireturn, 1) := by decide +kernel
theorem dX8_leg_0 : decode cX8_leg 0 = .ok (.iload_n 1, 1) := by decide +kernel
theorem dX8_leg_1 : decode cX8_leg 1 = .ok (.aload_n 0, 1) := by decide +kernel
theorem dX8_leg_2 : decode cX8_leg 2 = .ok (.getfield 25, 3) := by decide +kernel
theorem dX8_leg_5 : decode cX8_leg 5 = .ok (.getfield 140, 3) := by decide +kernel
theorem dX8_leg_8 : decode cX8_leg 8 = .ok (.invokestatic 58, 3) := by decide +kernel
theorem dX8_leg_11 : decode cX8_leg 11 = .ok (.ifCond .eq 15, 3) := by decide +kernel
theorem dX8_leg_14 : decode cX8_leg 14 = .ok (.aload_n 0, 1) := by decide +kernel
theorem dX8_leg_15 : decode cX8_leg 15 = .ok (.getfield 25, 3) := by decide +kernel
theorem dX8_leg_18 : decode cX8_leg 18 = .ok (.getfield 186, 3) := by decide +kernel
theorem dX8_leg_21 : decode cX8_leg 21 = .ok (.iload_n 1, 1) := by decide +kernel
theorem dX8_leg_22 : decode cX8_leg 22 = .ok (.iaload, 1) := by decide +kernel
theorem dX8_leg_23 : decode cX8_leg 23 = .ok (.goto 5, 3) := by decide +kernel
theorem dX8_leg_26 : decode cX8_leg 26 = .ok (.ldc 62, 2) := by decide +kernel
theorem dX8_leg_28 : decode cX8_leg 28 = .ok (.ireturn, 1) := by decide +kernel
theorem dX8_mends_0 : decode cX8_mends 0 = .ok (.iload_n 1, 1) := by decide +kernel
theorem dX8_mends_1 : decode cX8_mends 1 = .ok (.sipush 1000, 3) := by decide +kernel
theorem dX8_mends_4 : decode cX8_mends 4 = .ok (.invokestatic 58, 3) := by decide +kernel
theorem dX8_mends_7 : decode cX8_mends 7 = .ok (.ifCond .eq 10, 3) := by decide +kernel
theorem dX8_mends_10 : decode cX8_mends 10 = .ok (.iload_n 1, 1) := by decide +kernel
theorem dX8_mends_11 : decode cX8_mends 11 = .ok (.invokestatic 193, 3) := by decide +kernel
theorem dX8_mends_14 : decode cX8_mends 14 = .ok (.goto 5, 3) := by decide +kernel
theorem dX8_mends_17 : decode cX8_mends 17 = .ok (.ldc 62, 2) := by decide +kernel
theorem dX8_mends_19 : decode cX8_mends 19 = .ok (.ireturn, 1) := by decide +kernel
theorem dX8_there_0 : decode cX8_there 0 = .ok (.aload_n 0, 1) := by decide +kernel
theorem dX8_there_1 : decode cX8_there 1 = .ok (.iload_n 1, 1) := by decide +kernel
theorem dX8_there_2 : decode cX8_there 2 = .ok (.invokevirtual 157, 3) := by decide +kernel
theorem dX8_there_5 : decode cX8_there 5 = .ok (.ifCond .eq 11, 3) := by decide +kernel
theorem dX8_there_8 : decode cX8_there 8 = .ok (.iload_n 2, 1) := by decide +kernel
theorem dX8_there_9 : decode cX8_there 9 = .ok (.iconst 3, 1) := by decide +kernel
theorem dX8_there_10 : decode cX8_there 10 = .ok (.invokestatic 58, 3) := by decide +kernel
theorem dX8_there_13 : decode cX8_there 13 = .ok (.ifCond .ne 6, 3) := by decide +kernel
theorem dX8_there_16 : decode cX8_there 16 = .ok (.ldc 62, 2) := by decide +kernel
theorem dX8_there_18 : decode cX8_there 18 = .ok (.ireturn, 1) := by decide +kernel
theorem dX8_there_19 : decode cX8_there 19 = .ok (.aload_n 0, 1) := by decide +kernel
theorem dX8_there_20 : decode cX8_there 20 = .ok (.getfield 46, 3) := by decide +kernel
theorem dX8_there_23 : decode cX8_there 23 = .ok (.aload_n 0, 1) := by decide +kernel
theorem dX8_there_24 : decode cX8_there 24 = .ok (.getfield 25, 3) := by decide +kernel
theorem dX8_there_27 : decode cX8_there 27 = .ok (.aload_n 0, 1) := by decide +kernel
theorem dX8_there_28 : decode cX8_there 28 = .ok (.getfield 25, 3) := by decide +kernel
theorem dX8_there_31 : decode cX8_there 31 = .ok (.getfield 147, 3) := by decide +kernel
theorem dX8_there_34 : decode cX8_there 34 = .ok (.aload_n 0, 1) := by decide +kernel
theorem dX8_there_35 : decode cX8_there 35 = .ok (.getfield 25, 3) := by decide +kernel
theorem dX8_there_38 : decode cX8_there 38 = .ok (.getfield 150, 3) := by decide +kernel
theorem dX8_there_41 : decode cX8_there 41 = .ok (.invokevirtual 196, 3) := by decide +kernel
theorem dX8_there_44 : decode cX8_there 44 = .ok (.pop, 1) := by decide +kernel
theorem dX8_there_45 : decode cX8_there 45 = .ok (.aload_n 0, 1) := by decide +kernel
theorem dX8_there_46 : decode cX8_there 46 = .ok (.getfield 46, 3) := by decide +kernel
theorem dX8_there_49 : decode cX8_there 49 = .ok (.getfield 200, 3) := by decide +kernel
theorem dX8_there_52 : decode cX8_there 52 = .ok (.getfield 161, 3) := by decide +kernel
theorem dX8_there_55 : decode cX8_there 55 = .ok (.iload_n 1, 1) := by decide +kernel
theorem dX8_there_56 : decode cX8_there 56 = .ok (.aaload, 1) := by decide +kernel
theorem dX8_there_57 : decode cX8_there 57 = .ok (.astore_n 3, 1) := by decide +kernel
theorem dX8_there_58 : decode cX8_there 58 = .ok (.iload_n 2, 1) := by decide +kernel
theorem dX8_there_59 : decode cX8_there 59 = .ok (.ifCond .ne 8, 3) := by decide +kernel
theorem dX8_there_62 : decode cX8_there 62 = .ok (.aload_n 3, 1) := by decide +kernel
theorem dX8_there_63 : decode cX8_there 63 = .ok (.getfield 180, 3) := by decide +kernel
theorem dX8_there_66 : decode cX8_there 66 = .ok (.ireturn, 1) := by decide +kernel
theorem dX8_there_67 : decode cX8_there 67 = .ok (.iload_n 2, 1) := by decide +kernel
theorem dX8_there_68 : decode cX8_there 68 = .ok (.iconst 1, 1) := by decide +kernel
theorem dX8_there_69 : decode cX8_there 69 = .ok (.if_icmp .ne 10, 3) := by decide +kernel
theorem dX8_there_72 : decode cX8_there 72 = .ok (.aload_n 3, 1) := by decide +kernel
theorem dX8_there_73 : decode cX8_there 73 = .ok (.getfield 183, 3) := by decide +kernel
theorem dX8_there_76 : decode cX8_there 76 = .ok (.goto 7, 3) := by decide +kernel
theorem dX8_there_79 : decode cX8_there 79 = .ok (.aload_n 3, 1) := by decide +kernel
theorem dX8_there_80 : decode cX8_there 80 = .ok (.getfield 177, 3) := by decide +kernel
theorem dX8_there_83 : decode cX8_there 83 = .ok (.ireturn, 1) := by decide +kernel
theorem dX8_allThere_0 : decode cX8_allThere 0 = .ok (.aload_n 0, 1) := by decide +kernel
theorem dX8_allThere_1 : decode cX8_allThere 1 = .ok (.getfield 25, 3) := by decide +kernel
theorem dX8_allThere_4 : decode cX8_allThere 4 = .ok (.getfield 134, 3) := by decide +kernel
theorem dX8_allThere_7 : decode cX8_allThere 7 = .ok (.ifCond .eq 31, 3) := by decide +kernel
theorem dX8_allThere_10 : decode cX8_allThere 10 = .ok (.aload_n 0, 1) := by decide +kernel
theorem dX8_allThere_11 : decode cX8_allThere 11 = .ok (.getfield 46, 3) := by decide +kernel
theorem dX8_allThere_14 : decode cX8_allThere 14 = .ok (.aload_n 0, 1) := by decide +kernel
theorem dX8_allThere_15 : decode cX8_allThere 15 = .ok (.getfield 25, 3) := by decide +kernel
theorem dX8_allThere_18 : decode cX8_allThere 18 = .ok (.aload_n 0, 1) := by decide +kernel
theorem dX8_allThere_19 : decode cX8_allThere 19 = .ok (.getfield 25, 3) := by decide +kernel
theorem dX8_allThere_22 : decode cX8_allThere 22 = .ok (.getfield 147, 3) := by decide +kernel
theorem dX8_allThere_25 : decode cX8_allThere 25 = .ok (.aload_n 0, 1) := by decide +kernel
theorem dX8_allThere_26 : decode cX8_allThere 26 = .ok (.getfield 25, 3) := by decide +kernel
theorem dX8_allThere_29 : decode cX8_allThere 29 = .ok (.getfield 150, 3) := by decide +kernel
theorem dX8_allThere_32 : decode cX8_allThere 32 = .ok (.invokevirtual 196, 3) := by decide +kernel
theorem dX8_allThere_35 : decode cX8_allThere 35 = .ok (.goto 5, 3) := by decide +kernel
theorem dX8_allThere_38 : decode cX8_allThere 38 = .ok (.ldc 143, 2) := by decide +kernel
theorem dX8_allThere_40 : decode cX8_allThere 40 = .ok (.ireturn, 1) := by decide +kernel
theorem dX8_soonest_0 : decode cX8_soonest 0 = .ok (.aload_n 0, 1) := by decide +kernel
theorem dX8_soonest_1 : decode cX8_soonest 1 = .ok (.getfield 25, 3) := by decide +kernel
theorem dX8_soonest_4 : decode cX8_soonest 4 = .ok (.getfield 134, 3) := by decide +kernel
theorem dX8_soonest_7 : decode cX8_soonest 7 = .ok (.ifCond .ne 6, 3) := by decide +kernel
theorem dX8_soonest_10 : decode cX8_soonest 10 = .ok (.ldc 143, 2) := by decide +kernel
theorem dX8_soonest_12 : decode cX8_soonest 12 = .ok (.ireturn, 1) := by decide +kernel
theorem dX8_soonest_13 : decode cX8_soonest 13 = .ok (.iload_n 1, 1) := by decide +kernel
theorem dX8_soonest_14 : decode cX8_soonest 14 = .ok (.iconst 3, 1) := by decide +kernel
theorem dX8_soonest_15 : decode cX8_soonest 15 = .ok (.invokestatic 58, 3) := by decide +kernel
theorem dX8_soonest_18 : decode cX8_soonest 18 = .ok (.ifCond .ne 6, 3) := by decide +kernel
theorem dX8_soonest_21 : decode cX8_soonest 21 = .ok (.ldc 62, 2) := by decide +kernel
theorem dX8_soonest_23 : decode cX8_soonest 23 = .ok (.ireturn, 1) := by decide +kernel
theorem dX8_soonest_24 : decode cX8_soonest 24 = .ok (.aload_n 0, 1) := by decide +kernel
theorem dX8_soonest_25 : decode cX8_soonest 25 = .ok (.getfield 46, 3) := by decide +kernel
theorem dX8_soonest_28 : decode cX8_soonest 28 = .ok (.aload_n 0, 1) := by decide +kernel
theorem dX8_soonest_29 : decode cX8_soonest 29 = .ok (.getfield 25, 3) := by decide +kernel
theorem dX8_soonest_32 : decode cX8_soonest 32 = .ok (.invokevirtual 201, 3) := by decide +kernel
theorem dX8_soonest_35 : decode cX8_soonest 35 = .ok (.aload_n 0, 1) := by decide +kernel
theorem dX8_soonest_36 : decode cX8_soonest 36 = .ok (.getfield 46, 3) := by decide +kernel
theorem dX8_soonest_39 : decode cX8_soonest 39 = .ok (.iload_n 1, 1) := by decide +kernel
theorem dX8_soonest_40 : decode cX8_soonest 40 = .ok (.invokevirtual 204, 3) := by decide +kernel
theorem dX8_soonest_43 : decode cX8_soonest 43 = .ok (.ireturn, 1) := by decide +kernel
theorem dX8_loses_0 : decode cX8_loses 0 = .ok (.aload_n 0, 1) := by decide +kernel
theorem dX8_loses_1 : decode cX8_loses 1 = .ok (.iload_n 1, 1) := by decide +kernel
theorem dX8_loses_2 : decode cX8_loses 2 = .ok (.invokevirtual 157, 3) := by decide +kernel
theorem dX8_loses_5 : decode cX8_loses 5 = .ok (.ifCond .ne 6, 3) := by decide +kernel
theorem dX8_loses_8 : decode cX8_loses 8 = .ok (.ldc 62, 2) := by decide +kernel
theorem dX8_loses_10 : decode cX8_loses 10 = .ok (.ireturn, 1) := by decide +kernel
theorem dX8_loses_11 : decode cX8_loses 11 = .ok (.aload_n 0, 1) := by decide +kernel
theorem dX8_loses_12 : decode cX8_loses 12 = .ok (.getfield 46, 3) := by decide +kernel
theorem dX8_loses_15 : decode cX8_loses 15 = .ok (.getfield 200, 3) := by decide +kernel
theorem dX8_loses_18 : decode cX8_loses 18 = .ok (.getfield 161, 3) := by decide +kernel
theorem dX8_loses_21 : decode cX8_loses 21 = .ok (.iload_n 1, 1) := by decide +kernel
theorem dX8_loses_22 : decode cX8_loses 22 = .ok (.aaload, 1) := by decide +kernel
theorem dX8_loses_23 : decode cX8_loses 23 = .ok (.astore_n 2, 1) := by decide +kernel
theorem dX8_loses_24 : decode cX8_loses 24 = .ok (.aload_n 0, 1) := by decide +kernel
theorem dX8_loses_25 : decode cX8_loses 25 = .ok (.getfield 46, 3) := by decide +kernel
theorem dX8_loses_28 : decode cX8_loses 28 = .ok (.aload_n 0, 1) := by decide +kernel
theorem dX8_loses_29 : decode cX8_loses 29 = .ok (.getfield 25, 3) := by decide +kernel
theorem dX8_loses_32 : decode cX8_loses 32 = .ok (.aload_n 0, 1) := by decide +kernel
theorem dX8_loses_33 : decode cX8_loses 33 = .ok (.getfield 25, 3) := by decide +kernel
theorem dX8_loses_36 : decode cX8_loses 36 = .ok (.getfield 147, 3) := by decide +kernel
theorem dX8_loses_39 : decode cX8_loses 39 = .ok (.aload_n 0, 1) := by decide +kernel
theorem dX8_loses_40 : decode cX8_loses 40 = .ok (.getfield 25, 3) := by decide +kernel
theorem dX8_loses_43 : decode cX8_loses 43 = .ok (.getfield 150, 3) := by decide +kernel
theorem dX8_loses_46 : decode cX8_loses 46 = .ok (.invokevirtual 196, 3) := by decide +kernel
theorem dX8_loses_49 : decode cX8_loses 49 = .ok (.pop, 1) := by decide +kernel
theorem dX8_loses_50 : decode cX8_loses 50 = .ok (.aload_n 2, 1) := by decide +kernel
theorem dX8_loses_51 : decode cX8_loses 51 = .ok (.getfield 180, 3) := by decide +kernel
theorem dX8_loses_54 : decode cX8_loses 54 = .ok (.istore_n 3, 1) := by decide +kernel
theorem dX8_loses_55 : decode cX8_loses 55 = .ok (.aload_n 0, 1) := by decide +kernel
theorem dX8_loses_56 : decode cX8_loses 56 = .ok (.getfield 46, 3) := by decide +kernel
theorem dX8_loses_59 : decode cX8_loses 59 = .ok (.aload_n 0, 1) := by decide +kernel
theorem dX8_loses_60 : decode cX8_loses 60 = .ok (.getfield 25, 3) := by decide +kernel
theorem dX8_loses_63 : decode cX8_loses 63 = .ok (.iconst 3, 1) := by decide +kernel
theorem dX8_loses_64 : decode cX8_loses 64 = .ok (.iconst 0, 1) := by decide +kernel
theorem dX8_loses_65 : decode cX8_loses 65 = .ok (.invokevirtual 196, 3) := by decide +kernel
theorem dX8_loses_68 : decode cX8_loses 68 = .ok (.pop, 1) := by decide +kernel
theorem dX8_loses_69 : decode cX8_loses 69 = .ok (.iload_n 3, 1) := by decide +kernel
theorem dX8_loses_70 : decode cX8_loses 70 = .ok (.aload_n 2, 1) := by decide +kernel
theorem dX8_loses_71 : decode cX8_loses 71 = .ok (.getfield 180, 3) := by decide +kernel
theorem dX8_loses_74 : decode cX8_loses 74 = .ok (.isub, 1) := by decide +kernel
theorem dX8_loses_75 : decode cX8_loses 75 = .ok (.ireturn, 1) := by decide +kernel
theorem dX8_fair_0 : decode cX8_fair 0 = .ok (.aload_n 0, 1) := by decide +kernel
theorem dX8_fair_1 : decode cX8_fair 1 = .ok (.getfield 25, 3) := by decide +kernel
theorem dX8_fair_4 : decode cX8_fair 4 = .ok (.getfield 134, 3) := by decide +kernel
theorem dX8_fair_7 : decode cX8_fair 7 = .ok (.ifCond .ne 6, 3) := by decide +kernel
theorem dX8_fair_10 : decode cX8_fair 10 = .ok (.ldc 143, 2) := by decide +kernel
theorem dX8_fair_12 : decode cX8_fair 12 = .ok (.ireturn, 1) := by decide +kernel
theorem dX8_fair_13 : decode cX8_fair 13 = .ok (.iload_n 1, 1) := by decide +kernel
theorem dX8_fair_14 : decode cX8_fair 14 = .ok (.iconst 3, 1) := by decide +kernel
theorem dX8_fair_15 : decode cX8_fair 15 = .ok (.invokestatic 58, 3) := by decide +kernel
theorem dX8_fair_18 : decode cX8_fair 18 = .ok (.ifCond .ne 6, 3) := by decide +kernel
theorem dX8_fair_21 : decode cX8_fair 21 = .ok (.ldc 62, 2) := by decide +kernel
theorem dX8_fair_23 : decode cX8_fair 23 = .ok (.ireturn, 1) := by decide +kernel
theorem dX8_fair_24 : decode cX8_fair 24 = .ok (.aload_n 0, 1) := by decide +kernel
theorem dX8_fair_25 : decode cX8_fair 25 = .ok (.getfield 25, 3) := by decide +kernel
theorem dX8_fair_28 : decode cX8_fair 28 = .ok (.getfield 124, 3) := by decide +kernel
theorem dX8_fair_31 : decode cX8_fair 31 = .ok (.getfield 128, 3) := by decide +kernel
theorem dX8_fair_34 : decode cX8_fair 34 = .ok (.ifCond .ne 6, 3) := by decide +kernel
theorem dX8_fair_37 : decode cX8_fair 37 = .ok (.ldc 192, 2) := by decide +kernel
theorem dX8_fair_39 : decode cX8_fair 39 = .ok (.ireturn, 1) := by decide +kernel
theorem dX8_fair_40 : decode cX8_fair 40 = .ok (.aload_n 0, 1) := by decide +kernel
theorem dX8_fair_41 : decode cX8_fair 41 = .ok (.getfield 46, 3) := by decide +kernel
theorem dX8_fair_44 : decode cX8_fair 44 = .ok (.aload_n 0, 1) := by decide +kernel
theorem dX8_fair_45 : decode cX8_fair 45 = .ok (.getfield 25, 3) := by decide +kernel
theorem dX8_fair_48 : decode cX8_fair 48 = .ok (.invokevirtual 207, 3) := by decide +kernel
theorem dX8_fair_51 : decode cX8_fair 51 = .ok (.aload_n 0, 1) := by decide +kernel
theorem dX8_fair_52 : decode cX8_fair 52 = .ok (.getfield 46, 3) := by decide +kernel
theorem dX8_fair_55 : decode cX8_fair 55 = .ok (.iload_n 1, 1) := by decide +kernel
theorem dX8_fair_56 : decode cX8_fair 56 = .ok (.invokevirtual 204, 3) := by decide +kernel
theorem dX8_fair_59 : decode cX8_fair 59 = .ok (.ireturn, 1) := by decide +kernel
theorem dX8_sacks_0 : decode cX8_sacks 0 = .ok (.aload_n 0, 1) := by decide +kernel
theorem dX8_sacks_1 : decode cX8_sacks 1 = .ok (.getfield 25, 3) := by decide +kernel
theorem dX8_sacks_4 : decode cX8_sacks 4 = .ok (.getfield 134, 3) := by decide +kernel
theorem dX8_sacks_7 : decode cX8_sacks 7 = .ok (.ifCond .ne 6, 3) := by decide +kernel
theorem dX8_sacks_10 : decode cX8_sacks 10 = .ok (.ldc 143, 2) := by decide +kernel
theorem dX8_sacks_12 : decode cX8_sacks 12 = .ok (.ireturn, 1) := by decide +kernel
theorem dX8_sacks_13 : decode cX8_sacks 13 = .ok (.iload_n 1, 1) := by decide +kernel
theorem dX8_sacks_14 : decode cX8_sacks 14 = .ok (.iconst (-1), 1) := by decide +kernel
theorem dX8_sacks_15 : decode cX8_sacks 15 = .ok (.if_icmp .eq 14, 3) := by decide +kernel
theorem dX8_sacks_18 : decode cX8_sacks 18 = .ok (.aload_n 0, 1) := by decide +kernel
theorem dX8_sacks_19 : decode cX8_sacks 19 = .ok (.iload_n 1, 1) := by decide +kernel
theorem dX8_sacks_20 : decode cX8_sacks 20 = .ok (.invokevirtual 157, 3) := by decide +kernel
theorem dX8_sacks_23 : decode cX8_sacks 23 = .ok (.ifCond .ne 6, 3) := by decide +kernel
theorem dX8_sacks_26 : decode cX8_sacks 26 = .ok (.ldc 62, 2) := by decide +kernel
theorem dX8_sacks_28 : decode cX8_sacks 28 = .ok (.ireturn, 1) := by decide +kernel
theorem dX8_sacks_29 : decode cX8_sacks 29 = .ok (.aload_n 0, 1) := by decide +kernel
theorem dX8_sacks_30 : decode cX8_sacks 30 = .ok (.getfield 46, 3) := by decide +kernel
theorem dX8_sacks_33 : decode cX8_sacks 33 = .ok (.aload_n 0, 1) := by decide +kernel
theorem dX8_sacks_34 : decode cX8_sacks 34 = .ok (.getfield 25, 3) := by decide +kernel
theorem dX8_sacks_37 : decode cX8_sacks 37 = .ok (.invokevirtual 210, 3) := by decide +kernel
theorem dX8_sacks_40 : decode cX8_sacks 40 = .ok (.iload_n 1, 1) := by decide +kernel
theorem dX8_sacks_41 : decode cX8_sacks 41 = .ok (.iconst (-1), 1) := by decide +kernel
theorem dX8_sacks_42 : decode cX8_sacks 42 = .ok (.if_icmp .ne 13, 3) := by decide +kernel
theorem dX8_sacks_45 : decode cX8_sacks 45 = .ok (.aload_n 0, 1) := by decide +kernel
theorem dX8_sacks_46 : decode cX8_sacks 46 = .ok (.getfield 46, 3) := by decide +kernel
theorem dX8_sacks_49 : decode cX8_sacks 49 = .ok (.getfield 213, 3) := by decide +kernel
theorem dX8_sacks_52 : decode cX8_sacks 52 = .ok (.goto 12, 3) := by decide +kernel
theorem dX8_sacks_55 : decode cX8_sacks 55 = .ok (.aload_n 0, 1) := by decide +kernel
theorem dX8_sacks_56 : decode cX8_sacks 56 = .ok (.getfield 46, 3) := by decide +kernel
theorem dX8_sacks_59 : decode cX8_sacks 59 = .ok (.getfield 216, 3) := by decide +kernel
theorem dX8_sacks_62 : decode cX8_sacks 62 = .ok (.iload_n 1, 1) := by decide +kernel
theorem dX8_sacks_63 : decode cX8_sacks 63 = .ok (.iaload, 1) := by decide +kernel
theorem dX8_sacks_64 : decode cX8_sacks 64 = .ok (.ireturn, 1) := by decide +kernel
theorem dX8_parties_0 : decode cX8_parties 0 = .ok (.aload_n 0, 1) := by decide +kernel
theorem dX8_parties_1 : decode cX8_parties 1 = .ok (.getfield 25, 3) := by decide +kernel
theorem dX8_parties_4 : decode cX8_parties 4 = .ok (.getfield 134, 3) := by decide +kernel
theorem dX8_parties_7 : decode cX8_parties 7 = .ok (.ifCond .ne 6, 3) := by decide +kernel
theorem dX8_parties_10 : decode cX8_parties 10 = .ok (.ldc 143, 2) := by decide +kernel
theorem dX8_parties_12 : decode cX8_parties 12 = .ok (.ireturn, 1) := by decide +kernel
theorem dX8_parties_13 : decode cX8_parties 13 = .ok (.iload_n 1, 1) := by decide +kernel
theorem dX8_parties_14 : decode cX8_parties 14 = .ok (.iconst 2, 1) := by decide +kernel
theorem dX8_parties_15 : decode cX8_parties 15 = .ok (.invokestatic 58, 3) := by decide +kernel
theorem dX8_parties_18 : decode cX8_parties 18 = .ok (.ifCond .ne 6, 3) := by decide +kernel
theorem dX8_parties_21 : decode cX8_parties 21 = .ok (.ldc 62, 2) := by decide +kernel
theorem dX8_parties_23 : decode cX8_parties 23 = .ok (.ireturn, 1) := by decide +kernel
theorem dX8_parties_24 : decode cX8_parties 24 = .ok (.aload_n 0, 1) := by decide +kernel
theorem dX8_parties_25 : decode cX8_parties 25 = .ok (.getfield 46, 3) := by decide +kernel
theorem dX8_parties_28 : decode cX8_parties 28 = .ok (.aload_n 0, 1) := by decide +kernel
theorem dX8_parties_29 : decode cX8_parties 29 = .ok (.getfield 25, 3) := by decide +kernel
theorem dX8_parties_32 : decode cX8_parties 32 = .ok (.invokevirtual 219, 3) := by decide +kernel
theorem dX8_parties_35 : decode cX8_parties 35 = .ok (.iload_n 1, 1) := by decide +kernel
theorem dX8_parties_36 : decode cX8_parties 36 = .ok (.ifCond .ne 13, 3) := by decide +kernel
theorem dX8_parties_39 : decode cX8_parties 39 = .ok (.aload_n 0, 1) := by decide +kernel
theorem dX8_parties_40 : decode cX8_parties 40 = .ok (.getfield 46, 3) := by decide +kernel
theorem dX8_parties_43 : decode cX8_parties 43 = .ok (.getfield 222, 3) := by decide +kernel
theorem dX8_parties_46 : decode cX8_parties 46 = .ok (.goto 10, 3) := by decide +kernel
theorem dX8_parties_49 : decode cX8_parties 49 = .ok (.aload_n 0, 1) := by decide +kernel
theorem dX8_parties_50 : decode cX8_parties 50 = .ok (.getfield 46, 3) := by decide +kernel
theorem dX8_parties_53 : decode cX8_parties 53 = .ok (.getfield 213, 3) := by decide +kernel
theorem dX8_parties_56 : decode cX8_parties 56 = .ok (.ireturn, 1) := by decide +kernel
theorem dX8_turn_0 : decode cX8_turn 0 = .ok (.aload_n 0, 1) := by decide +kernel
theorem dX8_turn_1 : decode cX8_turn 1 = .ok (.getfield 25, 3) := by decide +kernel
theorem dX8_turn_4 : decode cX8_turn 4 = .ok (.getfield 134, 3) := by decide +kernel
theorem dX8_turn_7 : decode cX8_turn 7 = .ok (.ifCond .eq 17, 3) := by decide +kernel
theorem dX8_turn_10 : decode cX8_turn 10 = .ok (.aload_n 0, 1) := by decide +kernel
theorem dX8_turn_11 : decode cX8_turn 11 = .ok (.getfield 46, 3) := by decide +kernel
theorem dX8_turn_14 : decode cX8_turn 14 = .ok (.aload_n 0, 1) := by decide +kernel
theorem dX8_turn_15 : decode cX8_turn 15 = .ok (.getfield 25, 3) := by decide +kernel
theorem dX8_turn_18 : decode cX8_turn 18 = .ok (.invokevirtual 225, 3) := by decide +kernel
theorem dX8_turn_21 : decode cX8_turn 21 = .ok (.goto 5, 3) := by decide +kernel
theorem dX8_turn_24 : decode cX8_turn 24 = .ok (.ldc 143, 2) := by decide +kernel
theorem dX8_turn_26 : decode cX8_turn 26 = .ok (.ireturn, 1) := by decide +kernel
theorem dX8_fits_0 : decode cX8_fits 0 = .ok (.aload_n 0, 1) := by decide +kernel
theorem dX8_fits_1 : decode cX8_fits 1 = .ok (.iload_n 1, 1) := by decide +kernel
theorem dX8_fits_2 : decode cX8_fits 2 = .ok (.invokevirtual 157, 3) := by decide +kernel
theorem dX8_fits_5 : decode cX8_fits 5 = .ok (.ifCond .eq 12, 3) := by decide +kernel
theorem dX8_fits_8 : decode cX8_fits 8 = .ok (.iload_n 2, 1) := by decide +kernel
theorem dX8_fits_9 : decode cX8_fits 9 = .ok (.bipush 8, 2) := by decide +kernel
theorem dX8_fits_11 : decode cX8_fits 11 = .ok (.invokestatic 58, 3) := by decide +kernel
theorem dX8_fits_14 : decode cX8_fits 14 = .ok (.ifCond .ne 6, 3) := by decide +kernel
theorem dX8_fits_17 : decode cX8_fits 17 = .ok (.ldc 62, 2) := by decide +kernel
theorem dX8_fits_19 : decode cX8_fits 19 = .ok (.ireturn, 1) := by decide +kernel
theorem dX8_fits_20 : decode cX8_fits 20 = .ok (.iload 4, 2) := by decide +kernel
theorem dX8_fits_22 : decode cX8_fits 22 = .ok (.iconst 1, 1) := by decide +kernel
theorem dX8_fits_23 : decode cX8_fits 23 = .ok (.if_icmp .lt 19, 3) := by decide +kernel
theorem dX8_fits_26 : decode cX8_fits 26 = .ok (.iload 4, 2) := by decide +kernel
theorem dX8_fits_28 : decode cX8_fits 28 = .ok (.bipush 8, 2) := by decide +kernel
theorem dX8_fits_30 : decode cX8_fits 30 = .ok (.if_icmp .gt 12, 3) := by decide +kernel
theorem dX8_fits_33 : decode cX8_fits 33 = .ok (.iload 5, 2) := by decide +kernel
theorem dX8_fits_35 : decode cX8_fits 35 = .ok (.iconst 2, 1) := by decide +kernel
theorem dX8_fits_36 : decode cX8_fits 36 = .ok (.invokestatic 58, 3) := by decide +kernel
theorem dX8_fits_39 : decode cX8_fits 39 = .ok (.ifCond .ne 6, 3) := by decide +kernel
theorem dX8_fits_42 : decode cX8_fits 42 = .ok (.ldc 62, 2) := by decide +kernel
theorem dX8_fits_44 : decode cX8_fits 44 = .ok (.ireturn, 1) := by decide +kernel
theorem dX8_fits_45 : decode cX8_fits 45 = .ok (.iload 4, 2) := by decide +kernel
theorem dX8_fits_47 : decode cX8_fits 47 = .ok (.aload_n 0, 1) := by decide +kernel
theorem dX8_fits_48 : decode cX8_fits 48 = .ok (.getfield 25, 3) := by decide +kernel
theorem dX8_fits_51 : decode cX8_fits 51 = .ok (.getfield 140, 3) := by decide +kernel
theorem dX8_fits_54 : decode cX8_fits 54 = .ok (.aload_n 0, 1) := by decide +kernel
theorem dX8_fits_55 : decode cX8_fits 55 = .ok (.getfield 25, 3) := by decide +kernel
theorem dX8_fits_58 : decode cX8_fits 58 = .ok (.getfield 137, 3) := by decide +kernel
theorem dX8_fits_61 : decode cX8_fits 61 = .ok (.isub, 1) := by decide +kernel
theorem dX8_fits_62 : decode cX8_fits 62 = .ok (.if_icmp .le 6, 3) := by decide +kernel
theorem dX8_fits_65 : decode cX8_fits 65 = .ok (.ldc 143, 2) := by decide +kernel
theorem dX8_fits_67 : decode cX8_fits 67 = .ok (.ireturn, 1) := by decide +kernel
theorem dX8_fits_68 : decode cX8_fits 68 = .ok (.aload_n 0, 1) := by decide +kernel
theorem dX8_fits_69 : decode cX8_fits 69 = .ok (.getfield 11, 3) := by decide +kernel
theorem dX8_fits_72 : decode cX8_fits 72 = .ok (.iload_n 2, 1) := by decide +kernel
theorem dX8_fits_73 : decode cX8_fits 73 = .ok (.aaload, 1) := by decide +kernel
theorem dX8_fits_74 : decode cX8_fits 74 = .ok (.astore 6, 2) := by decide +kernel
theorem dX8_fits_76 : decode cX8_fits 76 = .ok (.aload 6, 2) := by decide +kernel
theorem dX8_fits_78 : decode cX8_fits 78 = .ok (.getfield 74, 3) := by decide +kernel
theorem dX8_fits_81 : decode cX8_fits 81 = .ok (.ifCond .eq 9, 3) := by decide +kernel
theorem dX8_fits_84 : decode cX8_fits 84 = .ok (.aload_n 0, 1) := by decide +kernel
theorem dX8_fits_85 : decode cX8_fits 85 = .ok (.iconst 1, 1) := by decide +kernel
theorem dX8_fits_86 : decode cX8_fits 86 = .ok (.invokevirtual 63, 3) := by decide +kernel
theorem dX8_fits_89 : decode cX8_fits 89 = .ok (.ireturn, 1) := by decide +kernel
theorem dX8_fits_90 : decode cX8_fits 90 = .ok (.aload 6, 2) := by decide +kernel
theorem dX8_fits_92 : decode cX8_fits 92 = .ok (.iload_n 3, 1) := by decide +kernel
theorem dX8_fits_93 : decode cX8_fits 93 = .ok (.iload 4, 2) := by decide +kernel
theorem dX8_fits_95 : decode cX8_fits 95 = .ok (.invokevirtual 89, 3) := by decide +kernel
theorem dX8_fits_98 : decode cX8_fits 98 = .ok (.ifCond .ne 9, 3) := by decide +kernel
theorem dX8_fits_101 : decode cX8_fits 101 = .ok (.aload_n 0, 1) := by decide +kernel
theorem dX8_fits_102 : decode cX8_fits 102 = .ok (.iconst 2, 1) := by decide +kernel
theorem dX8_fits_103 : decode cX8_fits 103 = .ok (.invokevirtual 63, 3) := by decide +kernel
theorem dX8_fits_106 : decode cX8_fits 106 = .ok (.ireturn, 1) := by decide +kernel
theorem dX8_fits_107 : decode cX8_fits 107 = .ok (.aload_n 0, 1) := by decide +kernel
theorem dX8_fits_108 : decode cX8_fits 108 = .ok (.getfield 46, 3) := by decide +kernel
theorem dX8_fits_111 : decode cX8_fits 111 = .ok (.aload_n 0, 1) := by decide +kernel
theorem dX8_fits_112 : decode cX8_fits 112 = .ok (.getfield 25, 3) := by decide +kernel
theorem dX8_fits_115 : decode cX8_fits 115 = .ok (.iload_n 1, 1) := by decide +kernel
theorem dX8_fits_116 : decode cX8_fits 116 = .ok (.aload 6, 2) := by decide +kernel
theorem dX8_fits_118 : decode cX8_fits 118 = .ok (.iload_n 3, 1) := by decide +kernel
theorem dX8_fits_119 : decode cX8_fits 119 = .ok (.iload 4, 2) := by decide +kernel
theorem dX8_fits_121 : decode cX8_fits 121 = .ok (.invokevirtual 229, 3) := by decide +kernel
theorem dX8_fits_124 : decode cX8_fits 124 = .ok (.aload_n 0, 1) := by decide +kernel
theorem dX8_fits_125 : decode cX8_fits 125 = .ok (.iload 5, 2) := by decide +kernel
theorem dX8_fits_127 : decode cX8_fits 127 = .ok (.ifCond .ne 13, 3) := by decide +kernel
theorem dX8_fits_130 : decode cX8_fits 130 = .ok (.aload_n 0, 1) := by decide +kernel
theorem dX8_fits_131 : decode cX8_fits 131 = .ok (.getfield 46, 3) := by decide +kernel
theorem dX8_fits_134 : decode cX8_fits 134 = .ok (.getfield 213, 3) := by decide +kernel
theorem dX8_fits_137 : decode cX8_fits 137 = .ok (.goto 10, 3) := by decide +kernel
theorem dX8_fits_140 : decode cX8_fits 140 = .ok (.aload_n 0, 1) := by decide +kernel
theorem dX8_fits_141 : decode cX8_fits 141 = .ok (.getfield 46, 3) := by decide +kernel
theorem dX8_fits_144 : decode cX8_fits 144 = .ok (.getfield 222, 3) := by decide +kernel
theorem dX8_fits_147 : decode cX8_fits 147 = .ok (.invokevirtual 71, 3) := by decide +kernel
theorem dX8_fits_150 : decode cX8_fits 150 = .ok (.ireturn, 1) := by decide +kernel
theorem dX8_image_0 : decode cX8_image 0 = .ok (.iload_n 1, 1) := by decide +kernel
theorem dX8_image_1 : decode cX8_image 1 = .ok (.aload_n 0, 1) := by decide +kernel
theorem dX8_image_2 : decode cX8_image 2 = .ok (.getfield 32, 3) := by decide +kernel
theorem dX8_image_5 : decode cX8_image 5 = .ok (.arraylength, 1) := by decide +kernel
theorem dX8_image_6 : decode cX8_image 6 = .ok (.invokestatic 58, 3) := by decide +kernel
theorem dX8_image_9 : decode cX8_image 9 = .ok (.ifCond .ne 6, 3) := by decide +kernel
theorem dX8_image_12 : decode cX8_image 12 = .ok (.ldc 62, 2) := by decide +kernel
theorem dX8_image_14 : decode cX8_image 14 = .ok (.ireturn, 1) := by decide +kernel
theorem dX8_image_15 : decode cX8_image 15 = .ok (.aload_n 0, 1) := by decide +kernel
theorem dX8_image_16 : decode cX8_image 16 = .ok (.getfield 25, 3) := by decide +kernel
theorem dX8_image_19 : decode cX8_image 19 = .ok (.getfield 134, 3) := by decide +kernel
theorem dX8_image_22 : decode cX8_image 22 = .ok (.ifCond .ne 6, 3) := by decide +kernel
theorem dX8_image_25 : decode cX8_image 25 = .ok (.ldc 143, 2) := by decide +kernel
theorem dX8_image_27 : decode cX8_image 27 = .ok (.ireturn, 1) := by decide +kernel
theorem dX8_image_28 : decode cX8_image 28 = .ok (.aload_n 0, 1) := by decide +kernel
theorem dX8_image_29 : decode cX8_image 29 = .ok (.getfield 32, 3) := by decide +kernel
theorem dX8_image_32 : decode cX8_image 32 = .ok (.iload_n 1, 1) := by decide +kernel
theorem dX8_image_33 : decode cX8_image 33 = .ok (.aaload, 1) := by decide +kernel
theorem dX8_image_34 : decode cX8_image 34 = .ok (.aload_n 0, 1) := by decide +kernel
theorem dX8_image_35 : decode cX8_image 35 = .ok (.getfield 25, 3) := by decide +kernel
theorem dX8_image_38 : decode cX8_image 38 = .ok (.invokevirtual 117, 3) := by decide +kernel
theorem dX8_image_41 : decode cX8_image 41 = .ok (.iconst 1, 1) := by decide +kernel
theorem dX8_image_42 : decode cX8_image 42 = .ok (.ireturn, 1) := by decide +kernel
theorem dX8_restore_0 : decode cX8_restore 0 = .ok (.iload_n 1, 1) := by decide +kernel
theorem dX8_restore_1 : decode cX8_restore 1 = .ok (.aload_n 0, 1) := by decide +kernel
theorem dX8_restore_2 : decode cX8_restore 2 = .ok (.getfield 32, 3) := by decide +kernel
theorem dX8_restore_5 : decode cX8_restore 5 = .ok (.arraylength, 1) := by decide +kernel
theorem dX8_restore_6 : decode cX8_restore 6 = .ok (.invokestatic 58, 3) := by decide +kernel
theorem dX8_restore_9 : decode cX8_restore 9 = .ok (.ifCond .ne 6, 3) := by decide +kernel
theorem dX8_restore_12 : decode cX8_restore 12 = .ok (.ldc 62, 2) := by decide +kernel
theorem dX8_restore_14 : decode cX8_restore 14 = .ok (.ireturn, 1) := by decide +kernel
theorem dX8_restore_15 : decode cX8_restore 15 = .ok (.aload_n 0, 1) := by decide +kernel
theorem dX8_restore_16 : decode cX8_restore 16 = .ok (.getfield 32, 3) := by decide +kernel
theorem dX8_restore_19 : decode cX8_restore 19 = .ok (.iload_n 1, 1) := by decide +kernel
theorem dX8_restore_20 : decode cX8_restore 20 = .ok (.aaload, 1) := by decide +kernel
theorem dX8_restore_21 : decode cX8_restore 21 = .ok (.getfield 134, 3) := by decide +kernel
theorem dX8_restore_24 : decode cX8_restore 24 = .ok (.ifCond .ne 6, 3) := by decide +kernel
theorem dX8_restore_27 : decode cX8_restore 27 = .ok (.ldc 143, 2) := by decide +kernel
theorem dX8_restore_29 : decode cX8_restore 29 = .ok (.ireturn, 1) := by decide +kernel
theorem dX8_restore_30 : decode cX8_restore 30 = .ok (.aload_n 0, 1) := by decide +kernel
theorem dX8_restore_31 : decode cX8_restore 31 = .ok (.getfield 25, 3) := by decide +kernel
theorem dX8_restore_34 : decode cX8_restore 34 = .ok (.aload_n 0, 1) := by decide +kernel
theorem dX8_restore_35 : decode cX8_restore 35 = .ok (.getfield 32, 3) := by decide +kernel
theorem dX8_restore_38 : decode cX8_restore 38 = .ok (.iload_n 1, 1) := by decide +kernel
theorem dX8_restore_39 : decode cX8_restore 39 = .ok (.aaload, 1) := by decide +kernel
theorem dX8_restore_40 : decode cX8_restore 40 = .ok (.invokevirtual 117, 3) := by decide +kernel
theorem dX8_restore_43 : decode cX8_restore 43 = .ok (.aload_n 0, 1) := by decide +kernel
theorem dX8_restore_44 : decode cX8_restore 44 = .ok (.getfield 39, 3) := by decide +kernel
theorem dX8_restore_47 : decode cX8_restore 47 = .ok (.invokevirtual 121, 3) := by decide +kernel
theorem dX8_restore_50 : decode cX8_restore 50 = .ok (.iconst 1, 1) := by decide +kernel
theorem dX8_restore_51 : decode cX8_restore 51 = .ok (.ireturn, 1) := by decide +kernel
theorem dX8_kind_0 : decode cX8_kind 0 = .ok (.aload_n 0, 1) := by decide +kernel
theorem dX8_kind_1 : decode cX8_kind 1 = .ok (.iload_n 1, 1) := by decide +kernel
theorem dX8_kind_2 : decode cX8_kind 2 = .ok (.invokevirtual 157, 3) := by decide +kernel
theorem dX8_kind_5 : decode cX8_kind 5 = .ok (.ifCond .eq 21, 3) := by decide +kernel
theorem dX8_kind_8 : decode cX8_kind 8 = .ok (.aload_n 0, 1) := by decide +kernel
theorem dX8_kind_9 : decode cX8_kind 9 = .ok (.getfield 25, 3) := by decide +kernel
theorem dX8_kind_12 : decode cX8_kind 12 = .ok (.getfield 124, 3) := by decide +kernel
theorem dX8_kind_15 : decode cX8_kind 15 = .ok (.getfield 161, 3) := by decide +kernel
theorem dX8_kind_18 : decode cX8_kind 18 = .ok (.iload_n 1, 1) := by decide +kernel
theorem dX8_kind_19 : decode cX8_kind 19 = .ok (.aaload, 1) := by decide +kernel
theorem dX8_kind_20 : decode cX8_kind 20 = .ok (.getfield 233, 3) := by decide +kernel
theorem dX8_kind_23 : decode cX8_kind 23 = .ok (.goto 5, 3) := by decide +kernel
theorem dX8_kind_26 : decode cX8_kind 26 = .ok (.ldc 62, 2) := by decide +kernel
theorem dX8_kind_28 : decode cX8_kind 28 = .ok (.ireturn, 1) := by decide +kernel
theorem dX8_as_0 : decode cX8_as 0 = .ok (.aload_n 0, 1) := by decide +kernel
theorem dX8_as_1 : decode cX8_as 1 = .ok (.iload_n 1, 1) := by decide +kernel
theorem dX8_as_2 : decode cX8_as 2 = .ok (.invokevirtual 157, 3) := by decide +kernel
theorem dX8_as_5 : decode cX8_as 5 = .ok (.ifCond .eq 12, 3) := by decide +kernel
theorem dX8_as_8 : decode cX8_as 8 = .ok (.iload_n 2, 1) := by decide +kernel
theorem dX8_as_9 : decode cX8_as 9 = .ok (.bipush 6, 2) := by decide +kernel
theorem dX8_as_11 : decode cX8_as 11 = .ok (.invokestatic 58, 3) := by decide +kernel
theorem dX8_as_14 : decode cX8_as 14 = .ok (.ifCond .ne 6, 3) := by decide +kernel
theorem dX8_as_17 : decode cX8_as 17 = .ok (.ldc 62, 2) := by decide +kernel
theorem dX8_as_19 : decode cX8_as 19 = .ok (.ireturn, 1) := by decide +kernel
theorem dX8_as_20 : decode cX8_as 20 = .ok (.aload_n 0, 1) := by decide +kernel
theorem dX8_as_21 : decode cX8_as 21 = .ok (.getfield 25, 3) := by decide +kernel
theorem dX8_as_24 : decode cX8_as 24 = .ok (.getfield 124, 3) := by decide +kernel
theorem dX8_as_27 : decode cX8_as 27 = .ok (.getfield 161, 3) := by decide +kernel
theorem dX8_as_30 : decode cX8_as 30 = .ok (.iload_n 1, 1) := by decide +kernel
theorem dX8_as_31 : decode cX8_as 31 = .ok (.aaload, 1) := by decide +kernel
theorem dX8_as_32 : decode cX8_as 32 = .ok (.getfield 233, 3) := by decide +kernel
theorem dX8_as_35 : decode cX8_as 35 = .ok (.iload_n 2, 1) := by decide +kernel
theorem dX8_as_36 : decode cX8_as 36 = .ok (.invokestatic 236, 3) := by decide +kernel
theorem dX8_as_39 : decode cX8_as 39 = .ok (.ifCond .ne 9, 3) := by decide +kernel
theorem dX8_as_42 : decode cX8_as 42 = .ok (.aload_n 0, 1) := by decide +kernel
theorem dX8_as_43 : decode cX8_as 43 = .ok (.iconst 3, 1) := by decide +kernel
theorem dX8_as_44 : decode cX8_as 44 = .ok (.invokevirtual 63, 3) := by decide +kernel
theorem dX8_as_47 : decode cX8_as 47 = .ok (.ireturn, 1) := by decide +kernel
theorem dX8_as_48 : decode cX8_as 48 = .ok (.aload_n 0, 1) := by decide +kernel
theorem dX8_as_49 : decode cX8_as 49 = .ok (.iload_n 1, 1) := by decide +kernel
theorem dX8_as_50 : decode cX8_as 50 = .ok (.invokevirtual 71, 3) := by decide +kernel
theorem dX8_as_53 : decode cX8_as 53 = .ok (.ireturn, 1) := by decide +kernel
theorem dX8_ask_0 : decode cX8_ask 0 = .ok (.aload_n 0, 1) := by decide +kernel
theorem dX8_ask_1 : decode cX8_ask 1 = .ok (.iload_n 1, 1) := by decide +kernel
theorem dX8_ask_2 : decode cX8_ask 2 = .ok (.invokevirtual 157, 3) := by decide +kernel
theorem dX8_ask_5 : decode cX8_ask 5 = .ok (.ifCond .eq 11, 3) := by decide +kernel
theorem dX8_ask_8 : decode cX8_ask 8 = .ok (.iload_n 2, 1) := by decide +kernel
theorem dX8_ask_9 : decode cX8_ask 9 = .ok (.iconst 2, 1) := by decide +kernel
theorem dX8_ask_10 : decode cX8_ask 10 = .ok (.invokestatic 58, 3) := by decide +kernel
theorem dX8_ask_13 : decode cX8_ask 13 = .ok (.ifCond .ne 6, 3) := by decide +kernel
theorem dX8_ask_16 : decode cX8_ask 16 = .ok (.ldc 62, 2) := by decide +kernel
theorem dX8_ask_18 : decode cX8_ask 18 = .ok (.ireturn, 1) := by decide +kernel
theorem dX8_ask_19 : decode cX8_ask 19 = .ok (.aload_n 0, 1) := by decide +kernel
theorem dX8_ask_20 : decode cX8_ask 20 = .ok (.getfield 53, 3) := by decide +kernel
theorem dX8_ask_23 : decode cX8_ask 23 = .ok (.aload_n 0, 1) := by decide +kernel
theorem dX8_ask_24 : decode cX8_ask 24 = .ok (.getfield 25, 3) := by decide +kernel
theorem dX8_ask_27 : decode cX8_ask 27 = .ok (.getfield 124, 3) := by decide +kernel
theorem dX8_ask_30 : decode cX8_ask 30 = .ok (.getfield 161, 3) := by decide +kernel
theorem dX8_ask_33 : decode cX8_ask 33 = .ok (.iload_n 1, 1) := by decide +kernel
theorem dX8_ask_34 : decode cX8_ask 34 = .ok (.aaload, 1) := by decide +kernel
theorem dX8_ask_35 : decode cX8_ask 35 = .ok (.iload_n 1, 1) := by decide +kernel
theorem dX8_ask_36 : decode cX8_ask 36 = .ok (.iload_n 2, 1) := by decide +kernel
theorem dX8_ask_37 : decode cX8_ask 37 = .ok (.invokevirtual 239, 3) := by decide +kernel
theorem dX8_ask_40 : decode cX8_ask 40 = .ok (.ireturn, 1) := by decide +kernel
theorem dX8_trace_0 : decode cX8_trace 0 = .ok (.iload_n 1, 1) := by decide +kernel
theorem dX8_trace_1 : decode cX8_trace 1 = .ok (.aload_n 0, 1) := by decide +kernel
theorem dX8_trace_2 : decode cX8_trace 2 = .ok (.getfield 53, 3) := by decide +kernel
theorem dX8_trace_5 : decode cX8_trace 5 = .ok (.getfield 243, 3) := by decide +kernel
theorem dX8_trace_8 : decode cX8_trace 8 = .ok (.invokestatic 58, 3) := by decide +kernel
theorem dX8_trace_11 : decode cX8_trace 11 = .ok (.ifCond .eq 15, 3) := by decide +kernel
theorem dX8_trace_14 : decode cX8_trace 14 = .ok (.aload_n 0, 1) := by decide +kernel
theorem dX8_trace_15 : decode cX8_trace 15 = .ok (.getfield 53, 3) := by decide +kernel
theorem dX8_trace_18 : decode cX8_trace 18 = .ok (.getfield 244, 3) := by decide +kernel
theorem dX8_trace_21 : decode cX8_trace 21 = .ok (.iload_n 1, 1) := by decide +kernel
theorem dX8_trace_22 : decode cX8_trace 22 = .ok (.iaload, 1) := by decide +kernel
theorem dX8_trace_23 : decode cX8_trace 23 = .ok (.goto 5, 3) := by decide +kernel
theorem dX8_trace_26 : decode cX8_trace 26 = .ok (.ldc 192, 2) := by decide +kernel
theorem dX8_trace_28 : decode cX8_trace 28 = .ok (.ireturn, 1) := by decide +kernel
theorem dX8_count_0 : decode cX8_count 0 = .ok (.iload_n 1, 1) := by decide +kernel
theorem dX8_count_1 : decode cX8_count 1 = .ok (.tableswitch 123 0 8 #[51, 56, 64, 75, 83, 91, 99, 107, 115], 51) := by decide +kernel
theorem dX8_count_52 : decode cX8_count 52 = .ok (.aload_n 0, 1) := by decide +kernel
theorem dX8_count_53 : decode cX8_count 53 = .ok (.invokevirtual 247, 3) := by decide +kernel
theorem dX8_count_56 : decode cX8_count 56 = .ok (.ireturn, 1) := by decide +kernel
theorem dX8_count_57 : decode cX8_count 57 = .ok (.aload_n 0, 1) := by decide +kernel
theorem dX8_count_58 : decode cX8_count 58 = .ok (.getfield 25, 3) := by decide +kernel
theorem dX8_count_61 : decode cX8_count 61 = .ok (.getfield 140, 3) := by decide +kernel
theorem dX8_count_64 : decode cX8_count 64 = .ok (.ireturn, 1) := by decide +kernel
theorem dX8_count_65 : decode cX8_count 65 = .ok (.aload_n 0, 1) := by decide +kernel
theorem dX8_count_66 : decode cX8_count 66 = .ok (.getfield 25, 3) := by decide +kernel
theorem dX8_count_69 : decode cX8_count 69 = .ok (.getfield 124, 3) := by decide +kernel
theorem dX8_count_72 : decode cX8_count 72 = .ok (.getfield 128, 3) := by decide +kernel
theorem dX8_count_75 : decode cX8_count 75 = .ok (.ireturn, 1) := by decide +kernel
theorem dX8_count_76 : decode cX8_count 76 = .ok (.aload_n 0, 1) := by decide +kernel
theorem dX8_count_77 : decode cX8_count 77 = .ok (.getfield 25, 3) := by decide +kernel
theorem dX8_count_80 : decode cX8_count 80 = .ok (.getfield 137, 3) := by decide +kernel
theorem dX8_count_83 : decode cX8_count 83 = .ok (.ireturn, 1) := by decide +kernel
theorem dX8_count_84 : decode cX8_count 84 = .ok (.aload_n 0, 1) := by decide +kernel
theorem dX8_count_85 : decode cX8_count 85 = .ok (.getfield 25, 3) := by decide +kernel
theorem dX8_count_88 : decode cX8_count 88 = .ok (.getfield 147, 3) := by decide +kernel
theorem dX8_count_91 : decode cX8_count 91 = .ok (.ireturn, 1) := by decide +kernel
theorem dX8_count_92 : decode cX8_count 92 = .ok (.aload_n 0, 1) := by decide +kernel
theorem dX8_count_93 : decode cX8_count 93 = .ok (.getfield 25, 3) := by decide +kernel
theorem dX8_count_96 : decode cX8_count 96 = .ok (.getfield 150, 3) := by decide +kernel
theorem dX8_count_99 : decode cX8_count 99 = .ok (.ireturn, 1) := by decide +kernel
theorem dX8_count_100 : decode cX8_count 100 = .ok (.aload_n 0, 1) := by decide +kernel
theorem dX8_count_101 : decode cX8_count 101 = .ok (.getfield 25, 3) := by decide +kernel
theorem dX8_count_104 : decode cX8_count 104 = .ok (.getfield 251, 3) := by decide +kernel
theorem dX8_count_107 : decode cX8_count 107 = .ok (.ireturn, 1) := by decide +kernel
theorem dX8_count_108 : decode cX8_count 108 = .ok (.aload_n 0, 1) := by decide +kernel
theorem dX8_count_109 : decode cX8_count 109 = .ok (.getfield 39, 3) := by decide +kernel
theorem dX8_count_112 : decode cX8_count 112 = .ok (.getfield 170, 3) := by decide +kernel
theorem dX8_count_115 : decode cX8_count 115 = .ok (.ireturn, 1) := by decide +kernel
theorem dX8_count_116 : decode cX8_count 116 = .ok (.aload_n 0, 1) := by decide +kernel
theorem dX8_count_117 : decode cX8_count 117 = .ok (.getfield 18, 3) := by decide +kernel
theorem dX8_count_120 : decode cX8_count 120 = .ok (.getfield 102, 3) := by decide +kernel
theorem dX8_count_123 : decode cX8_count 123 = .ok (.ireturn, 1) := by decide +kernel
theorem dX8_count_124 : decode cX8_count 124 = .ok (.ldc 62, 2) := by decide +kernel
theorem dX8_count_126 : decode cX8_count 126 = .ok (.ireturn, 1) := by decide +kernel
theorem dX8_status_0 : decode cX8_status 0 = .ok (.aload_n 0, 1) := by decide +kernel
theorem dX8_status_1 : decode cX8_status 1 = .ok (.getfield 254, 3) := by decide +kernel
theorem dX8_status_4 : decode cX8_status 4 = .ok (.ireturn, 1) := by decide +kernel
theorem dX8_countRows_0 : decode cX8_countRows 0 = .ok (.iconst 0, 1) := by decide +kernel
theorem dX8_countRows_1 : decode cX8_countRows 1 = .ok (.istore_n 1, 1) := by decide +kernel
theorem dX8_countRows_2 : decode cX8_countRows 2 = .ok (.iconst 0, 1) := by decide +kernel
theorem dX8_countRows_3 : decode cX8_countRows 3 = .ok (.istore_n 2, 1) := by decide +kernel
theorem dX8_countRows_4 : decode cX8_countRows 4 = .ok (.iload_n 2, 1) := by decide +kernel
theorem dX8_countRows_5 : decode cX8_countRows 5 = .ok (.aload_n 0, 1) := by decide +kernel
theorem dX8_countRows_6 : decode cX8_countRows 6 = .ok (.getfield 11, 3) := by decide +kernel
theorem dX8_countRows_9 : decode cX8_countRows 9 = .ok (.arraylength, 1) := by decide +kernel
theorem dX8_countRows_10 : decode cX8_countRows 10 = .ok (.if_icmp .ge 24, 3) := by decide +kernel
theorem dX8_countRows_13 : decode cX8_countRows 13 = .ok (.aload_n 0, 1) := by decide +kernel
theorem dX8_countRows_14 : decode cX8_countRows 14 = .ok (.getfield 11, 3) := by decide +kernel
theorem dX8_countRows_17 : decode cX8_countRows 17 = .ok (.iload_n 2, 1) := by decide +kernel
theorem dX8_countRows_18 : decode cX8_countRows 18 = .ok (.aaload, 1) := by decide +kernel
theorem dX8_countRows_19 : decode cX8_countRows 19 = .ok (.getfield 74, 3) := by decide +kernel
theorem dX8_countRows_22 : decode cX8_countRows 22 = .ok (.ifCond .ne 6, 3) := by decide +kernel
theorem dX8_countRows_25 : decode cX8_countRows 25 = .ok (.iinc 1 1, 3) := by decide +kernel
theorem dX8_countRows_28 : decode cX8_countRows 28 = .ok (.iinc 2 1, 3) := by decide +kernel
theorem dX8_countRows_31 : decode cX8_countRows 31 = .ok (.goto (-27), 3) := by decide +kernel
theorem dX8_countRows_34 : decode cX8_countRows 34 = .ok (.iload_n 1, 1) := by decide +kernel
theorem dX8_countRows_35 : decode cX8_countRows 35 = .ok (.ireturn, 1) := by decide +kernel
theorem dX8_isWalker_0 : decode cX8_isWalker 0 = .ok (.iload_n 1, 1) := by decide +kernel
theorem dX8_isWalker_1 : decode cX8_isWalker 1 = .ok (.aload_n 0, 1) := by decide +kernel
theorem dX8_isWalker_2 : decode cX8_isWalker 2 = .ok (.getfield 25, 3) := by decide +kernel
theorem dX8_isWalker_5 : decode cX8_isWalker 5 = .ok (.getfield 124, 3) := by decide +kernel
theorem dX8_isWalker_8 : decode cX8_isWalker 8 = .ok (.getfield 128, 3) := by decide +kernel
theorem dX8_isWalker_11 : decode cX8_isWalker 11 = .ok (.invokestatic 58, 3) := by decide +kernel
theorem dX8_isWalker_14 : decode cX8_isWalker 14 = .ok (.ireturn, 1) := by decide +kernel
theorem dX8_found_0 : decode cX8_found 0 = .ok (.aload_n 0, 1) := by decide +kernel
theorem dX8_found_1 : decode cX8_found 1 = .ok (.iload_n 1, 1) := by decide +kernel
theorem dX8_found_2 : decode cX8_found 2 = .ok (.putfield 254, 3) := by decide +kernel
theorem dX8_found_5 : decode cX8_found 5 = .ok (.ldc_w 257, 3) := by decide +kernel
theorem dX8_found_8 : decode cX8_found 8 = .ok (.iload_n 1, 1) := by decide +kernel
theorem dX8_found_9 : decode cX8_found 9 = .ok (.isub, 1) := by decide +kernel
theorem dX8_found_10 : decode cX8_found 10 = .ok (.ireturn, 1) := by decide +kernel
theorem dX8_foundNothing_0 : decode cX8_foundNothing 0 = .ok (.aload_n 0, 1) := by decide +kernel
theorem dX8_foundNothing_1 : decode cX8_foundNothing 1 = .ok (.iconst 0, 1) := by decide +kernel
theorem dX8_foundNothing_2 : decode cX8_foundNothing 2 = .ok (.putfield 254, 3) := by decide +kernel
theorem dX8_foundNothing_5 : decode cX8_foundNothing 5 = .ok (.iload_n 1, 1) := by decide +kernel
theorem dX8_foundNothing_6 : decode cX8_foundNothing 6 = .ok (.ireturn, 1) := by decide +kernel
theorem dX8_isBelow_0 : decode cX8_isBelow 0 = .ok (.iload_n 0, 1) := by decide +kernel
theorem dX8_isBelow_1 : decode cX8_isBelow 1 = .ok (.ifCond .lt 12, 3) := by decide +kernel
theorem dX8_isBelow_4 : decode cX8_isBelow 4 = .ok (.iload_n 0, 1) := by decide +kernel
theorem dX8_isBelow_5 : decode cX8_isBelow 5 = .ok (.iload_n 1, 1) := by decide +kernel
theorem dX8_isBelow_6 : decode cX8_isBelow 6 = .ok (.if_icmp .ge 7, 3) := by decide +kernel
theorem dX8_isBelow_9 : decode cX8_isBelow 9 = .ok (.iconst 1, 1) := by decide +kernel
theorem dX8_isBelow_10 : decode cX8_isBelow 10 = .ok (.goto 4, 3) := by decide +kernel
theorem dX8_isBelow_13 : decode cX8_isBelow 13 = .ok (.iconst 0, 1) := by decide +kernel
theorem dX8_isBelow_14 : decode cX8_isBelow 14 = .ok (.ireturn, 1) := by decide +kernel
theorem dX9_init_0 : decode cX9_init 0 = .ok (.aload_n 0, 1) := by decide +kernel
theorem dX9_init_1 : decode cX9_init 1 = .ok (.invokespecial 1, 3) := by decide +kernel
theorem dX9_init_4 : decode cX9_init 4 = .ok (.aload_n 0, 1) := by decide +kernel
theorem dX9_init_5 : decode cX9_init 5 = .ok (.bipush 8, 2) := by decide +kernel
theorem dX9_init_7 : decode cX9_init 7 = .ok (.newarray .int, 2) := by decide +kernel
theorem dX9_init_9 : decode cX9_init 9 = .ok (.putfield 7, 3) := by decide +kernel
theorem dX9_init_12 : decode cX9_init 12 = .ok (.aload_n 0, 1) := by decide +kernel
theorem dX9_init_13 : decode cX9_init 13 = .ok (.bipush 8, 2) := by decide +kernel
theorem dX9_init_15 : decode cX9_init 15 = .ok (.newarray .int, 2) := by decide +kernel
theorem dX9_init_17 : decode cX9_init 17 = .ok (.putfield 13, 3) := by decide +kernel
theorem dX9_init_20 : decode cX9_init 20 = .ok (.aload_n 0, 1) := by decide +kernel
theorem dX9_init_21 : decode cX9_init 21 = .ok (.sipush 320, 3) := by decide +kernel
theorem dX9_init_24 : decode cX9_init 24 = .ok (.newarray .int, 2) := by decide +kernel
theorem dX9_init_26 : decode cX9_init 26 = .ok (.putfield 16, 3) := by decide +kernel
theorem dX9_init_29 : decode cX9_init 29 = .ok (.aload_n 0, 1) := by decide +kernel
theorem dX9_init_30 : decode cX9_init 30 = .ok (.bipush 56, 2) := by decide +kernel
theorem dX9_init_32 : decode cX9_init 32 = .ok (.newarray .int, 2) := by decide +kernel
theorem dX9_init_34 : decode cX9_init 34 = .ok (.putfield 19, 3) := by decide +kernel
theorem dX9_init_37 : decode cX9_init 37 = .ok (.aload_n 0, 1) := by decide +kernel
theorem dX9_init_38 : decode cX9_init 38 = .ok (.bipush 40, 2) := by decide +kernel
theorem dX9_init_40 : decode cX9_init 40 = .ok (.newarray .int, 2) := by decide +kernel
theorem dX9_init_42 : decode cX9_init 42 = .ok (.putfield 22, 3) := by decide +kernel
theorem dX9_init_45 : decode cX9_init 45 = .ok (.aload_n 0, 1) := by decide +kernel
theorem dX9_init_46 : decode cX9_init 46 = .ok (.bipush 120, 2) := by decide +kernel
theorem dX9_init_48 : decode cX9_init 48 = .ok (.newarray .int, 2) := by decide +kernel
theorem dX9_init_50 : decode cX9_init 50 = .ok (.putfield 25, 3) := by decide +kernel
theorem dX9_init_53 : decode cX9_init 53 = .ok (.aload_n 0, 1) := by decide +kernel
theorem dX9_init_54 : decode cX9_init 54 = .ok (.bipush 56, 2) := by decide +kernel
theorem dX9_init_56 : decode cX9_init 56 = .ok (.newarray .int, 2) := by decide +kernel
theorem dX9_init_58 : decode cX9_init 58 = .ok (.putfield 28, 3) := by decide +kernel
theorem dX9_init_61 : decode cX9_init 61 = .ok (.aload_n 0, 1) := by decide +kernel
theorem dX9_init_62 : decode cX9_init 62 = .ok (.sipush 1344, 3) := by decide +kernel
theorem dX9_init_65 : decode cX9_init 65 = .ok (.newarray .int, 2) := by decide +kernel
theorem dX9_init_67 : decode cX9_init 67 = .ok (.putfield 31, 3) := by decide +kernel
theorem dX9_init_70 : decode cX9_init 70 = .ok (.aload_n 0, 1) := by decide +kernel
theorem dX9_init_71 : decode cX9_init 71 = .ok (.bipush 56, 2) := by decide +kernel
theorem dX9_init_73 : decode cX9_init 73 = .ok (.newarray .int, 2) := by decide +kernel
theorem dX9_init_75 : decode cX9_init 75 = .ok (.putfield 34, 3) := by decide +kernel
theorem dX9_init_78 : decode cX9_init 78 = .ok (.aload_n 0, 1) := by decide +kernel
theorem dX9_init_79 : decode cX9_init 79 = .ok (.bipush 6, 2) := by decide +kernel
theorem dX9_init_81 : decode cX9_init 81 = .ok (.newarray .int, 2) := by decide +kernel
theorem dX9_init_83 : decode cX9_init 83 = .ok (.putfield 37, 3) := by decide +kernel
theorem dX9_init_86 : decode cX9_init 86 = .ok (.aload_n 0, 1) := by decide +kernel
theorem dX9_init_87 : decode cX9_init 87 = .ok (.bipush 6, 2) := by decide +kernel
theorem dX9_init_89 : decode cX9_init 89 = .ok (.newarray .int, 2) := by decide +kernel
theorem dX9_init_91 : decode cX9_init 91 = .ok (.putfield 40, 3) := by decide +kernel
theorem dX9_init_94 : decode cX9_init 94 = .ok (.aload_n 0, 1) := by decide +kernel
theorem dX9_init_95 : decode cX9_init 95 = .ok (.bipush 6, 2) := by decide +kernel
theorem dX9_init_97 : decode cX9_init 97 = .ok (.newarray .int, 2) := by decide +kernel
theorem dX9_init_99 : decode cX9_init 99 = .ok (.putfield 43, 3) := by decide +kernel
theorem dX9_init_102 : decode cX9_init 102 = .ok (.aload_n 0, 1) := by decide +kernel
theorem dX9_init_103 : decode cX9_init 103 = .ok (.bipush 6, 2) := by decide +kernel
theorem dX9_init_105 : decode cX9_init 105 = .ok (.newarray .int, 2) := by decide +kernel
theorem dX9_init_107 : decode cX9_init 107 = .ok (.putfield 46, 3) := by decide +kernel
theorem dX9_init_110 : decode cX9_init 110 = .ok (.aload_n 0, 1) := by decide +kernel
theorem dX9_init_111 : decode cX9_init 111 = .ok (.iconst 2, 1) := by decide +kernel
theorem dX9_init_112 : decode cX9_init 112 = .ok (.newarray .boolean, 2) := by decide +kernel
theorem dX9_init_114 : decode cX9_init 114 = .ok (.putfield 49, 3) := by decide +kernel
theorem dX9_init_117 : decode cX9_init 117 = .ok (.aload_n 0, 1) := by decide +kernel
theorem dX9_init_118 : decode cX9_init 118 = .ok (.bipush 112, 2) := by decide +kernel
theorem dX9_init_120 : decode cX9_init 120 = .ok (.newarray .int, 2) := by decide +kernel
theorem dX9_init_122 : decode cX9_init 122 = .ok (.putfield 53, 3) := by decide +kernel
theorem dX9_init_125 : decode cX9_init 125 = .ok (.aload_n 0, 1) := by decide +kernel
theorem dX9_init_126 : decode cX9_init 126 = .ok (.bipush 16, 2) := by decide +kernel
theorem dX9_init_128 : decode cX9_init 128 = .ok (.newarray .int, 2) := by decide +kernel
theorem dX9_init_130 : decode cX9_init 130 = .ok (.putfield 56, 3) := by decide +kernel
theorem dX9_init_133 : decode cX9_init 133 = .ok (.iconst 0, 1) := by decide +kernel
theorem dX9_init_134 : decode cX9_init 134 = .ok (.istore_n 1, 1) := by decide +kernel
theorem dX9_init_135 : decode cX9_init 135 = .ok (.iload_n 1, 1) := by decide +kernel
theorem dX9_init_136 : decode cX9_init 136 = .ok (.bipush 8, 2) := by decide +kernel
theorem dX9_init_138 : decode cX9_init 138 = .ok (.if_icmp .ge 16, 3) := by decide +kernel
theorem dX9_init_141 : decode cX9_init 141 = .ok (.aload_n 0, 1) := by decide +kernel
theorem dX9_init_142 : decode cX9_init 142 = .ok (.getfield 13, 3) := by decide +kernel
theorem dX9_init_145 : decode cX9_init 145 = .ok (.iload_n 1, 1) := by decide +kernel
theorem dX9_init_146 : decode cX9_init 146 = .ok (.iconst (-1), 1) := by decide +kernel
theorem dX9_init_147 : decode cX9_init 147 = .ok (.iastore, 1) := by decide +kernel
theorem dX9_init_148 : decode cX9_init 148 = .ok (.iinc 1 1, 3) := by decide +kernel
theorem dX9_init_151 : decode cX9_init 151 = .ok (.goto (-16), 3) := by decide +kernel
theorem dX9_init_154 : decode cX9_init 154 = .ok (.return_, 1) := by decide +kernel
theorem dX9_in_0 : decode cX9_in 0 = .ok (.lload_n 0, 1) := by decide +kernel
theorem dX9_in_1 : decode cX9_in 1 = .ok (.lload_n 2, 1) := by decide +kernel
theorem dX9_in_2 : decode cX9_in 2 = .ok (.lcmp, 1) := by decide +kernel
theorem dX9_in_3 : decode cX9_in 3 = .ok (.ifCond .lt 14, 3) := by decide +kernel
theorem dX9_in_6 : decode cX9_in 6 = .ok (.lload_n 0, 1) := by decide +kernel
theorem dX9_in_7 : decode cX9_in 7 = .ok (.lload 4, 2) := by decide +kernel
theorem dX9_in_9 : decode cX9_in 9 = .ok (.lcmp, 1) := by decide +kernel
theorem dX9_in_10 : decode cX9_in 10 = .ok (.ifCond .gt 7, 3) := by decide +kernel
theorem dX9_in_13 : decode cX9_in 13 = .ok (.iconst 1, 1) := by decide +kernel
theorem dX9_in_14 : decode cX9_in 14 = .ok (.goto 4, 3) := by decide +kernel
theorem dX9_in_17 : decode cX9_in 17 = .ok (.iconst 0, 1) := by decide +kernel
theorem dX9_in_18 : decode cX9_in 18 = .ok (.ireturn, 1) := by decide +kernel
theorem dX9_has_0 : decode cX9_has 0 = .ok (.iload_n 0, 1) := by decide +kernel
theorem dX9_has_1 : decode cX9_has 1 = .ok (.iload_n 1, 1) := by decide +kernel
theorem dX9_has_2 : decode cX9_has 2 = .ok (.ishr, 1) := by decide +kernel
theorem dX9_has_3 : decode cX9_has 3 = .ok (.iconst 1, 1) := by decide +kernel
theorem dX9_has_4 : decode cX9_has 4 = .ok (.iand, 1) := by decide +kernel
theorem dX9_has_5 : decode cX9_has 5 = .ok (.iconst 1, 1) := by decide +kernel
theorem dX9_has_6 : decode cX9_has 6 = .ok (.if_icmp .ne 7, 3) := by decide +kernel
theorem dX9_has_9 : decode cX9_has 9 = .ok (.iconst 1, 1) := by decide +kernel
theorem dX9_has_10 : decode cX9_has 10 = .ok (.goto 4, 3) := by decide +kernel
theorem dX9_has_13 : decode cX9_has 13 = .ok (.iconst 0, 1) := by decide +kernel
theorem dX9_has_14 : decode cX9_has 14 = .ok (.ireturn, 1) := by decide +kernel
theorem dX9_find_0 : decode cX9_find 0 = .ok (.aload_n 0, 1) := by decide +kernel
theorem dX9_find_1 : decode cX9_find 1 = .ok (.iload_n 1, 1) := by decide +kernel
theorem dX9_find_2 : decode cX9_find 2 = .ok (.putfield 59, 3) := by decide +kernel
theorem dX9_find_5 : decode cX9_find 5 = .ok (.ldc 63, 2) := by decide +kernel
theorem dX9_find_7 : decode cX9_find 7 = .ok (.iload_n 1, 1) := by decide +kernel
theorem dX9_find_8 : decode cX9_find 8 = .ok (.isub, 1) := by decide +kernel
theorem dX9_find_9 : decode cX9_find 9 = .ok (.ireturn, 1) := by decide +kernel
theorem dX9_well_0 : decode cX9_well 0 = .ok (.aload_n 0, 1) := by decide +kernel
theorem dX9_well_1 : decode cX9_well 1 = .ok (.iconst 0, 1) := by decide +kernel
theorem dX9_well_2 : decode cX9_well 2 = .ok (.putfield 59, 3) := by decide +kernel
theorem dX9_well_5 : decode cX9_well 5 = .ok (.iload_n 1, 1) := by decide +kernel
theorem dX9_well_6 : decode cX9_well 6 = .ok (.ireturn, 1) := by decide +kernel
theorem dX9_isRow_0 : decode cX9_isRow 0 = .ok (.iload_n 0, 1) := by decide +kernel
theorem dX9_isRow_1 : decode cX9_isRow 1 = .ok (.i2l, 1) := by decide +kernel
theorem dX9_isRow_2 : decode cX9_isRow 2 = .ok (.lconst 0, 1) := by decide +kernel
theorem dX9_isRow_3 : decode cX9_isRow 3 = .ok (.ldc2_w 64, 3) := by decide +kernel
theorem dX9_isRow_6 : decode cX9_isRow 6 = .ok (.invokestatic 66, 3) := by decide +kernel
theorem dX9_isRow_9 : decode cX9_isRow 9 = .ok (.ireturn, 1) := by decide +kernel
theorem dX9_row_0 : decode cX9_row 0 = .ok (.iload_n 1, 1) := by decide +kernel
theorem dX9_row_1 : decode cX9_row 1 = .ok (.invokestatic 70, 3) := by decide +kernel
theorem dX9_row_4 : decode cX9_row 4 = .ok (.ifCond .eq 21, 3) := by decide +kernel
theorem dX9_row_7 : decode cX9_row 7 = .ok (.iload_n 2, 1) := by decide +kernel
theorem dX9_row_8 : decode cX9_row 8 = .ok (.i2l, 1) := by decide +kernel
theorem dX9_row_9 : decode cX9_row 9 = .ok (.lconst 0, 1) := by decide +kernel
theorem dX9_row_10 : decode cX9_row 10 = .ok (.ldc2_w 74, 3) := by decide +kernel
theorem dX9_row_13 : decode cX9_row 13 = .ok (.invokestatic 66, 3) := by decide +kernel
theorem dX9_row_16 : decode cX9_row 16 = .ok (.ifCond .eq 9, 3) := by decide +kernel
theorem dX9_row_19 : decode cX9_row 19 = .ok (.iload_n 3, 1) := by decide +kernel
theorem dX9_row_20 : decode cX9_row 20 = .ok (.bipush 40, 2) := by decide +kernel
theorem dX9_row_22 : decode cX9_row 22 = .ok (.if_icmp .le 6, 3) := by decide +kernel
theorem dX9_row_25 : decode cX9_row 25 = .ok (.ldc 76, 2) := by decide +kernel
theorem dX9_row_27 : decode cX9_row 27 = .ok (.ireturn, 1) := by decide +kernel
theorem dX9_row_28 : decode cX9_row 28 = .ok (.iload_n 3, 1) := by decide +kernel
theorem dX9_row_29 : decode cX9_row 29 = .ok (.ifCond .ge 9, 3) := by decide +kernel
theorem dX9_row_32 : decode cX9_row 32 = .ok (.aload_n 0, 1) := by decide +kernel
theorem dX9_row_33 : decode cX9_row 33 = .ok (.iconst 4, 1) := by decide +kernel
theorem dX9_row_34 : decode cX9_row 34 = .ok (.invokevirtual 77, 3) := by decide +kernel
theorem dX9_row_37 : decode cX9_row 37 = .ok (.ireturn, 1) := by decide +kernel
theorem dX9_row_38 : decode cX9_row 38 = .ok (.aload_n 0, 1) := by decide +kernel
theorem dX9_row_39 : decode cX9_row 39 = .ok (.getfield 7, 3) := by decide +kernel
theorem dX9_row_42 : decode cX9_row 42 = .ok (.iload_n 1, 1) := by decide +kernel
theorem dX9_row_43 : decode cX9_row 43 = .ok (.iload_n 2, 1) := by decide +kernel
theorem dX9_row_44 : decode cX9_row 44 = .ok (.iastore, 1) := by decide +kernel
theorem dX9_row_45 : decode cX9_row 45 = .ok (.aload_n 0, 1) := by decide +kernel
theorem dX9_row_46 : decode cX9_row 46 = .ok (.getfield 13, 3) := by decide +kernel
theorem dX9_row_49 : decode cX9_row 49 = .ok (.iload_n 1, 1) := by decide +kernel
theorem dX9_row_50 : decode cX9_row 50 = .ok (.iload_n 3, 1) := by decide +kernel
theorem dX9_row_51 : decode cX9_row 51 = .ok (.iastore, 1) := by decide +kernel
theorem dX9_row_52 : decode cX9_row 52 = .ok (.iconst 0, 1) := by decide +kernel
theorem dX9_row_53 : decode cX9_row 53 = .ok (.istore 4, 2) := by decide +kernel
theorem dX9_row_55 : decode cX9_row 55 = .ok (.iload 4, 2) := by decide +kernel
theorem dX9_row_57 : decode cX9_row 57 = .ok (.bipush 40, 2) := by decide +kernel
theorem dX9_row_59 : decode cX9_row 59 = .ok (.if_icmp .ge 22, 3) := by decide +kernel
theorem dX9_row_62 : decode cX9_row 62 = .ok (.aload_n 0, 1) := by decide +kernel
theorem dX9_row_63 : decode cX9_row 63 = .ok (.getfield 16, 3) := by decide +kernel
theorem dX9_row_66 : decode cX9_row 66 = .ok (.bipush 40, 2) := by decide +kernel
theorem dX9_row_68 : decode cX9_row 68 = .ok (.iload_n 1, 1) := by decide +kernel
theorem dX9_row_69 : decode cX9_row 69 = .ok (.imul, 1) := by decide +kernel
theorem dX9_row_70 : decode cX9_row 70 = .ok (.iload 4, 2) := by decide +kernel
theorem dX9_row_72 : decode cX9_row 72 = .ok (.iadd, 1) := by decide +kernel
theorem dX9_row_73 : decode cX9_row 73 = .ok (.iconst 0, 1) := by decide +kernel
theorem dX9_row_74 : decode cX9_row 74 = .ok (.iastore, 1) := by decide +kernel
theorem dX9_row_75 : decode cX9_row 75 = .ok (.iinc 4 1, 3) := by decide +kernel
theorem dX9_row_78 : decode cX9_row 78 = .ok (.goto (-23), 3) := by decide +kernel
theorem dX9_row_81 : decode cX9_row 81 = .ok (.aload_n 0, 1) := by decide +kernel
theorem dX9_row_82 : decode cX9_row 82 = .ok (.iload_n 3, 1) := by decide +kernel
theorem dX9_row_83 : decode cX9_row 83 = .ok (.invokevirtual 81, 3) := by decide +kernel
theorem dX9_row_86 : decode cX9_row 86 = .ok (.ireturn, 1) := by decide +kernel
theorem dX9_asLane_0 : decode cX9_asLane 0 = .ok (.iload_n 0, 1) := by decide +kernel
theorem dX9_asLane_1 : decode cX9_asLane 1 = .ok (.ifCond .ne 13, 3) := by decide +kernel
theorem dX9_asLane_4 : decode cX9_asLane 4 = .ok (.iload_n 1, 1) := by decide +kernel
theorem dX9_asLane_5 : decode cX9_asLane 5 = .ok (.bipush 24, 2) := by decide +kernel
theorem dX9_asLane_7 : decode cX9_asLane 7 = .ok (.ishl, 1) := by decide +kernel
theorem dX9_asLane_8 : decode cX9_asLane 8 = .ok (.bipush 24, 2) := by decide +kernel
theorem dX9_asLane_10 : decode cX9_asLane 10 = .ok (.ishr, 1) := by decide +kernel
theorem dX9_asLane_11 : decode cX9_asLane 11 = .ok (.goto 19, 3) := by decide +kernel
theorem dX9_asLane_14 : decode cX9_asLane 14 = .ok (.iload_n 0, 1) := by decide +kernel
theorem dX9_asLane_15 : decode cX9_asLane 15 = .ok (.iconst 1, 1) := by decide +kernel
theorem dX9_asLane_16 : decode cX9_asLane 16 = .ok (.if_icmp .ne 13, 3) := by decide +kernel
theorem dX9_asLane_19 : decode cX9_asLane 19 = .ok (.iload_n 1, 1) := by decide +kernel
theorem dX9_asLane_20 : decode cX9_asLane 20 = .ok (.bipush 16, 2) := by decide +kernel
theorem dX9_asLane_22 : decode cX9_asLane 22 = .ok (.ishl, 1) := by decide +kernel
theorem dX9_asLane_23 : decode cX9_asLane 23 = .ok (.bipush 16, 2) := by decide +kernel
theorem dX9_asLane_25 : decode cX9_asLane 25 = .ok (.ishr, 1) := by decide +kernel
theorem dX9_asLane_26 : decode cX9_asLane 26 = .ok (.goto 4, 3) := by decide +kernel
theorem dX9_asLane_29 : decode cX9_asLane 29 = .ok (.iload_n 1, 1) := by decide +kernel
theorem dX9_asLane_30 : decode cX9_asLane 30 = .ok (.ireturn, 1) := by decide +kernel
theorem dX9_set_0 : decode cX9_set 0 = .ok (.iload_n 1, 1) := by decide +kernel
theorem dX9_set_1 : decode cX9_set 1 = .ok (.invokestatic 70, 3) := by decide +kernel
theorem dX9_set_4 : decode cX9_set 4 = .ok (.ifCond .ne 6, 3) := by decide +kernel
theorem dX9_set_7 : decode cX9_set 7 = .ok (.ldc 76, 2) := by decide +kernel
theorem dX9_set_9 : decode cX9_set 9 = .ok (.ireturn, 1) := by decide +kernel
theorem dX9_set_10 : decode cX9_set 10 = .ok (.aload_n 0, 1) := by decide +kernel
theorem dX9_set_11 : decode cX9_set 11 = .ok (.getfield 13, 3) := by decide +kernel
theorem dX9_set_14 : decode cX9_set 14 = .ok (.iload_n 1, 1) := by decide +kernel
theorem dX9_set_15 : decode cX9_set 15 = .ok (.iaload, 1) := by decide +kernel
theorem dX9_set_16 : decode cX9_set 16 = .ok (.ifCond .ge 9, 3) := by decide +kernel
theorem dX9_set_19 : decode cX9_set 19 = .ok (.aload_n 0, 1) := by decide +kernel
theorem dX9_set_20 : decode cX9_set 20 = .ok (.iconst 1, 1) := by decide +kernel
theorem dX9_set_21 : decode cX9_set 21 = .ok (.invokevirtual 77, 3) := by decide +kernel
theorem dX9_set_24 : decode cX9_set 24 = .ok (.ireturn, 1) := by decide +kernel
theorem dX9_set_25 : decode cX9_set 25 = .ok (.iload_n 2, 1) := by decide +kernel
theorem dX9_set_26 : decode cX9_set 26 = .ok (.i2l, 1) := by decide +kernel
theorem dX9_set_27 : decode cX9_set 27 = .ok (.lconst 0, 1) := by decide +kernel
theorem dX9_set_28 : decode cX9_set 28 = .ok (.aload_n 0, 1) := by decide +kernel
theorem dX9_set_29 : decode cX9_set 29 = .ok (.getfield 13, 3) := by decide +kernel
theorem dX9_set_32 : decode cX9_set 32 = .ok (.iload_n 1, 1) := by decide +kernel
theorem dX9_set_33 : decode cX9_set 33 = .ok (.iaload, 1) := by decide +kernel
theorem dX9_set_34 : decode cX9_set 34 = .ok (.iconst 1, 1) := by decide +kernel
theorem dX9_set_35 : decode cX9_set 35 = .ok (.isub, 1) := by decide +kernel
theorem dX9_set_36 : decode cX9_set 36 = .ok (.i2l, 1) := by decide +kernel
theorem dX9_set_37 : decode cX9_set 37 = .ok (.invokestatic 66, 3) := by decide +kernel
theorem dX9_set_40 : decode cX9_set 40 = .ok (.ifCond .ne 9, 3) := by decide +kernel
theorem dX9_set_43 : decode cX9_set 43 = .ok (.aload_n 0, 1) := by decide +kernel
theorem dX9_set_44 : decode cX9_set 44 = .ok (.iconst 2, 1) := by decide +kernel
theorem dX9_set_45 : decode cX9_set 45 = .ok (.invokevirtual 77, 3) := by decide +kernel
theorem dX9_set_48 : decode cX9_set 48 = .ok (.ireturn, 1) := by decide +kernel
theorem dX9_set_49 : decode cX9_set 49 = .ok (.aload_n 0, 1) := by decide +kernel
theorem dX9_set_50 : decode cX9_set 50 = .ok (.getfield 16, 3) := by decide +kernel
theorem dX9_set_53 : decode cX9_set 53 = .ok (.bipush 40, 2) := by decide +kernel
theorem dX9_set_55 : decode cX9_set 55 = .ok (.iload_n 1, 1) := by decide +kernel
theorem dX9_set_56 : decode cX9_set 56 = .ok (.imul, 1) := by decide +kernel
theorem dX9_set_57 : decode cX9_set 57 = .ok (.iload_n 2, 1) := by decide +kernel
theorem dX9_set_58 : decode cX9_set 58 = .ok (.iadd, 1) := by decide +kernel
theorem dX9_set_59 : decode cX9_set 59 = .ok (.aload_n 0, 1) := by decide +kernel
theorem dX9_set_60 : decode cX9_set 60 = .ok (.getfield 7, 3) := by decide +kernel
theorem dX9_set_63 : decode cX9_set 63 = .ok (.iload_n 1, 1) := by decide +kernel
theorem dX9_set_64 : decode cX9_set 64 = .ok (.iaload, 1) := by decide +kernel
theorem dX9_set_65 : decode cX9_set 65 = .ok (.iload_n 3, 1) := by decide +kernel
theorem dX9_set_66 : decode cX9_set 66 = .ok (.invokestatic 84, 3) := by decide +kernel
theorem dX9_set_69 : decode cX9_set 69 = .ok (.iastore, 1) := by decide +kernel
theorem dX9_set_70 : decode cX9_set 70 = .ok (.aload_n 0, 1) := by decide +kernel
theorem dX9_set_71 : decode cX9_set 71 = .ok (.aload_n 0, 1) := by decide +kernel
theorem dX9_set_72 : decode cX9_set 72 = .ok (.getfield 16, 3) := by decide +kernel
theorem dX9_set_75 : decode cX9_set 75 = .ok (.bipush 40, 2) := by decide +kernel
theorem dX9_set_77 : decode cX9_set 77 = .ok (.iload_n 1, 1) := by decide +kernel
theorem dX9_set_78 : decode cX9_set 78 = .ok (.imul, 1) := by decide +kernel
theorem dX9_set_79 : decode cX9_set 79 = .ok (.iload_n 2, 1) := by decide +kernel
theorem dX9_set_80 : decode cX9_set 80 = .ok (.iadd, 1) := by decide +kernel
theorem dX9_set_81 : decode cX9_set 81 = .ok (.iaload, 1) := by decide +kernel
theorem dX9_set_82 : decode cX9_set 82 = .ok (.invokevirtual 81, 3) := by decide +kernel
theorem dX9_set_85 : decode cX9_set 85 = .ok (.ireturn, 1) := by decide +kernel
theorem dX9_copy_0 : decode cX9_copy 0 = .ok (.iload_n 1, 1) := by decide +kernel
theorem dX9_copy_1 : decode cX9_copy 1 = .ok (.invokestatic 70, 3) := by decide +kernel
theorem dX9_copy_4 : decode cX9_copy 4 = .ok (.ifCond .eq 10, 3) := by decide +kernel
theorem dX9_copy_7 : decode cX9_copy 7 = .ok (.iload_n 3, 1) := by decide +kernel
theorem dX9_copy_8 : decode cX9_copy 8 = .ok (.invokestatic 70, 3) := by decide +kernel
theorem dX9_copy_11 : decode cX9_copy 11 = .ok (.ifCond .ne 6, 3) := by decide +kernel
theorem dX9_copy_14 : decode cX9_copy 14 = .ok (.ldc 76, 2) := by decide +kernel
theorem dX9_copy_16 : decode cX9_copy 16 = .ok (.ireturn, 1) := by decide +kernel
theorem dX9_copy_17 : decode cX9_copy 17 = .ok (.aload_n 0, 1) := by decide +kernel
theorem dX9_copy_18 : decode cX9_copy 18 = .ok (.getfield 13, 3) := by decide +kernel
theorem dX9_copy_21 : decode cX9_copy 21 = .ok (.iload_n 1, 1) := by decide +kernel
theorem dX9_copy_22 : decode cX9_copy 22 = .ok (.iaload, 1) := by decide +kernel
theorem dX9_copy_23 : decode cX9_copy 23 = .ok (.ifCond .lt 12, 3) := by decide +kernel
theorem dX9_copy_26 : decode cX9_copy 26 = .ok (.aload_n 0, 1) := by decide +kernel
theorem dX9_copy_27 : decode cX9_copy 27 = .ok (.getfield 13, 3) := by decide +kernel
theorem dX9_copy_30 : decode cX9_copy 30 = .ok (.iload_n 3, 1) := by decide +kernel
theorem dX9_copy_31 : decode cX9_copy 31 = .ok (.iaload, 1) := by decide +kernel
theorem dX9_copy_32 : decode cX9_copy 32 = .ok (.ifCond .ge 9, 3) := by decide +kernel
theorem dX9_copy_35 : decode cX9_copy 35 = .ok (.aload_n 0, 1) := by decide +kernel
theorem dX9_copy_36 : decode cX9_copy 36 = .ok (.iconst 1, 1) := by decide +kernel
theorem dX9_copy_37 : decode cX9_copy 37 = .ok (.invokevirtual 77, 3) := by decide +kernel
theorem dX9_copy_40 : decode cX9_copy 40 = .ok (.ireturn, 1) := by decide +kernel
theorem dX9_copy_41 : decode cX9_copy 41 = .ok (.aload_n 0, 1) := by decide +kernel
theorem dX9_copy_42 : decode cX9_copy 42 = .ok (.getfield 7, 3) := by decide +kernel
theorem dX9_copy_45 : decode cX9_copy 45 = .ok (.iload_n 1, 1) := by decide +kernel
theorem dX9_copy_46 : decode cX9_copy 46 = .ok (.iaload, 1) := by decide +kernel
theorem dX9_copy_47 : decode cX9_copy 47 = .ok (.aload_n 0, 1) := by decide +kernel
theorem dX9_copy_48 : decode cX9_copy 48 = .ok (.getfield 7, 3) := by decide +kernel
theorem dX9_copy_51 : decode cX9_copy 51 = .ok (.iload_n 3, 1) := by decide +kernel
theorem dX9_copy_52 : decode cX9_copy 52 = .ok (.iaload, 1) := by decide +kernel
theorem dX9_copy_53 : decode cX9_copy 53 = .ok (.if_icmp .eq 9, 3) := by decide +kernel
theorem dX9_copy_56 : decode cX9_copy 56 = .ok (.aload_n 0, 1) := by decide +kernel
theorem dX9_copy_57 : decode cX9_copy 57 = .ok (.iconst 5, 1) := by decide +kernel
theorem dX9_copy_58 : decode cX9_copy 58 = .ok (.invokevirtual 77, 3) := by decide +kernel
theorem dX9_copy_61 : decode cX9_copy 61 = .ok (.ireturn, 1) := by decide +kernel
theorem dX9_copy_62 : decode cX9_copy 62 = .ok (.iload 5, 2) := by decide +kernel
theorem dX9_copy_64 : decode cX9_copy 64 = .ok (.ifCond .lt 44, 3) := by decide +kernel
theorem dX9_copy_67 : decode cX9_copy 67 = .ok (.iload_n 2, 1) := by decide +kernel
theorem dX9_copy_68 : decode cX9_copy 68 = .ok (.i2l, 1) := by decide +kernel
theorem dX9_copy_69 : decode cX9_copy 69 = .ok (.lconst 0, 1) := by decide +kernel
theorem dX9_copy_70 : decode cX9_copy 70 = .ok (.aload_n 0, 1) := by decide +kernel
theorem dX9_copy_71 : decode cX9_copy 71 = .ok (.getfield 13, 3) := by decide +kernel
theorem dX9_copy_74 : decode cX9_copy 74 = .ok (.iload_n 1, 1) := by decide +kernel
theorem dX9_copy_75 : decode cX9_copy 75 = .ok (.iaload, 1) := by decide +kernel
theorem dX9_copy_76 : decode cX9_copy 76 = .ok (.i2l, 1) := by decide +kernel
theorem dX9_copy_77 : decode cX9_copy 77 = .ok (.iload 5, 2) := by decide +kernel
theorem dX9_copy_79 : decode cX9_copy 79 = .ok (.i2l, 1) := by decide +kernel
theorem dX9_copy_80 : decode cX9_copy 80 = .ok (.lsub, 1) := by decide +kernel
theorem dX9_copy_81 : decode cX9_copy 81 = .ok (.invokestatic 66, 3) := by decide +kernel
theorem dX9_copy_84 : decode cX9_copy 84 = .ok (.ifCond .eq 24, 3) := by decide +kernel
theorem dX9_copy_87 : decode cX9_copy 87 = .ok (.iload 4, 2) := by decide +kernel
theorem dX9_copy_89 : decode cX9_copy 89 = .ok (.i2l, 1) := by decide +kernel
theorem dX9_copy_90 : decode cX9_copy 90 = .ok (.lconst 0, 1) := by decide +kernel
theorem dX9_copy_91 : decode cX9_copy 91 = .ok (.aload_n 0, 1) := by decide +kernel
theorem dX9_copy_92 : decode cX9_copy 92 = .ok (.getfield 13, 3) := by decide +kernel
theorem dX9_copy_95 : decode cX9_copy 95 = .ok (.iload_n 3, 1) := by decide +kernel
theorem dX9_copy_96 : decode cX9_copy 96 = .ok (.iaload, 1) := by decide +kernel
theorem dX9_copy_97 : decode cX9_copy 97 = .ok (.i2l, 1) := by decide +kernel
theorem dX9_copy_98 : decode cX9_copy 98 = .ok (.iload 5, 2) := by decide +kernel
theorem dX9_copy_100 : decode cX9_copy 100 = .ok (.i2l, 1) := by decide +kernel
theorem dX9_copy_101 : decode cX9_copy 101 = .ok (.lsub, 1) := by decide +kernel
theorem dX9_copy_102 : decode cX9_copy 102 = .ok (.invokestatic 66, 3) := by decide +kernel
theorem dX9_copy_105 : decode cX9_copy 105 = .ok (.ifCond .ne 9, 3) := by decide +kernel
theorem dX9_copy_108 : decode cX9_copy 108 = .ok (.aload_n 0, 1) := by decide +kernel
theorem dX9_copy_109 : decode cX9_copy 109 = .ok (.iconst 2, 1) := by decide +kernel
theorem dX9_copy_110 : decode cX9_copy 110 = .ok (.invokevirtual 77, 3) := by decide +kernel
theorem dX9_copy_113 : decode cX9_copy 113 = .ok (.ireturn, 1) := by decide +kernel
theorem dX9_copy_114 : decode cX9_copy 114 = .ok (.iconst 0, 1) := by decide +kernel
theorem dX9_copy_115 : decode cX9_copy 115 = .ok (.istore 6, 2) := by decide +kernel
theorem dX9_copy_117 : decode cX9_copy 117 = .ok (.iload 6, 2) := by decide +kernel
theorem dX9_copy_119 : decode cX9_copy 119 = .ok (.iload 5, 2) := by decide +kernel
theorem dX9_copy_121 : decode cX9_copy 121 = .ok (.if_icmp .ge 30, 3) := by decide +kernel
theorem dX9_copy_124 : decode cX9_copy 124 = .ok (.aload_n 0, 1) := by decide +kernel
theorem dX9_copy_125 : decode cX9_copy 125 = .ok (.getfield 22, 3) := by decide +kernel
theorem dX9_copy_128 : decode cX9_copy 128 = .ok (.iload 6, 2) := by decide +kernel
theorem dX9_copy_130 : decode cX9_copy 130 = .ok (.aload_n 0, 1) := by decide +kernel
theorem dX9_copy_131 : decode cX9_copy 131 = .ok (.getfield 16, 3) := by decide +kernel
theorem dX9_copy_134 : decode cX9_copy 134 = .ok (.bipush 40, 2) := by decide +kernel
theorem dX9_copy_136 : decode cX9_copy 136 = .ok (.iload_n 1, 1) := by decide +kernel
theorem dX9_copy_137 : decode cX9_copy 137 = .ok (.imul, 1) := by decide +kernel
theorem dX9_copy_138 : decode cX9_copy 138 = .ok (.iload_n 2, 1) := by decide +kernel
theorem dX9_copy_139 : decode cX9_copy 139 = .ok (.iadd, 1) := by decide +kernel
theorem dX9_copy_140 : decode cX9_copy 140 = .ok (.iload 6, 2) := by decide +kernel
theorem dX9_copy_142 : decode cX9_copy 142 = .ok (.iadd, 1) := by decide +kernel
theorem dX9_copy_143 : decode cX9_copy 143 = .ok (.iaload, 1) := by decide +kernel
theorem dX9_copy_144 : decode cX9_copy 144 = .ok (.iastore, 1) := by decide +kernel
theorem dX9_copy_145 : decode cX9_copy 145 = .ok (.iinc 6 1, 3) := by decide +kernel
theorem dX9_copy_148 : decode cX9_copy 148 = .ok (.goto (-31), 3) := by decide +kernel
theorem dX9_copy_151 : decode cX9_copy 151 = .ok (.iconst 0, 1) := by decide +kernel
theorem dX9_copy_152 : decode cX9_copy 152 = .ok (.istore 6, 2) := by decide +kernel
theorem dX9_copy_154 : decode cX9_copy 154 = .ok (.iload 6, 2) := by decide +kernel
theorem dX9_copy_156 : decode cX9_copy 156 = .ok (.iload 5, 2) := by decide +kernel
theorem dX9_copy_158 : decode cX9_copy 158 = .ok (.if_icmp .ge 31, 3) := by decide +kernel
theorem dX9_copy_161 : decode cX9_copy 161 = .ok (.aload_n 0, 1) := by decide +kernel
theorem dX9_copy_162 : decode cX9_copy 162 = .ok (.getfield 16, 3) := by decide +kernel
theorem dX9_copy_165 : decode cX9_copy 165 = .ok (.bipush 40, 2) := by decide +kernel
theorem dX9_copy_167 : decode cX9_copy 167 = .ok (.iload_n 3, 1) := by decide +kernel
theorem dX9_copy_168 : decode cX9_copy 168 = .ok (.imul, 1) := by decide +kernel
theorem dX9_copy_169 : decode cX9_copy 169 = .ok (.iload 4, 2) := by decide +kernel
theorem dX9_copy_171 : decode cX9_copy 171 = .ok (.iadd, 1) := by decide +kernel
theorem dX9_copy_172 : decode cX9_copy 172 = .ok (.iload 6, 2) := by decide +kernel
theorem dX9_copy_174 : decode cX9_copy 174 = .ok (.iadd, 1) := by decide +kernel
theorem dX9_copy_175 : decode cX9_copy 175 = .ok (.aload_n 0, 1) := by decide +kernel
theorem dX9_copy_176 : decode cX9_copy 176 = .ok (.getfield 22, 3) := by decide +kernel
theorem dX9_copy_179 : decode cX9_copy 179 = .ok (.iload 6, 2) := by decide +kernel
theorem dX9_copy_181 : decode cX9_copy 181 = .ok (.iaload, 1) := by decide +kernel
theorem dX9_copy_182 : decode cX9_copy 182 = .ok (.iastore, 1) := by decide +kernel
theorem dX9_copy_183 : decode cX9_copy 183 = .ok (.iinc 6 1, 3) := by decide +kernel
theorem dX9_copy_186 : decode cX9_copy 186 = .ok (.goto (-32), 3) := by decide +kernel
theorem dX9_copy_189 : decode cX9_copy 189 = .ok (.aload_n 0, 1) := by decide +kernel
theorem dX9_copy_190 : decode cX9_copy 190 = .ok (.iload 5, 2) := by decide +kernel
theorem dX9_copy_192 : decode cX9_copy 192 = .ok (.invokevirtual 81, 3) := by decide +kernel
theorem dX9_copy_195 : decode cX9_copy 195 = .ok (.ireturn, 1) := by decide +kernel
theorem dX9_drop_0 : decode cX9_drop 0 = .ok (.iload_n 1, 1) := by decide +kernel
theorem dX9_drop_1 : decode cX9_drop 1 = .ok (.invokestatic 70, 3) := by decide +kernel
theorem dX9_drop_4 : decode cX9_drop 4 = .ok (.ifCond .ne 6, 3) := by decide +kernel
theorem dX9_drop_7 : decode cX9_drop 7 = .ok (.ldc 76, 2) := by decide +kernel
theorem dX9_drop_9 : decode cX9_drop 9 = .ok (.ireturn, 1) := by decide +kernel
theorem dX9_drop_10 : decode cX9_drop 10 = .ok (.aload_n 0, 1) := by decide +kernel
theorem dX9_drop_11 : decode cX9_drop 11 = .ok (.getfield 13, 3) := by decide +kernel
theorem dX9_drop_14 : decode cX9_drop 14 = .ok (.iload_n 1, 1) := by decide +kernel
theorem dX9_drop_15 : decode cX9_drop 15 = .ok (.iaload, 1) := by decide +kernel
theorem dX9_drop_16 : decode cX9_drop 16 = .ok (.ifCond .ge 9, 3) := by decide +kernel
theorem dX9_drop_19 : decode cX9_drop 19 = .ok (.aload_n 0, 1) := by decide +kernel
theorem dX9_drop_20 : decode cX9_drop 20 = .ok (.iconst 1, 1) := by decide +kernel
theorem dX9_drop_21 : decode cX9_drop 21 = .ok (.invokevirtual 77, 3) := by decide +kernel
theorem dX9_drop_24 : decode cX9_drop 24 = .ok (.ireturn, 1) := by decide +kernel
theorem dX9_drop_25 : decode cX9_drop 25 = .ok (.aload_n 0, 1) := by decide +kernel
theorem dX9_drop_26 : decode cX9_drop 26 = .ok (.getfield 13, 3) := by decide +kernel
theorem dX9_drop_29 : decode cX9_drop 29 = .ok (.iload_n 1, 1) := by decide +kernel
theorem dX9_drop_30 : decode cX9_drop 30 = .ok (.iaload, 1) := by decide +kernel
theorem dX9_drop_31 : decode cX9_drop 31 = .ok (.istore_n 2, 1) := by decide +kernel
theorem dX9_drop_32 : decode cX9_drop 32 = .ok (.aload_n 0, 1) := by decide +kernel
theorem dX9_drop_33 : decode cX9_drop 33 = .ok (.getfield 13, 3) := by decide +kernel
theorem dX9_drop_36 : decode cX9_drop 36 = .ok (.iload_n 1, 1) := by decide +kernel
theorem dX9_drop_37 : decode cX9_drop 37 = .ok (.iconst (-1), 1) := by decide +kernel
theorem dX9_drop_38 : decode cX9_drop 38 = .ok (.iastore, 1) := by decide +kernel
theorem dX9_drop_39 : decode cX9_drop 39 = .ok (.aload_n 0, 1) := by decide +kernel
theorem dX9_drop_40 : decode cX9_drop 40 = .ok (.iload_n 2, 1) := by decide +kernel
theorem dX9_drop_41 : decode cX9_drop 41 = .ok (.invokevirtual 81, 3) := by decide +kernel
theorem dX9_drop_44 : decode cX9_drop 44 = .ok (.ireturn, 1) := by decide +kernel
theorem dX9_feed_0 : decode cX9_feed 0 = .ok (.iload_n 1, 1) := by decide +kernel
theorem dX9_feed_1 : decode cX9_feed 1 = .ok (.i2l, 1) := by decide +kernel
theorem dX9_feed_2 : decode cX9_feed 2 = .ok (.lconst 0, 1) := by decide +kernel
theorem dX9_feed_3 : decode cX9_feed 3 = .ok (.ldc2_w 88, 3) := by decide +kernel
theorem dX9_feed_6 : decode cX9_feed 6 = .ok (.invokestatic 66, 3) := by decide +kernel
theorem dX9_feed_9 : decode cX9_feed 9 = .ok (.ifCond .ne 6, 3) := by decide +kernel
theorem dX9_feed_12 : decode cX9_feed 12 = .ok (.ldc 76, 2) := by decide +kernel
theorem dX9_feed_14 : decode cX9_feed 14 = .ok (.ireturn, 1) := by decide +kernel
theorem dX9_feed_15 : decode cX9_feed 15 = .ok (.aload_n 0, 1) := by decide +kernel
theorem dX9_feed_16 : decode cX9_feed 16 = .ok (.getfield 90, 3) := by decide +kernel
theorem dX9_feed_19 : decode cX9_feed 19 = .ok (.bipush 120, 2) := by decide +kernel
theorem dX9_feed_21 : decode cX9_feed 21 = .ok (.if_icmp .ne 6, 3) := by decide +kernel
theorem dX9_feed_24 : decode cX9_feed 24 = .ok (.ldc 93, 2) := by decide +kernel
theorem dX9_feed_26 : decode cX9_feed 26 = .ok (.ireturn, 1) := by decide +kernel
theorem dX9_feed_27 : decode cX9_feed 27 = .ok (.aload_n 0, 1) := by decide +kernel
theorem dX9_feed_28 : decode cX9_feed 28 = .ok (.getfield 25, 3) := by decide +kernel
theorem dX9_feed_31 : decode cX9_feed 31 = .ok (.aload_n 0, 1) := by decide +kernel
theorem dX9_feed_32 : decode cX9_feed 32 = .ok (.getfield 90, 3) := by decide +kernel
theorem dX9_feed_35 : decode cX9_feed 35 = .ok (.iload_n 1, 1) := by decide +kernel
theorem dX9_feed_36 : decode cX9_feed 36 = .ok (.iastore, 1) := by decide +kernel
theorem dX9_feed_37 : decode cX9_feed 37 = .ok (.aload_n 0, 1) := by decide +kernel
theorem dX9_feed_38 : decode cX9_feed 38 = .ok (.dup, 1) := by decide +kernel
theorem dX9_feed_39 : decode cX9_feed 39 = .ok (.getfield 90, 3) := by decide +kernel
theorem dX9_feed_42 : decode cX9_feed 42 = .ok (.iconst 1, 1) := by decide +kernel
theorem dX9_feed_43 : decode cX9_feed 43 = .ok (.iadd, 1) := by decide +kernel
theorem dX9_feed_44 : decode cX9_feed 44 = .ok (.putfield 90, 3) := by decide +kernel
theorem dX9_feed_47 : decode cX9_feed 47 = .ok (.aload_n 0, 1) := by decide +kernel
theorem dX9_feed_48 : decode cX9_feed 48 = .ok (.getfield 90, 3) := by decide +kernel
theorem dX9_feed_51 : decode cX9_feed 51 = .ok (.ireturn, 1) := by decide +kernel
theorem dX9_isSign_0 : decode cX9_isSign 0 = .ok (.iload_n 0, 1) := by decide +kernel
theorem dX9_isSign_1 : decode cX9_isSign 1 = .ok (.i2l, 1) := by decide +kernel
theorem dX9_isSign_2 : decode cX9_isSign 2 = .ok (.ldc2_w 94, 3) := by decide +kernel
theorem dX9_isSign_5 : decode cX9_isSign 5 = .ok (.ldc2_w 96, 3) := by decide +kernel
theorem dX9_isSign_8 : decode cX9_isSign 8 = .ok (.invokestatic 66, 3) := by decide +kernel
theorem dX9_isSign_11 : decode cX9_isSign 11 = .ok (.ifCond .ne 15, 3) := by decide +kernel
theorem dX9_isSign_14 : decode cX9_isSign 14 = .ok (.iload_n 0, 1) := by decide +kernel
theorem dX9_isSign_15 : decode cX9_isSign 15 = .ok (.bipush 44, 2) := by decide +kernel
theorem dX9_isSign_17 : decode cX9_isSign 17 = .ok (.if_icmp .eq 9, 3) := by decide +kernel
theorem dX9_isSign_20 : decode cX9_isSign 20 = .ok (.iload_n 0, 1) := by decide +kernel
theorem dX9_isSign_21 : decode cX9_isSign 21 = .ok (.bipush 59, 2) := by decide +kernel
theorem dX9_isSign_23 : decode cX9_isSign 23 = .ok (.if_icmp .ne 7, 3) := by decide +kernel
theorem dX9_isSign_26 : decode cX9_isSign 26 = .ok (.iconst 1, 1) := by decide +kernel
theorem dX9_isSign_27 : decode cX9_isSign 27 = .ok (.goto 4, 3) := by decide +kernel
theorem dX9_isSign_30 : decode cX9_isSign 30 = .ok (.iconst 0, 1) := by decide +kernel
theorem dX9_isSign_31 : decode cX9_isSign 31 = .ok (.ireturn, 1) := by decide +kernel
theorem dX9_nextToken_0 : decode cX9_nextToken 0 = .ok (.aload_n 0, 1) := by decide +kernel
theorem dX9_nextToken_1 : decode cX9_nextToken 1 = .ok (.aload_n 0, 1) := by decide +kernel
theorem dX9_nextToken_2 : decode cX9_nextToken 2 = .ok (.getfield 98, 3) := by decide +kernel
theorem dX9_nextToken_5 : decode cX9_nextToken 5 = .ok (.putfield 101, 3) := by decide +kernel
theorem dX9_nextToken_8 : decode cX9_nextToken 8 = .ok (.aload_n 0, 1) := by decide +kernel
theorem dX9_nextToken_9 : decode cX9_nextToken 9 = .ok (.aload_n 0, 1) := by decide +kernel
theorem dX9_nextToken_10 : decode cX9_nextToken 10 = .ok (.getfield 98, 3) := by decide +kernel
theorem dX9_nextToken_13 : decode cX9_nextToken 13 = .ok (.aload_n 0, 1) := by decide +kernel
theorem dX9_nextToken_14 : decode cX9_nextToken 14 = .ok (.getfield 90, 3) := by decide +kernel
theorem dX9_nextToken_17 : decode cX9_nextToken 17 = .ok (.if_icmp .ne 7, 3) := by decide +kernel
theorem dX9_nextToken_20 : decode cX9_nextToken 20 = .ok (.iconst 3, 1) := by decide +kernel
theorem dX9_nextToken_21 : decode cX9_nextToken 21 = .ok (.goto 4, 3) := by decide +kernel
theorem dX9_nextToken_24 : decode cX9_nextToken 24 = .ok (.iconst 0, 1) := by decide +kernel
theorem dX9_nextToken_25 : decode cX9_nextToken 25 = .ok (.putfield 104, 3) := by decide +kernel
theorem dX9_nextToken_28 : decode cX9_nextToken 28 = .ok (.aload_n 0, 1) := by decide +kernel
theorem dX9_nextToken_29 : decode cX9_nextToken 29 = .ok (.iconst 0, 1) := by decide +kernel
theorem dX9_nextToken_30 : decode cX9_nextToken 30 = .ok (.putfield 107, 3) := by decide +kernel
theorem dX9_nextToken_33 : decode cX9_nextToken 33 = .ok (.aload_n 0, 1) := by decide +kernel
theorem dX9_nextToken_34 : decode cX9_nextToken 34 = .ok (.getfield 98, 3) := by decide +kernel
theorem dX9_nextToken_37 : decode cX9_nextToken 37 = .ok (.aload_n 0, 1) := by decide +kernel
theorem dX9_nextToken_38 : decode cX9_nextToken 38 = .ok (.getfield 90, 3) := by decide +kernel
theorem dX9_nextToken_41 : decode cX9_nextToken 41 = .ok (.if_icmp .ge 79, 3) := by decide +kernel
theorem dX9_nextToken_44 : decode cX9_nextToken 44 = .ok (.aload_n 0, 1) := by decide +kernel
theorem dX9_nextToken_45 : decode cX9_nextToken 45 = .ok (.getfield 25, 3) := by decide +kernel
theorem dX9_nextToken_48 : decode cX9_nextToken 48 = .ok (.aload_n 0, 1) := by decide +kernel
theorem dX9_nextToken_49 : decode cX9_nextToken 49 = .ok (.getfield 98, 3) := by decide +kernel
theorem dX9_nextToken_52 : decode cX9_nextToken 52 = .ok (.iaload, 1) := by decide +kernel
theorem dX9_nextToken_53 : decode cX9_nextToken 53 = .ok (.i2l, 1) := by decide +kernel
theorem dX9_nextToken_54 : decode cX9_nextToken 54 = .ok (.ldc2_w 110, 3) := by decide +kernel
theorem dX9_nextToken_57 : decode cX9_nextToken 57 = .ok (.ldc2_w 112, 3) := by decide +kernel
theorem dX9_nextToken_60 : decode cX9_nextToken 60 = .ok (.invokestatic 66, 3) := by decide +kernel
theorem dX9_nextToken_63 : decode cX9_nextToken 63 = .ok (.ifCond .eq 57, 3) := by decide +kernel
theorem dX9_nextToken_66 : decode cX9_nextToken 66 = .ok (.aload_n 0, 1) := by decide +kernel
theorem dX9_nextToken_67 : decode cX9_nextToken 67 = .ok (.aload_n 0, 1) := by decide +kernel
theorem dX9_nextToken_68 : decode cX9_nextToken 68 = .ok (.getfield 107, 3) := by decide +kernel
theorem dX9_nextToken_71 : decode cX9_nextToken 71 = .ok (.sipush 999, 3) := by decide +kernel
theorem dX9_nextToken_74 : decode cX9_nextToken 74 = .ok (.if_icmp .le 10, 3) := by decide +kernel
theorem dX9_nextToken_77 : decode cX9_nextToken 77 = .ok (.aload_n 0, 1) := by decide +kernel
theorem dX9_nextToken_78 : decode cX9_nextToken 78 = .ok (.getfield 107, 3) := by decide +kernel
theorem dX9_nextToken_81 : decode cX9_nextToken 81 = .ok (.goto 23, 3) := by decide +kernel
theorem dX9_nextToken_84 : decode cX9_nextToken 84 = .ok (.bipush 10, 2) := by decide +kernel
theorem dX9_nextToken_86 : decode cX9_nextToken 86 = .ok (.aload_n 0, 1) := by decide +kernel
theorem dX9_nextToken_87 : decode cX9_nextToken 87 = .ok (.getfield 107, 3) := by decide +kernel
theorem dX9_nextToken_90 : decode cX9_nextToken 90 = .ok (.imul, 1) := by decide +kernel
theorem dX9_nextToken_91 : decode cX9_nextToken 91 = .ok (.aload_n 0, 1) := by decide +kernel
theorem dX9_nextToken_92 : decode cX9_nextToken 92 = .ok (.getfield 25, 3) := by decide +kernel
theorem dX9_nextToken_95 : decode cX9_nextToken 95 = .ok (.aload_n 0, 1) := by decide +kernel
theorem dX9_nextToken_96 : decode cX9_nextToken 96 = .ok (.getfield 98, 3) := by decide +kernel
theorem dX9_nextToken_99 : decode cX9_nextToken 99 = .ok (.iaload, 1) := by decide +kernel
theorem dX9_nextToken_100 : decode cX9_nextToken 100 = .ok (.iadd, 1) := by decide +kernel
theorem dX9_nextToken_101 : decode cX9_nextToken 101 = .ok (.bipush 48, 2) := by decide +kernel
theorem dX9_nextToken_103 : decode cX9_nextToken 103 = .ok (.isub, 1) := by decide +kernel
theorem dX9_nextToken_104 : decode cX9_nextToken 104 = .ok (.putfield 107, 3) := by decide +kernel
theorem dX9_nextToken_107 : decode cX9_nextToken 107 = .ok (.aload_n 0, 1) := by decide +kernel
theorem dX9_nextToken_108 : decode cX9_nextToken 108 = .ok (.dup, 1) := by decide +kernel
theorem dX9_nextToken_109 : decode cX9_nextToken 109 = .ok (.getfield 98, 3) := by decide +kernel
theorem dX9_nextToken_112 : decode cX9_nextToken 112 = .ok (.iconst 1, 1) := by decide +kernel
theorem dX9_nextToken_113 : decode cX9_nextToken 113 = .ok (.iadd, 1) := by decide +kernel
theorem dX9_nextToken_114 : decode cX9_nextToken 114 = .ok (.putfield 98, 3) := by decide +kernel
theorem dX9_nextToken_117 : decode cX9_nextToken 117 = .ok (.goto (-84), 3) := by decide +kernel
theorem dX9_nextToken_120 : decode cX9_nextToken 120 = .ok (.aload_n 0, 1) := by decide +kernel
theorem dX9_nextToken_121 : decode cX9_nextToken 121 = .ok (.getfield 98, 3) := by decide +kernel
theorem dX9_nextToken_124 : decode cX9_nextToken 124 = .ok (.aload_n 0, 1) := by decide +kernel
theorem dX9_nextToken_125 : decode cX9_nextToken 125 = .ok (.getfield 101, 3) := by decide +kernel
theorem dX9_nextToken_128 : decode cX9_nextToken 128 = .ok (.if_icmp .le 28, 3) := by decide +kernel
theorem dX9_nextToken_131 : decode cX9_nextToken 131 = .ok (.aload_n 0, 1) := by decide +kernel
theorem dX9_nextToken_132 : decode cX9_nextToken 132 = .ok (.aload_n 0, 1) := by decide +kernel
theorem dX9_nextToken_133 : decode cX9_nextToken 133 = .ok (.getfield 98, 3) := by decide +kernel
theorem dX9_nextToken_136 : decode cX9_nextToken 136 = .ok (.aload_n 0, 1) := by decide +kernel
theorem dX9_nextToken_137 : decode cX9_nextToken 137 = .ok (.getfield 101, 3) := by decide +kernel
theorem dX9_nextToken_140 : decode cX9_nextToken 140 = .ok (.isub, 1) := by decide +kernel
theorem dX9_nextToken_141 : decode cX9_nextToken 141 = .ok (.iconst 3, 1) := by decide +kernel
theorem dX9_nextToken_142 : decode cX9_nextToken 142 = .ok (.if_icmp .le 7, 3) := by decide +kernel
theorem dX9_nextToken_145 : decode cX9_nextToken 145 = .ok (.iconst 0, 1) := by decide +kernel
theorem dX9_nextToken_146 : decode cX9_nextToken 146 = .ok (.goto 4, 3) := by decide +kernel
theorem dX9_nextToken_149 : decode cX9_nextToken 149 = .ok (.iconst 2, 1) := by decide +kernel
theorem dX9_nextToken_150 : decode cX9_nextToken 150 = .ok (.putfield 104, 3) := by decide +kernel
theorem dX9_nextToken_153 : decode cX9_nextToken 153 = .ok (.goto 57, 3) := by decide +kernel
theorem dX9_nextToken_156 : decode cX9_nextToken 156 = .ok (.aload_n 0, 1) := by decide +kernel
theorem dX9_nextToken_157 : decode cX9_nextToken 157 = .ok (.getfield 104, 3) := by decide +kernel
theorem dX9_nextToken_160 : decode cX9_nextToken 160 = .ok (.ifCond .ne 50, 3) := by decide +kernel
theorem dX9_nextToken_163 : decode cX9_nextToken 163 = .ok (.aload_n 0, 1) := by decide +kernel
theorem dX9_nextToken_164 : decode cX9_nextToken 164 = .ok (.aload_n 0, 1) := by decide +kernel
theorem dX9_nextToken_165 : decode cX9_nextToken 165 = .ok (.getfield 25, 3) := by decide +kernel
theorem dX9_nextToken_168 : decode cX9_nextToken 168 = .ok (.aload_n 0, 1) := by decide +kernel
theorem dX9_nextToken_169 : decode cX9_nextToken 169 = .ok (.getfield 98, 3) := by decide +kernel
theorem dX9_nextToken_172 : decode cX9_nextToken 172 = .ok (.iaload, 1) := by decide +kernel
theorem dX9_nextToken_173 : decode cX9_nextToken 173 = .ok (.invokestatic 114, 3) := by decide +kernel
theorem dX9_nextToken_176 : decode cX9_nextToken 176 = .ok (.ifCond .eq 7, 3) := by decide +kernel
theorem dX9_nextToken_179 : decode cX9_nextToken 179 = .ok (.iconst 1, 1) := by decide +kernel
theorem dX9_nextToken_180 : decode cX9_nextToken 180 = .ok (.goto 4, 3) := by decide +kernel
theorem dX9_nextToken_183 : decode cX9_nextToken 183 = .ok (.iconst 0, 1) := by decide +kernel
theorem dX9_nextToken_184 : decode cX9_nextToken 184 = .ok (.putfield 104, 3) := by decide +kernel
theorem dX9_nextToken_187 : decode cX9_nextToken 187 = .ok (.aload_n 0, 1) := by decide +kernel
theorem dX9_nextToken_188 : decode cX9_nextToken 188 = .ok (.aload_n 0, 1) := by decide +kernel
theorem dX9_nextToken_189 : decode cX9_nextToken 189 = .ok (.getfield 25, 3) := by decide +kernel
theorem dX9_nextToken_192 : decode cX9_nextToken 192 = .ok (.aload_n 0, 1) := by decide +kernel
theorem dX9_nextToken_193 : decode cX9_nextToken 193 = .ok (.getfield 98, 3) := by decide +kernel
theorem dX9_nextToken_196 : decode cX9_nextToken 196 = .ok (.iaload, 1) := by decide +kernel
theorem dX9_nextToken_197 : decode cX9_nextToken 197 = .ok (.putfield 107, 3) := by decide +kernel
theorem dX9_nextToken_200 : decode cX9_nextToken 200 = .ok (.aload_n 0, 1) := by decide +kernel
theorem dX9_nextToken_201 : decode cX9_nextToken 201 = .ok (.dup, 1) := by decide +kernel
theorem dX9_nextToken_202 : decode cX9_nextToken 202 = .ok (.getfield 98, 3) := by decide +kernel
theorem dX9_nextToken_205 : decode cX9_nextToken 205 = .ok (.iconst 1, 1) := by decide +kernel
theorem dX9_nextToken_206 : decode cX9_nextToken 206 = .ok (.iadd, 1) := by decide +kernel
theorem dX9_nextToken_207 : decode cX9_nextToken 207 = .ok (.putfield 98, 3) := by decide +kernel
theorem dX9_nextToken_210 : decode cX9_nextToken 210 = .ok (.return_, 1) := by decide +kernel
theorem dX9_faults_0 : decode cX9_faults 0 = .ok (.aload_n 0, 1) := by decide +kernel
theorem dX9_faults_1 : decode cX9_faults 1 = .ok (.iload_n 1, 1) := by decide +kernel
theorem dX9_faults_2 : decode cX9_faults 2 = .ok (.putfield 117, 3) := by decide +kernel
theorem dX9_faults_5 : decode cX9_faults 5 = .ok (.iconst 0, 1) := by decide +kernel
theorem dX9_faults_6 : decode cX9_faults 6 = .ok (.ireturn, 1) := by decide +kernel
theorem dX9_takes_0 : decode cX9_takes 0 = .ok (.aload_n 0, 1) := by decide +kernel
theorem dX9_takes_1 : decode cX9_takes 1 = .ok (.getfield 104, 3) := by decide +kernel
theorem dX9_takes_4 : decode cX9_takes 4 = .ok (.iconst 1, 1) := by decide +kernel
theorem dX9_takes_5 : decode cX9_takes 5 = .ok (.if_icmp .ne 11, 3) := by decide +kernel
theorem dX9_takes_8 : decode cX9_takes 8 = .ok (.aload_n 0, 1) := by decide +kernel
theorem dX9_takes_9 : decode cX9_takes 9 = .ok (.getfield 107, 3) := by decide +kernel
theorem dX9_takes_12 : decode cX9_takes 12 = .ok (.iload_n 1, 1) := by decide +kernel
theorem dX9_takes_13 : decode cX9_takes 13 = .ok (.if_icmp .eq 9, 3) := by decide +kernel
theorem dX9_takes_16 : decode cX9_takes 16 = .ok (.aload_n 0, 1) := by decide +kernel
theorem dX9_takes_17 : decode cX9_takes 17 = .ok (.iconst 1, 1) := by decide +kernel
theorem dX9_takes_18 : decode cX9_takes 18 = .ok (.invokevirtual 120, 3) := by decide +kernel
theorem dX9_takes_21 : decode cX9_takes 21 = .ok (.ireturn, 1) := by decide +kernel
theorem dX9_takes_22 : decode cX9_takes 22 = .ok (.aload_n 0, 1) := by decide +kernel
theorem dX9_takes_23 : decode cX9_takes 23 = .ok (.invokevirtual 123, 3) := by decide +kernel
theorem dX9_takes_26 : decode cX9_takes 26 = .ok (.iconst 1, 1) := by decide +kernel
theorem dX9_takes_27 : decode cX9_takes 27 = .ok (.ireturn, 1) := by decide +kernel
theorem dX9_isNumber_0 : decode cX9_isNumber 0 = .ok (.aload_n 0, 1) := by decide +kernel
theorem dX9_isNumber_1 : decode cX9_isNumber 1 = .ok (.getfield 104, 3) := by decide +kernel
theorem dX9_isNumber_4 : decode cX9_isNumber 4 = .ok (.iconst 2, 1) := by decide +kernel
theorem dX9_isNumber_5 : decode cX9_isNumber 5 = .ok (.if_icmp .ne 34, 3) := by decide +kernel
theorem dX9_isNumber_8 : decode cX9_isNumber 8 = .ok (.aload_n 0, 1) := by decide +kernel
theorem dX9_isNumber_9 : decode cX9_isNumber 9 = .ok (.getfield 107, 3) := by decide +kernel
theorem dX9_isNumber_12 : decode cX9_isNumber 12 = .ok (.i2l, 1) := by decide +kernel
theorem dX9_isNumber_13 : decode cX9_isNumber 13 = .ok (.iload_n 1, 1) := by decide +kernel
theorem dX9_isNumber_14 : decode cX9_isNumber 14 = .ok (.i2l, 1) := by decide +kernel
theorem dX9_isNumber_15 : decode cX9_isNumber 15 = .ok (.iload_n 2, 1) := by decide +kernel
theorem dX9_isNumber_16 : decode cX9_isNumber 16 = .ok (.i2l, 1) := by decide +kernel
theorem dX9_isNumber_17 : decode cX9_isNumber 17 = .ok (.invokestatic 66, 3) := by decide +kernel
theorem dX9_isNumber_20 : decode cX9_isNumber 20 = .ok (.ifCond .ne 11, 3) := by decide +kernel
theorem dX9_isNumber_23 : decode cX9_isNumber 23 = .ok (.aload_n 0, 1) := by decide +kernel
theorem dX9_isNumber_24 : decode cX9_isNumber 24 = .ok (.iconst 2, 1) := by decide +kernel
theorem dX9_isNumber_25 : decode cX9_isNumber 25 = .ok (.invokevirtual 120, 3) := by decide +kernel
theorem dX9_isNumber_28 : decode cX9_isNumber 28 = .ok (.ifCond .eq 7, 3) := by decide +kernel
theorem dX9_isNumber_31 : decode cX9_isNumber 31 = .ok (.iconst 1, 1) := by decide +kernel
theorem dX9_isNumber_32 : decode cX9_isNumber 32 = .ok (.goto 12, 3) := by decide +kernel
theorem dX9_isNumber_35 : decode cX9_isNumber 35 = .ok (.iconst 0, 1) := by decide +kernel
theorem dX9_isNumber_36 : decode cX9_isNumber 36 = .ok (.goto 8, 3) := by decide +kernel
theorem dX9_isNumber_39 : decode cX9_isNumber 39 = .ok (.aload_n 0, 1) := by decide +kernel
theorem dX9_isNumber_40 : decode cX9_isNumber 40 = .ok (.iconst 1, 1) := by decide +kernel
theorem dX9_isNumber_41 : decode cX9_isNumber 41 = .ok (.invokevirtual 120, 3) := by decide +kernel
theorem dX9_isNumber_44 : decode cX9_isNumber 44 = .ok (.ireturn, 1) := by decide +kernel
theorem dX9_taken_0 : decode cX9_taken 0 = .ok (.aload_n 0, 1) := by decide +kernel
theorem dX9_taken_1 : decode cX9_taken 1 = .ok (.getfield 107, 3) := by decide +kernel
theorem dX9_taken_4 : decode cX9_taken 4 = .ok (.istore_n 1, 1) := by decide +kernel
theorem dX9_taken_5 : decode cX9_taken 5 = .ok (.aload_n 0, 1) := by decide +kernel
theorem dX9_taken_6 : decode cX9_taken 6 = .ok (.invokevirtual 123, 3) := by decide +kernel
theorem dX9_taken_9 : decode cX9_taken 9 = .ok (.iload_n 1, 1) := by decide +kernel
theorem dX9_taken_10 : decode cX9_taken 10 = .ok (.ireturn, 1) := by decide +kernel
theorem dX9_readLegs_0 : decode cX9_readLegs 0 = .ok (.aload_n 0, 1) := by decide +kernel
theorem dX9_readLegs_1 : decode cX9_readLegs 1 = .ok (.bipush 119, 2) := by decide +kernel
theorem dX9_readLegs_3 : decode cX9_readLegs 3 = .ok (.invokevirtual 126, 3) := by decide +kernel
theorem dX9_readLegs_6 : decode cX9_readLegs 6 = .ok (.ifCond .ne 5, 3) := by decide +kernel
theorem dX9_readLegs_9 : decode cX9_readLegs 9 = .ok (.iconst 0, 1) := by decide +kernel
theorem dX9_readLegs_10 : decode cX9_readLegs 10 = .ok (.ireturn, 1) := by decide +kernel
theorem dX9_readLegs_11 : decode cX9_readLegs 11 = .ok (.iconst 1, 1) := by decide +kernel
theorem dX9_readLegs_12 : decode cX9_readLegs 12 = .ok (.istore_n 1, 1) := by decide +kernel
theorem dX9_readLegs_13 : decode cX9_readLegs 13 = .ok (.iload_n 1, 1) := by decide +kernel
theorem dX9_readLegs_14 : decode cX9_readLegs 14 = .ok (.ifCond .eq 97, 3) := by decide +kernel
theorem dX9_readLegs_17 : decode cX9_readLegs 17 = .ok (.aload_n 0, 1) := by decide +kernel
theorem dX9_readLegs_18 : decode cX9_readLegs 18 = .ok (.iconst 1, 1) := by decide +kernel
theorem dX9_readLegs_19 : decode cX9_readLegs 19 = .ok (.bipush 9, 2) := by decide +kernel
theorem dX9_readLegs_21 : decode cX9_readLegs 21 = .ok (.invokevirtual 129, 3) := by decide +kernel
theorem dX9_readLegs_24 : decode cX9_readLegs 24 = .ok (.ifCond .eq 23, 3) := by decide +kernel
theorem dX9_readLegs_27 : decode cX9_readLegs 27 = .ok (.aload_n 0, 1) := by decide +kernel
theorem dX9_readLegs_28 : decode cX9_readLegs 28 = .ok (.getfield 28, 3) := by decide +kernel
theorem dX9_readLegs_31 : decode cX9_readLegs 31 = .ok (.bipush 8, 2) := by decide +kernel
theorem dX9_readLegs_33 : decode cX9_readLegs 33 = .ok (.iaload, 1) := by decide +kernel
theorem dX9_readLegs_34 : decode cX9_readLegs 34 = .ok (.bipush 8, 2) := by decide +kernel
theorem dX9_readLegs_36 : decode cX9_readLegs 36 = .ok (.if_icmp .ne 13, 3) := by decide +kernel
theorem dX9_readLegs_39 : decode cX9_readLegs 39 = .ok (.aload_n 0, 1) := by decide +kernel
theorem dX9_readLegs_40 : decode cX9_readLegs 40 = .ok (.iconst 3, 1) := by decide +kernel
theorem dX9_readLegs_41 : decode cX9_readLegs 41 = .ok (.invokevirtual 120, 3) := by decide +kernel
theorem dX9_readLegs_44 : decode cX9_readLegs 44 = .ok (.ifCond .ne 5, 3) := by decide +kernel
theorem dX9_readLegs_47 : decode cX9_readLegs 47 = .ok (.iconst 0, 1) := by decide +kernel
theorem dX9_readLegs_48 : decode cX9_readLegs 48 = .ok (.ireturn, 1) := by decide +kernel
theorem dX9_readLegs_49 : decode cX9_readLegs 49 = .ok (.aload_n 0, 1) := by decide +kernel
theorem dX9_readLegs_50 : decode cX9_readLegs 50 = .ok (.getfield 28, 3) := by decide +kernel
theorem dX9_readLegs_53 : decode cX9_readLegs 53 = .ok (.aload_n 0, 1) := by decide +kernel
theorem dX9_readLegs_54 : decode cX9_readLegs 54 = .ok (.getfield 28, 3) := by decide +kernel
theorem dX9_readLegs_57 : decode cX9_readLegs 57 = .ok (.bipush 8, 2) := by decide +kernel
theorem dX9_readLegs_59 : decode cX9_readLegs 59 = .ok (.iaload, 1) := by decide +kernel
theorem dX9_readLegs_60 : decode cX9_readLegs 60 = .ok (.aload_n 0, 1) := by decide +kernel
theorem dX9_readLegs_61 : decode cX9_readLegs 61 = .ok (.invokevirtual 133, 3) := by decide +kernel
theorem dX9_readLegs_64 : decode cX9_readLegs 64 = .ok (.iastore, 1) := by decide +kernel
theorem dX9_readLegs_65 : decode cX9_readLegs 65 = .ok (.aload_n 0, 1) := by decide +kernel
theorem dX9_readLegs_66 : decode cX9_readLegs 66 = .ok (.getfield 28, 3) := by decide +kernel
theorem dX9_readLegs_69 : decode cX9_readLegs 69 = .ok (.bipush 8, 2) := by decide +kernel
theorem dX9_readLegs_71 : decode cX9_readLegs 71 = .ok (.dup2, 1) := by decide +kernel
theorem dX9_readLegs_72 : decode cX9_readLegs 72 = .ok (.iaload, 1) := by decide +kernel
theorem dX9_readLegs_73 : decode cX9_readLegs 73 = .ok (.iconst 1, 1) := by decide +kernel
theorem dX9_readLegs_74 : decode cX9_readLegs 74 = .ok (.iadd, 1) := by decide +kernel
theorem dX9_readLegs_75 : decode cX9_readLegs 75 = .ok (.iastore, 1) := by decide +kernel
theorem dX9_readLegs_76 : decode cX9_readLegs 76 = .ok (.aload_n 0, 1) := by decide +kernel
theorem dX9_readLegs_77 : decode cX9_readLegs 77 = .ok (.getfield 104, 3) := by decide +kernel
theorem dX9_readLegs_80 : decode cX9_readLegs 80 = .ok (.iconst 1, 1) := by decide +kernel
theorem dX9_readLegs_81 : decode cX9_readLegs 81 = .ok (.if_icmp .ne 25, 3) := by decide +kernel
theorem dX9_readLegs_84 : decode cX9_readLegs 84 = .ok (.aload_n 0, 1) := by decide +kernel
theorem dX9_readLegs_85 : decode cX9_readLegs 85 = .ok (.getfield 107, 3) := by decide +kernel
theorem dX9_readLegs_88 : decode cX9_readLegs 88 = .ok (.bipush 44, 2) := by decide +kernel
theorem dX9_readLegs_90 : decode cX9_readLegs 90 = .ok (.if_icmp .ne 16, 3) := by decide +kernel
theorem dX9_readLegs_93 : decode cX9_readLegs 93 = .ok (.aload_n 0, 1) := by decide +kernel
theorem dX9_readLegs_94 : decode cX9_readLegs 94 = .ok (.bipush 44, 2) := by decide +kernel
theorem dX9_readLegs_96 : decode cX9_readLegs 96 = .ok (.invokevirtual 126, 3) := by decide +kernel
theorem dX9_readLegs_99 : decode cX9_readLegs 99 = .ok (.ifCond .eq 7, 3) := by decide +kernel
theorem dX9_readLegs_102 : decode cX9_readLegs 102 = .ok (.iconst 1, 1) := by decide +kernel
theorem dX9_readLegs_103 : decode cX9_readLegs 103 = .ok (.goto 4, 3) := by decide +kernel
theorem dX9_readLegs_106 : decode cX9_readLegs 106 = .ok (.iconst 0, 1) := by decide +kernel
theorem dX9_readLegs_107 : decode cX9_readLegs 107 = .ok (.istore_n 1, 1) := by decide +kernel
theorem dX9_readLegs_108 : decode cX9_readLegs 108 = .ok (.goto (-95), 3) := by decide +kernel
theorem dX9_readLegs_111 : decode cX9_readLegs 111 = .ok (.aload_n 0, 1) := by decide +kernel
theorem dX9_readLegs_112 : decode cX9_readLegs 112 = .ok (.bipush 59, 2) := by decide +kernel
theorem dX9_readLegs_114 : decode cX9_readLegs 114 = .ok (.invokevirtual 126, 3) := by decide +kernel
theorem dX9_readLegs_117 : decode cX9_readLegs 117 = .ok (.ireturn, 1) := by decide +kernel
theorem dX9_readRule_0 : decode cX9_readRule 0 = .ok (.aload_n 0, 1) := by decide +kernel
theorem dX9_readRule_1 : decode cX9_readRule 1 = .ok (.bipush 114, 2) := by decide +kernel
theorem dX9_readRule_3 : decode cX9_readRule 3 = .ok (.invokevirtual 126, 3) := by decide +kernel
theorem dX9_readRule_6 : decode cX9_readRule 6 = .ok (.ifCond .eq 12, 3) := by decide +kernel
theorem dX9_readRule_9 : decode cX9_readRule 9 = .ok (.aload_n 0, 1) := by decide +kernel
theorem dX9_readRule_10 : decode cX9_readRule 10 = .ok (.iconst 0, 1) := by decide +kernel
theorem dX9_readRule_11 : decode cX9_readRule 11 = .ok (.iconst 3, 1) := by decide +kernel
theorem dX9_readRule_12 : decode cX9_readRule 12 = .ok (.invokevirtual 129, 3) := by decide +kernel
theorem dX9_readRule_15 : decode cX9_readRule 15 = .ok (.ifCond .ne 5, 3) := by decide +kernel
theorem dX9_readRule_18 : decode cX9_readRule 18 = .ok (.iconst 0, 1) := by decide +kernel
theorem dX9_readRule_19 : decode cX9_readRule 19 = .ok (.ireturn, 1) := by decide +kernel
theorem dX9_readRule_20 : decode cX9_readRule 20 = .ok (.aload_n 0, 1) := by decide +kernel
theorem dX9_readRule_21 : decode cX9_readRule 21 = .ok (.getfield 28, 3) := by decide +kernel
theorem dX9_readRule_24 : decode cX9_readRule 24 = .ok (.bipush 10, 2) := by decide +kernel
theorem dX9_readRule_26 : decode cX9_readRule 26 = .ok (.aload_n 0, 1) := by decide +kernel
theorem dX9_readRule_27 : decode cX9_readRule 27 = .ok (.invokevirtual 133, 3) := by decide +kernel
theorem dX9_readRule_30 : decode cX9_readRule 30 = .ok (.iastore, 1) := by decide +kernel
theorem dX9_readRule_31 : decode cX9_readRule 31 = .ok (.aload_n 0, 1) := by decide +kernel
theorem dX9_readRule_32 : decode cX9_readRule 32 = .ok (.bipush 44, 2) := by decide +kernel
theorem dX9_readRule_34 : decode cX9_readRule 34 = .ok (.invokevirtual 126, 3) := by decide +kernel
theorem dX9_readRule_37 : decode cX9_readRule 37 = .ok (.ifCond .eq 13, 3) := by decide +kernel
theorem dX9_readRule_40 : decode cX9_readRule 40 = .ok (.aload_n 0, 1) := by decide +kernel
theorem dX9_readRule_41 : decode cX9_readRule 41 = .ok (.iconst 0, 1) := by decide +kernel
theorem dX9_readRule_42 : decode cX9_readRule 42 = .ok (.bipush 30, 2) := by decide +kernel
theorem dX9_readRule_44 : decode cX9_readRule 44 = .ok (.invokevirtual 129, 3) := by decide +kernel
theorem dX9_readRule_47 : decode cX9_readRule 47 = .ok (.ifCond .ne 5, 3) := by decide +kernel
theorem dX9_readRule_50 : decode cX9_readRule 50 = .ok (.iconst 0, 1) := by decide +kernel
theorem dX9_readRule_51 : decode cX9_readRule 51 = .ok (.ireturn, 1) := by decide +kernel
theorem dX9_readRule_52 : decode cX9_readRule 52 = .ok (.aload_n 0, 1) := by decide +kernel
theorem dX9_readRule_53 : decode cX9_readRule 53 = .ok (.getfield 28, 3) := by decide +kernel
theorem dX9_readRule_56 : decode cX9_readRule 56 = .ok (.bipush 11, 2) := by decide +kernel
theorem dX9_readRule_58 : decode cX9_readRule 58 = .ok (.aload_n 0, 1) := by decide +kernel
theorem dX9_readRule_59 : decode cX9_readRule 59 = .ok (.invokevirtual 133, 3) := by decide +kernel
theorem dX9_readRule_62 : decode cX9_readRule 62 = .ok (.iastore, 1) := by decide +kernel
theorem dX9_readRule_63 : decode cX9_readRule 63 = .ok (.aload_n 0, 1) := by decide +kernel
theorem dX9_readRule_64 : decode cX9_readRule 64 = .ok (.bipush 44, 2) := by decide +kernel
theorem dX9_readRule_66 : decode cX9_readRule 66 = .ok (.invokevirtual 126, 3) := by decide +kernel
theorem dX9_readRule_69 : decode cX9_readRule 69 = .ok (.ifCond .eq 14, 3) := by decide +kernel
theorem dX9_readRule_72 : decode cX9_readRule 72 = .ok (.aload_n 0, 1) := by decide +kernel
theorem dX9_readRule_73 : decode cX9_readRule 73 = .ok (.iconst 1, 1) := by decide +kernel
theorem dX9_readRule_74 : decode cX9_readRule 74 = .ok (.sipush 999, 3) := by decide +kernel
theorem dX9_readRule_77 : decode cX9_readRule 77 = .ok (.invokevirtual 129, 3) := by decide +kernel
theorem dX9_readRule_80 : decode cX9_readRule 80 = .ok (.ifCond .ne 5, 3) := by decide +kernel
theorem dX9_readRule_83 : decode cX9_readRule 83 = .ok (.iconst 0, 1) := by decide +kernel
theorem dX9_readRule_84 : decode cX9_readRule 84 = .ok (.ireturn, 1) := by decide +kernel
theorem dX9_readRule_85 : decode cX9_readRule 85 = .ok (.aload_n 0, 1) := by decide +kernel
theorem dX9_readRule_86 : decode cX9_readRule 86 = .ok (.getfield 28, 3) := by decide +kernel
theorem dX9_readRule_89 : decode cX9_readRule 89 = .ok (.bipush 12, 2) := by decide +kernel
theorem dX9_readRule_91 : decode cX9_readRule 91 = .ok (.aload_n 0, 1) := by decide +kernel
theorem dX9_readRule_92 : decode cX9_readRule 92 = .ok (.invokevirtual 133, 3) := by decide +kernel
theorem dX9_readRule_95 : decode cX9_readRule 95 = .ok (.iastore, 1) := by decide +kernel
theorem dX9_readRule_96 : decode cX9_readRule 96 = .ok (.aload_n 0, 1) := by decide +kernel
theorem dX9_readRule_97 : decode cX9_readRule 97 = .ok (.bipush 59, 2) := by decide +kernel
theorem dX9_readRule_99 : decode cX9_readRule 99 = .ok (.invokevirtual 126, 3) := by decide +kernel
theorem dX9_readRule_102 : decode cX9_readRule 102 = .ok (.ireturn, 1) := by decide +kernel
theorem dX9_readWalker_0 : decode cX9_readWalker 0 = .ok (.aload_n 0, 1) := by decide +kernel
theorem dX9_readWalker_1 : decode cX9_readWalker 1 = .ok (.getfield 104, 3) := by decide +kernel
theorem dX9_readWalker_4 : decode cX9_readWalker 4 = .ok (.iconst 1, 1) := by decide +kernel
theorem dX9_readWalker_5 : decode cX9_readWalker 5 = .ok (.if_icmp .ne 10, 3) := by decide +kernel
theorem dX9_readWalker_8 : decode cX9_readWalker 8 = .ok (.aload_n 0, 1) := by decide +kernel
theorem dX9_readWalker_9 : decode cX9_readWalker 9 = .ok (.getfield 107, 3) := by decide +kernel
theorem dX9_readWalker_12 : decode cX9_readWalker 12 = .ok (.goto 4, 3) := by decide +kernel
theorem dX9_readWalker_15 : decode cX9_readWalker 15 = .ok (.iconst 0, 1) := by decide +kernel
theorem dX9_readWalker_16 : decode cX9_readWalker 16 = .ok (.istore_n 1, 1) := by decide +kernel
theorem dX9_readWalker_17 : decode cX9_readWalker 17 = .ok (.iload_n 1, 1) := by decide +kernel
theorem dX9_readWalker_18 : decode cX9_readWalker 18 = .ok (.bipush 115, 2) := by decide +kernel
theorem dX9_readWalker_20 : decode cX9_readWalker 20 = .ok (.if_icmp .ne 7, 3) := by decide +kernel
theorem dX9_readWalker_23 : decode cX9_readWalker 23 = .ok (.iconst 1, 1) := by decide +kernel
theorem dX9_readWalker_24 : decode cX9_readWalker 24 = .ok (.goto 44, 3) := by decide +kernel
theorem dX9_readWalker_27 : decode cX9_readWalker 27 = .ok (.iload_n 1, 1) := by decide +kernel
theorem dX9_readWalker_28 : decode cX9_readWalker 28 = .ok (.bipush 113, 2) := by decide +kernel
theorem dX9_readWalker_30 : decode cX9_readWalker 30 = .ok (.if_icmp .ne 7, 3) := by decide +kernel
theorem dX9_readWalker_33 : decode cX9_readWalker 33 = .ok (.iconst 2, 1) := by decide +kernel
theorem dX9_readWalker_34 : decode cX9_readWalker 34 = .ok (.goto 34, 3) := by decide +kernel
theorem dX9_readWalker_37 : decode cX9_readWalker 37 = .ok (.iload_n 1, 1) := by decide +kernel
theorem dX9_readWalker_38 : decode cX9_readWalker 38 = .ok (.bipush 112, 2) := by decide +kernel
theorem dX9_readWalker_40 : decode cX9_readWalker 40 = .ok (.if_icmp .ne 7, 3) := by decide +kernel
theorem dX9_readWalker_43 : decode cX9_readWalker 43 = .ok (.iconst 3, 1) := by decide +kernel
theorem dX9_readWalker_44 : decode cX9_readWalker 44 = .ok (.goto 24, 3) := by decide +kernel
theorem dX9_readWalker_47 : decode cX9_readWalker 47 = .ok (.iload_n 1, 1) := by decide +kernel
theorem dX9_readWalker_48 : decode cX9_readWalker 48 = .ok (.bipush 111, 2) := by decide +kernel
theorem dX9_readWalker_50 : decode cX9_readWalker 50 = .ok (.if_icmp .ne 7, 3) := by decide +kernel
theorem dX9_readWalker_53 : decode cX9_readWalker 53 = .ok (.iconst 4, 1) := by decide +kernel
theorem dX9_readWalker_54 : decode cX9_readWalker 54 = .ok (.goto 14, 3) := by decide +kernel
theorem dX9_readWalker_57 : decode cX9_readWalker 57 = .ok (.iload_n 1, 1) := by decide +kernel
theorem dX9_readWalker_58 : decode cX9_readWalker 58 = .ok (.bipush 108, 2) := by decide +kernel
theorem dX9_readWalker_60 : decode cX9_readWalker 60 = .ok (.if_icmp .ne 7, 3) := by decide +kernel
theorem dX9_readWalker_63 : decode cX9_readWalker 63 = .ok (.iconst 5, 1) := by decide +kernel
theorem dX9_readWalker_64 : decode cX9_readWalker 64 = .ok (.goto 4, 3) := by decide +kernel
theorem dX9_readWalker_67 : decode cX9_readWalker 67 = .ok (.iconst 0, 1) := by decide +kernel
theorem dX9_readWalker_68 : decode cX9_readWalker 68 = .ok (.istore_n 2, 1) := by decide +kernel
theorem dX9_readWalker_69 : decode cX9_readWalker 69 = .ok (.iload_n 2, 1) := by decide +kernel
theorem dX9_readWalker_70 : decode cX9_readWalker 70 = .ok (.ifCond .eq 15, 3) := by decide +kernel
theorem dX9_readWalker_73 : decode cX9_readWalker 73 = .ok (.aload_n 0, 1) := by decide +kernel
theorem dX9_readWalker_74 : decode cX9_readWalker 74 = .ok (.getfield 28, 3) := by decide +kernel
theorem dX9_readWalker_77 : decode cX9_readWalker 77 = .ok (.bipush 13, 2) := by decide +kernel
theorem dX9_readWalker_79 : decode cX9_readWalker 79 = .ok (.iaload, 1) := by decide +kernel
theorem dX9_readWalker_80 : decode cX9_readWalker 80 = .ok (.bipush 6, 2) := by decide +kernel
theorem dX9_readWalker_82 : decode cX9_readWalker 82 = .ok (.if_icmp .ne 17, 3) := by decide +kernel
theorem dX9_readWalker_85 : decode cX9_readWalker 85 = .ok (.aload_n 0, 1) := by decide +kernel
theorem dX9_readWalker_86 : decode cX9_readWalker 86 = .ok (.iload_n 2, 1) := by decide +kernel
theorem dX9_readWalker_87 : decode cX9_readWalker 87 = .ok (.ifCond .ne 7, 3) := by decide +kernel
theorem dX9_readWalker_90 : decode cX9_readWalker 90 = .ok (.iconst 1, 1) := by decide +kernel
theorem dX9_readWalker_91 : decode cX9_readWalker 91 = .ok (.goto 4, 3) := by decide +kernel
theorem dX9_readWalker_94 : decode cX9_readWalker 94 = .ok (.iconst 3, 1) := by decide +kernel
theorem dX9_readWalker_95 : decode cX9_readWalker 95 = .ok (.invokevirtual 120, 3) := by decide +kernel
theorem dX9_readWalker_98 : decode cX9_readWalker 98 = .ok (.ireturn, 1) := by decide +kernel
theorem dX9_readWalker_99 : decode cX9_readWalker 99 = .ok (.aload_n 0, 1) := by decide +kernel
theorem dX9_readWalker_100 : decode cX9_readWalker 100 = .ok (.getfield 28, 3) := by decide +kernel
theorem dX9_readWalker_103 : decode cX9_readWalker 103 = .ok (.bipush 13, 2) := by decide +kernel
theorem dX9_readWalker_105 : decode cX9_readWalker 105 = .ok (.iaload, 1) := by decide +kernel
theorem dX9_readWalker_106 : decode cX9_readWalker 106 = .ok (.istore_n 3, 1) := by decide +kernel
theorem dX9_readWalker_107 : decode cX9_readWalker 107 = .ok (.aload_n 0, 1) := by decide +kernel
theorem dX9_readWalker_108 : decode cX9_readWalker 108 = .ok (.invokevirtual 123, 3) := by decide +kernel
theorem dX9_readWalker_111 : decode cX9_readWalker 111 = .ok (.aload_n 0, 1) := by decide +kernel
theorem dX9_readWalker_112 : decode cX9_readWalker 112 = .ok (.iconst 1, 1) := by decide +kernel
theorem dX9_readWalker_113 : decode cX9_readWalker 113 = .ok (.bipush 20, 2) := by decide +kernel
theorem dX9_readWalker_115 : decode cX9_readWalker 115 = .ok (.invokevirtual 129, 3) := by decide +kernel
theorem dX9_readWalker_118 : decode cX9_readWalker 118 = .ok (.ifCond .ne 5, 3) := by decide +kernel
theorem dX9_readWalker_121 : decode cX9_readWalker 121 = .ok (.iconst 0, 1) := by decide +kernel
theorem dX9_readWalker_122 : decode cX9_readWalker 122 = .ok (.ireturn, 1) := by decide +kernel
theorem dX9_readWalker_123 : decode cX9_readWalker 123 = .ok (.aload_n 0, 1) := by decide +kernel
theorem dX9_readWalker_124 : decode cX9_readWalker 124 = .ok (.getfield 28, 3) := by decide +kernel
theorem dX9_readWalker_127 : decode cX9_readWalker 127 = .ok (.bipush 14, 2) := by decide +kernel
theorem dX9_readWalker_129 : decode cX9_readWalker 129 = .ok (.iload_n 3, 1) := by decide +kernel
theorem dX9_readWalker_130 : decode cX9_readWalker 130 = .ok (.iadd, 1) := by decide +kernel
theorem dX9_readWalker_131 : decode cX9_readWalker 131 = .ok (.iload_n 2, 1) := by decide +kernel
theorem dX9_readWalker_132 : decode cX9_readWalker 132 = .ok (.iastore, 1) := by decide +kernel
theorem dX9_readWalker_133 : decode cX9_readWalker 133 = .ok (.aload_n 0, 1) := by decide +kernel
theorem dX9_readWalker_134 : decode cX9_readWalker 134 = .ok (.getfield 28, 3) := by decide +kernel
theorem dX9_readWalker_137 : decode cX9_readWalker 137 = .ok (.bipush 20, 2) := by decide +kernel
theorem dX9_readWalker_139 : decode cX9_readWalker 139 = .ok (.iload_n 3, 1) := by decide +kernel
theorem dX9_readWalker_140 : decode cX9_readWalker 140 = .ok (.iadd, 1) := by decide +kernel
theorem dX9_readWalker_141 : decode cX9_readWalker 141 = .ok (.aload_n 0, 1) := by decide +kernel
theorem dX9_readWalker_142 : decode cX9_readWalker 142 = .ok (.invokevirtual 133, 3) := by decide +kernel
theorem dX9_readWalker_145 : decode cX9_readWalker 145 = .ok (.iastore, 1) := by decide +kernel
theorem dX9_readWalker_146 : decode cX9_readWalker 146 = .ok (.aload_n 0, 1) := by decide +kernel
theorem dX9_readWalker_147 : decode cX9_readWalker 147 = .ok (.bipush 44, 2) := by decide +kernel
theorem dX9_readWalker_149 : decode cX9_readWalker 149 = .ok (.invokevirtual 126, 3) := by decide +kernel
theorem dX9_readWalker_152 : decode cX9_readWalker 152 = .ok (.ifCond .eq 13, 3) := by decide +kernel
theorem dX9_readWalker_155 : decode cX9_readWalker 155 = .ok (.aload_n 0, 1) := by decide +kernel
theorem dX9_readWalker_156 : decode cX9_readWalker 156 = .ok (.iconst 0, 1) := by decide +kernel
theorem dX9_readWalker_157 : decode cX9_readWalker 157 = .ok (.bipush 9, 2) := by decide +kernel
theorem dX9_readWalker_159 : decode cX9_readWalker 159 = .ok (.invokevirtual 129, 3) := by decide +kernel
theorem dX9_readWalker_162 : decode cX9_readWalker 162 = .ok (.ifCond .ne 5, 3) := by decide +kernel
theorem dX9_readWalker_165 : decode cX9_readWalker 165 = .ok (.iconst 0, 1) := by decide +kernel
theorem dX9_readWalker_166 : decode cX9_readWalker 166 = .ok (.ireturn, 1) := by decide +kernel
theorem dX9_readWalker_167 : decode cX9_readWalker 167 = .ok (.aload_n 0, 1) := by decide +kernel
theorem dX9_readWalker_168 : decode cX9_readWalker 168 = .ok (.getfield 28, 3) := by decide +kernel
theorem dX9_readWalker_171 : decode cX9_readWalker 171 = .ok (.bipush 26, 2) := by decide +kernel
theorem dX9_readWalker_173 : decode cX9_readWalker 173 = .ok (.iload_n 3, 1) := by decide +kernel
theorem dX9_readWalker_174 : decode cX9_readWalker 174 = .ok (.iadd, 1) := by decide +kernel
theorem dX9_readWalker_175 : decode cX9_readWalker 175 = .ok (.aload_n 0, 1) := by decide +kernel
theorem dX9_readWalker_176 : decode cX9_readWalker 176 = .ok (.invokevirtual 133, 3) := by decide +kernel
theorem dX9_readWalker_179 : decode cX9_readWalker 179 = .ok (.iastore, 1) := by decide +kernel
theorem dX9_readWalker_180 : decode cX9_readWalker 180 = .ok (.aload_n 0, 1) := by decide +kernel
theorem dX9_readWalker_181 : decode cX9_readWalker 181 = .ok (.getfield 28, 3) := by decide +kernel
theorem dX9_readWalker_184 : decode cX9_readWalker 184 = .ok (.bipush 13, 2) := by decide +kernel
theorem dX9_readWalker_186 : decode cX9_readWalker 186 = .ok (.dup2, 1) := by decide +kernel
theorem dX9_readWalker_187 : decode cX9_readWalker 187 = .ok (.iaload, 1) := by decide +kernel
theorem dX9_readWalker_188 : decode cX9_readWalker 188 = .ok (.iconst 1, 1) := by decide +kernel
theorem dX9_readWalker_189 : decode cX9_readWalker 189 = .ok (.iadd, 1) := by decide +kernel
theorem dX9_readWalker_190 : decode cX9_readWalker 190 = .ok (.iastore, 1) := by decide +kernel
theorem dX9_readWalker_191 : decode cX9_readWalker 191 = .ok (.aload_n 0, 1) := by decide +kernel
theorem dX9_readWalker_192 : decode cX9_readWalker 192 = .ok (.bipush 59, 2) := by decide +kernel
theorem dX9_readWalker_194 : decode cX9_readWalker 194 = .ok (.invokevirtual 126, 3) := by decide +kernel
theorem dX9_readWalker_197 : decode cX9_readWalker 197 = .ok (.ireturn, 1) := by decide +kernel
theorem dX9_readWay_0 : decode cX9_readWay 0 = .ok (.aload_n 0, 1) := by decide +kernel
theorem dX9_readWay_1 : decode cX9_readWay 1 = .ok (.iconst 0, 1) := by decide +kernel
theorem dX9_readWay_2 : decode cX9_readWay 2 = .ok (.putfield 98, 3) := by decide +kernel
theorem dX9_readWay_5 : decode cX9_readWay 5 = .ok (.iconst 0, 1) := by decide +kernel
theorem dX9_readWay_6 : decode cX9_readWay 6 = .ok (.istore_n 1, 1) := by decide +kernel
theorem dX9_readWay_7 : decode cX9_readWay 7 = .ok (.iload_n 1, 1) := by decide +kernel
theorem dX9_readWay_8 : decode cX9_readWay 8 = .ok (.bipush 56, 2) := by decide +kernel
theorem dX9_readWay_10 : decode cX9_readWay 10 = .ok (.if_icmp .ge 16, 3) := by decide +kernel
theorem dX9_readWay_13 : decode cX9_readWay 13 = .ok (.aload_n 0, 1) := by decide +kernel
theorem dX9_readWay_14 : decode cX9_readWay 14 = .ok (.getfield 28, 3) := by decide +kernel
theorem dX9_readWay_17 : decode cX9_readWay 17 = .ok (.iload_n 1, 1) := by decide +kernel
theorem dX9_readWay_18 : decode cX9_readWay 18 = .ok (.iconst 0, 1) := by decide +kernel
theorem dX9_readWay_19 : decode cX9_readWay 19 = .ok (.iastore, 1) := by decide +kernel
theorem dX9_readWay_20 : decode cX9_readWay 20 = .ok (.iinc 1 1, 3) := by decide +kernel
theorem dX9_readWay_23 : decode cX9_readWay 23 = .ok (.goto (-16), 3) := by decide +kernel
theorem dX9_readWay_26 : decode cX9_readWay 26 = .ok (.aload_n 0, 1) := by decide +kernel
theorem dX9_readWay_27 : decode cX9_readWay 27 = .ok (.invokevirtual 123, 3) := by decide +kernel
theorem dX9_readWay_30 : decode cX9_readWay 30 = .ok (.aload_n 0, 1) := by decide +kernel
theorem dX9_readWay_31 : decode cX9_readWay 31 = .ok (.invokevirtual 137, 3) := by decide +kernel
theorem dX9_readWay_34 : decode cX9_readWay 34 = .ok (.ifCond .eq 10, 3) := by decide +kernel
theorem dX9_readWay_37 : decode cX9_readWay 37 = .ok (.aload_n 0, 1) := by decide +kernel
theorem dX9_readWay_38 : decode cX9_readWay 38 = .ok (.invokevirtual 141, 3) := by decide +kernel
theorem dX9_readWay_41 : decode cX9_readWay 41 = .ok (.ifCond .ne 5, 3) := by decide +kernel
theorem dX9_readWay_44 : decode cX9_readWay 44 = .ok (.iconst 0, 1) := by decide +kernel
theorem dX9_readWay_45 : decode cX9_readWay 45 = .ok (.ireturn, 1) := by decide +kernel
theorem dX9_readWay_46 : decode cX9_readWay 46 = .ok (.aload_n 0, 1) := by decide +kernel
theorem dX9_readWay_47 : decode cX9_readWay 47 = .ok (.getfield 104, 3) := by decide +kernel
theorem dX9_readWay_50 : decode cX9_readWay 50 = .ok (.iconst 3, 1) := by decide +kernel
theorem dX9_readWay_51 : decode cX9_readWay 51 = .ok (.if_icmp .eq 12, 3) := by decide +kernel
theorem dX9_readWay_54 : decode cX9_readWay 54 = .ok (.aload_n 0, 1) := by decide +kernel
theorem dX9_readWay_55 : decode cX9_readWay 55 = .ok (.invokevirtual 144, 3) := by decide +kernel
theorem dX9_readWay_58 : decode cX9_readWay 58 = .ok (.ifCond .ne (-12), 3) := by decide +kernel
theorem dX9_readWay_61 : decode cX9_readWay 61 = .ok (.iconst 0, 1) := by decide +kernel
theorem dX9_readWay_62 : decode cX9_readWay 62 = .ok (.ireturn, 1) := by decide +kernel
theorem dX9_readWay_63 : decode cX9_readWay 63 = .ok (.iconst 1, 1) := by decide +kernel
theorem dX9_readWay_64 : decode cX9_readWay 64 = .ok (.ireturn, 1) := by decide +kernel
theorem dX9_way_0 : decode cX9_way 0 = .ok (.aload_n 0, 1) := by decide +kernel
theorem dX9_way_1 : decode cX9_way 1 = .ok (.invokevirtual 147, 3) := by decide +kernel
theorem dX9_way_4 : decode cX9_way 4 = .ok (.istore_n 1, 1) := by decide +kernel
theorem dX9_way_5 : decode cX9_way 5 = .ok (.aload_n 0, 1) := by decide +kernel
theorem dX9_way_6 : decode cX9_way 6 = .ok (.iconst 0, 1) := by decide +kernel
theorem dX9_way_7 : decode cX9_way 7 = .ok (.putfield 90, 3) := by decide +kernel
theorem dX9_way_10 : decode cX9_way 10 = .ok (.iload_n 1, 1) := by decide +kernel
theorem dX9_way_11 : decode cX9_way 11 = .ok (.ifCond .ne 19, 3) := by decide +kernel
theorem dX9_way_14 : decode cX9_way 14 = .ok (.aload_n 0, 1) := by decide +kernel
theorem dX9_way_15 : decode cX9_way 15 = .ok (.aload_n 0, 1) := by decide +kernel
theorem dX9_way_16 : decode cX9_way 16 = .ok (.getfield 117, 3) := by decide +kernel
theorem dX9_way_19 : decode cX9_way 19 = .ok (.putfield 150, 3) := by decide +kernel
theorem dX9_way_22 : decode cX9_way 22 = .ok (.ldc 153, 2) := by decide +kernel
theorem dX9_way_24 : decode cX9_way 24 = .ok (.aload_n 0, 1) := by decide +kernel
theorem dX9_way_25 : decode cX9_way 25 = .ok (.getfield 101, 3) := by decide +kernel
theorem dX9_way_28 : decode cX9_way 28 = .ok (.isub, 1) := by decide +kernel
theorem dX9_way_29 : decode cX9_way 29 = .ok (.ireturn, 1) := by decide +kernel
theorem dX9_way_30 : decode cX9_way 30 = .ok (.iconst 0, 1) := by decide +kernel
theorem dX9_way_31 : decode cX9_way 31 = .ok (.istore_n 2, 1) := by decide +kernel
theorem dX9_way_32 : decode cX9_way 32 = .ok (.iload_n 2, 1) := by decide +kernel
theorem dX9_way_33 : decode cX9_way 33 = .ok (.bipush 56, 2) := by decide +kernel
theorem dX9_way_35 : decode cX9_way 35 = .ok (.if_icmp .ge 21, 3) := by decide +kernel
theorem dX9_way_38 : decode cX9_way 38 = .ok (.aload_n 0, 1) := by decide +kernel
theorem dX9_way_39 : decode cX9_way 39 = .ok (.getfield 19, 3) := by decide +kernel
theorem dX9_way_42 : decode cX9_way 42 = .ok (.iload_n 2, 1) := by decide +kernel
theorem dX9_way_43 : decode cX9_way 43 = .ok (.aload_n 0, 1) := by decide +kernel
theorem dX9_way_44 : decode cX9_way 44 = .ok (.getfield 28, 3) := by decide +kernel
theorem dX9_way_47 : decode cX9_way 47 = .ok (.iload_n 2, 1) := by decide +kernel
theorem dX9_way_48 : decode cX9_way 48 = .ok (.iaload, 1) := by decide +kernel
theorem dX9_way_49 : decode cX9_way 49 = .ok (.iastore, 1) := by decide +kernel
theorem dX9_way_50 : decode cX9_way 50 = .ok (.iinc 2 1, 3) := by decide +kernel
theorem dX9_way_53 : decode cX9_way 53 = .ok (.goto (-21), 3) := by decide +kernel
theorem dX9_way_56 : decode cX9_way 56 = .ok (.aload_n 0, 1) := by decide +kernel
theorem dX9_way_57 : decode cX9_way 57 = .ok (.iconst 1, 1) := by decide +kernel
theorem dX9_way_58 : decode cX9_way 58 = .ok (.putfield 154, 3) := by decide +kernel
theorem dX9_way_61 : decode cX9_way 61 = .ok (.aload_n 0, 1) := by decide +kernel
theorem dX9_way_62 : decode cX9_way 62 = .ok (.iconst 0, 1) := by decide +kernel
theorem dX9_way_63 : decode cX9_way 63 = .ok (.putfield 158, 3) := by decide +kernel
theorem dX9_way_66 : decode cX9_way 66 = .ok (.aload_n 0, 1) := by decide +kernel
theorem dX9_way_67 : decode cX9_way 67 = .ok (.getfield 19, 3) := by decide +kernel
theorem dX9_way_70 : decode cX9_way 70 = .ok (.bipush 13, 2) := by decide +kernel
theorem dX9_way_72 : decode cX9_way 72 = .ok (.iaload, 1) := by decide +kernel
theorem dX9_way_73 : decode cX9_way 73 = .ok (.ireturn, 1) := by decide +kernel
theorem dX9_fault_0 : decode cX9_fault 0 = .ok (.aload_n 0, 1) := by decide +kernel
theorem dX9_fault_1 : decode cX9_fault 1 = .ok (.getfield 150, 3) := by decide +kernel
theorem dX9_fault_4 : decode cX9_fault 4 = .ok (.ireturn, 1) := by decide +kernel
theorem dX9_takesFor_0 : decode cX9_takesFor 0 = .ok (.aload_n 0, 1) := by decide +kernel
theorem dX9_takesFor_1 : decode cX9_takesFor 1 = .ok (.getfield 19, 3) := by decide +kernel
theorem dX9_takesFor_4 : decode cX9_takesFor 4 = .ok (.bipush 14, 2) := by decide +kernel
theorem dX9_takesFor_6 : decode cX9_takesFor 6 = .ok (.iload_n 1, 1) := by decide +kernel
theorem dX9_takesFor_7 : decode cX9_takesFor 7 = .ok (.iadd, 1) := by decide +kernel
theorem dX9_takesFor_8 : decode cX9_takesFor 8 = .ok (.iaload, 1) := by decide +kernel
theorem dX9_takesFor_9 : decode cX9_takesFor 9 = .ok (.istore_n 3, 1) := by decide +kernel
theorem dX9_takesFor_10 : decode cX9_takesFor 10 = .ok (.aload_n 0, 1) := by decide +kernel
theorem dX9_takesFor_11 : decode cX9_takesFor 11 = .ok (.getfield 19, 3) := by decide +kernel
theorem dX9_takesFor_14 : decode cX9_takesFor 14 = .ok (.bipush 20, 2) := by decide +kernel
theorem dX9_takesFor_16 : decode cX9_takesFor 16 = .ok (.iload_n 1, 1) := by decide +kernel
theorem dX9_takesFor_17 : decode cX9_takesFor 17 = .ok (.iadd, 1) := by decide +kernel
theorem dX9_takesFor_18 : decode cX9_takesFor 18 = .ok (.iaload, 1) := by decide +kernel
theorem dX9_takesFor_19 : decode cX9_takesFor 19 = .ok (.aload_n 0, 1) := by decide +kernel
theorem dX9_takesFor_20 : decode cX9_takesFor 20 = .ok (.getfield 19, 3) := by decide +kernel
theorem dX9_takesFor_23 : decode cX9_takesFor 23 = .ok (.bipush 32, 2) := by decide +kernel
theorem dX9_takesFor_25 : decode cX9_takesFor 25 = .ok (.iload_n 1, 1) := by decide +kernel
theorem dX9_takesFor_26 : decode cX9_takesFor 26 = .ok (.iadd, 1) := by decide +kernel
theorem dX9_takesFor_27 : decode cX9_takesFor 27 = .ok (.iaload, 1) := by decide +kernel
theorem dX9_takesFor_28 : decode cX9_takesFor 28 = .ok (.iconst 2, 1) := by decide +kernel
theorem dX9_takesFor_29 : decode cX9_takesFor 29 = .ok (.aload_n 0, 1) := by decide +kernel
theorem dX9_takesFor_30 : decode cX9_takesFor 30 = .ok (.getfield 19, 3) := by decide +kernel
theorem dX9_takesFor_33 : decode cX9_takesFor 33 = .ok (.bipush 26, 2) := by decide +kernel
theorem dX9_takesFor_35 : decode cX9_takesFor 35 = .ok (.iload_n 1, 1) := by decide +kernel
theorem dX9_takesFor_36 : decode cX9_takesFor 36 = .ok (.iadd, 1) := by decide +kernel
theorem dX9_takesFor_37 : decode cX9_takesFor 37 = .ok (.iaload, 1) := by decide +kernel
theorem dX9_takesFor_38 : decode cX9_takesFor 38 = .ok (.imul, 1) := by decide +kernel
theorem dX9_takesFor_39 : decode cX9_takesFor 39 = .ok (.iadd, 1) := by decide +kernel
theorem dX9_takesFor_40 : decode cX9_takesFor 40 = .ok (.bipush 8, 2) := by decide +kernel
theorem dX9_takesFor_42 : decode cX9_takesFor 42 = .ok (.idiv, 1) := by decide +kernel
theorem dX9_takesFor_43 : decode cX9_takesFor 43 = .ok (.iadd, 1) := by decide +kernel
theorem dX9_takesFor_44 : decode cX9_takesFor 44 = .ok (.istore 4, 2) := by decide +kernel
theorem dX9_takesFor_46 : decode cX9_takesFor 46 = .ok (.iload_n 3, 1) := by decide +kernel
theorem dX9_takesFor_47 : decode cX9_takesFor 47 = .ok (.iconst 2, 1) := by decide +kernel
theorem dX9_takesFor_48 : decode cX9_takesFor 48 = .ok (.if_icmp .ne 20, 3) := by decide +kernel
theorem dX9_takesFor_51 : decode cX9_takesFor 51 = .ok (.iload 4, 2) := by decide +kernel
theorem dX9_takesFor_53 : decode cX9_takesFor 53 = .ok (.iconst 2, 1) := by decide +kernel
theorem dX9_takesFor_54 : decode cX9_takesFor 54 = .ok (.if_icmp .le 10, 3) := by decide +kernel
theorem dX9_takesFor_57 : decode cX9_takesFor 57 = .ok (.iload 4, 2) := by decide +kernel
theorem dX9_takesFor_59 : decode cX9_takesFor 59 = .ok (.iconst 1, 1) := by decide +kernel
theorem dX9_takesFor_60 : decode cX9_takesFor 60 = .ok (.isub, 1) := by decide +kernel
theorem dX9_takesFor_61 : decode cX9_takesFor 61 = .ok (.goto 21, 3) := by decide +kernel
theorem dX9_takesFor_64 : decode cX9_takesFor 64 = .ok (.iconst 1, 1) := by decide +kernel
theorem dX9_takesFor_65 : decode cX9_takesFor 65 = .ok (.goto 17, 3) := by decide +kernel
theorem dX9_takesFor_68 : decode cX9_takesFor 68 = .ok (.iload_n 3, 1) := by decide +kernel
theorem dX9_takesFor_69 : decode cX9_takesFor 69 = .ok (.iconst 4, 1) := by decide +kernel
theorem dX9_takesFor_70 : decode cX9_takesFor 70 = .ok (.if_icmp .lt 10, 3) := by decide +kernel
theorem dX9_takesFor_73 : decode cX9_takesFor 73 = .ok (.iload 4, 2) := by decide +kernel
theorem dX9_takesFor_75 : decode cX9_takesFor 75 = .ok (.iconst 3, 1) := by decide +kernel
theorem dX9_takesFor_76 : decode cX9_takesFor 76 = .ok (.iadd, 1) := by decide +kernel
theorem dX9_takesFor_77 : decode cX9_takesFor 77 = .ok (.goto 5, 3) := by decide +kernel
theorem dX9_takesFor_80 : decode cX9_takesFor 80 = .ok (.iload 4, 2) := by decide +kernel
theorem dX9_takesFor_82 : decode cX9_takesFor 82 = .ok (.istore 4, 2) := by decide +kernel
theorem dX9_takesFor_84 : decode cX9_takesFor 84 = .ok (.aload_n 0, 1) := by decide +kernel
theorem dX9_takesFor_85 : decode cX9_takesFor 85 = .ok (.getfield 19, 3) := by decide +kernel
theorem dX9_takesFor_88 : decode cX9_takesFor 88 = .ok (.iload_n 2, 1) := by decide +kernel
theorem dX9_takesFor_89 : decode cX9_takesFor 89 = .ok (.iaload, 1) := by decide +kernel
theorem dX9_takesFor_90 : decode cX9_takesFor 90 = .ok (.iload 4, 2) := by decide +kernel
theorem dX9_takesFor_92 : decode cX9_takesFor 92 = .ok (.imul, 1) := by decide +kernel
theorem dX9_takesFor_93 : decode cX9_takesFor 93 = .ok (.ireturn, 1) := by decide +kernel
theorem dX9_mendBy_0 : decode cX9_mendBy 0 = .ok (.iload_n 0, 1) := by decide +kernel
theorem dX9_mendBy_1 : decode cX9_mendBy 1 = .ok (.iconst 2, 1) := by decide +kernel
theorem dX9_mendBy_2 : decode cX9_mendBy 2 = .ok (.if_icmp .ge 7, 3) := by decide +kernel
theorem dX9_mendBy_5 : decode cX9_mendBy 5 = .ok (.iconst 0, 1) := by decide +kernel
theorem dX9_mendBy_6 : decode cX9_mendBy 6 = .ok (.goto 25, 3) := by decide +kernel
theorem dX9_mendBy_9 : decode cX9_mendBy 9 = .ok (.iload_n 0, 1) := by decide +kernel
theorem dX9_mendBy_10 : decode cX9_mendBy 10 = .ok (.bipush 10, 2) := by decide +kernel
theorem dX9_mendBy_12 : decode cX9_mendBy 12 = .ok (.if_icmp .ge 7, 3) := by decide +kernel
theorem dX9_mendBy_15 : decode cX9_mendBy 15 = .ok (.iconst 2, 1) := by decide +kernel
theorem dX9_mendBy_16 : decode cX9_mendBy 16 = .ok (.goto 15, 3) := by decide +kernel
theorem dX9_mendBy_19 : decode cX9_mendBy 19 = .ok (.iload_n 0, 1) := by decide +kernel
theorem dX9_mendBy_20 : decode cX9_mendBy 20 = .ok (.bipush 20, 2) := by decide +kernel
theorem dX9_mendBy_22 : decode cX9_mendBy 22 = .ok (.if_icmp .gt 8, 3) := by decide +kernel
theorem dX9_mendBy_25 : decode cX9_mendBy 25 = .ok (.bipush 6, 2) := by decide +kernel
theorem dX9_mendBy_27 : decode cX9_mendBy 27 = .ok (.goto 4, 3) := by decide +kernel
theorem dX9_mendBy_30 : decode cX9_mendBy 30 = .ok (.iconst 4, 1) := by decide +kernel
theorem dX9_mendBy_31 : decode cX9_mendBy 31 = .ok (.ireturn, 1) := by decide +kernel
theorem dX9_first_0 : decode cX9_first 0 = .ok (.iconst (-1), 1) := by decide +kernel
theorem dX9_first_1 : decode cX9_first 1 = .ok (.istore_n 1, 1) := by decide +kernel
theorem dX9_first_2 : decode cX9_first 2 = .ok (.iconst 0, 1) := by decide +kernel
theorem dX9_first_3 : decode cX9_first 3 = .ok (.istore_n 2, 1) := by decide +kernel
theorem dX9_first_4 : decode cX9_first 4 = .ok (.iload_n 2, 1) := by decide +kernel
theorem dX9_first_5 : decode cX9_first 5 = .ok (.aload_n 0, 1) := by decide +kernel
theorem dX9_first_6 : decode cX9_first 6 = .ok (.getfield 19, 3) := by decide +kernel
theorem dX9_first_9 : decode cX9_first 9 = .ok (.bipush 13, 2) := by decide +kernel
theorem dX9_first_11 : decode cX9_first 11 = .ok (.iaload, 1) := by decide +kernel
theorem dX9_first_12 : decode cX9_first 12 = .ok (.if_icmp .ge 61, 3) := by decide +kernel
theorem dX9_first_15 : decode cX9_first 15 = .ok (.aload_n 0, 1) := by decide +kernel
theorem dX9_first_16 : decode cX9_first 16 = .ok (.getfield 161, 3) := by decide +kernel
theorem dX9_first_19 : decode cX9_first 19 = .ok (.iload_n 2, 1) := by decide +kernel
theorem dX9_first_20 : decode cX9_first 20 = .ok (.invokestatic 164, 3) := by decide +kernel
theorem dX9_first_23 : decode cX9_first 23 = .ok (.ifCond .eq 32, 3) := by decide +kernel
theorem dX9_first_26 : decode cX9_first 26 = .ok (.iload_n 1, 1) := by decide +kernel
theorem dX9_first_27 : decode cX9_first 27 = .ok (.ifCond .lt 24, 3) := by decide +kernel
theorem dX9_first_30 : decode cX9_first 30 = .ok (.aload_n 0, 1) := by decide +kernel
theorem dX9_first_31 : decode cX9_first 31 = .ok (.getfield 19, 3) := by decide +kernel
theorem dX9_first_34 : decode cX9_first 34 = .ok (.bipush 38, 2) := by decide +kernel
theorem dX9_first_36 : decode cX9_first 36 = .ok (.iload_n 2, 1) := by decide +kernel
theorem dX9_first_37 : decode cX9_first 37 = .ok (.iadd, 1) := by decide +kernel
theorem dX9_first_38 : decode cX9_first 38 = .ok (.iaload, 1) := by decide +kernel
theorem dX9_first_39 : decode cX9_first 39 = .ok (.aload_n 0, 1) := by decide +kernel
theorem dX9_first_40 : decode cX9_first 40 = .ok (.getfield 19, 3) := by decide +kernel
theorem dX9_first_43 : decode cX9_first 43 = .ok (.bipush 38, 2) := by decide +kernel
theorem dX9_first_45 : decode cX9_first 45 = .ok (.iload_n 1, 1) := by decide +kernel
theorem dX9_first_46 : decode cX9_first 46 = .ok (.iadd, 1) := by decide +kernel
theorem dX9_first_47 : decode cX9_first 47 = .ok (.iaload, 1) := by decide +kernel
theorem dX9_first_48 : decode cX9_first 48 = .ok (.if_icmp .ge 7, 3) := by decide +kernel
theorem dX9_first_51 : decode cX9_first 51 = .ok (.iconst 1, 1) := by decide +kernel
theorem dX9_first_52 : decode cX9_first 52 = .ok (.goto 4, 3) := by decide +kernel
theorem dX9_first_55 : decode cX9_first 55 = .ok (.iconst 0, 1) := by decide +kernel
theorem dX9_first_56 : decode cX9_first 56 = .ok (.istore_n 3, 1) := by decide +kernel
theorem dX9_first_57 : decode cX9_first 57 = .ok (.iload_n 3, 1) := by decide +kernel
theorem dX9_first_58 : decode cX9_first 58 = .ok (.ifCond .eq 7, 3) := by decide +kernel
theorem dX9_first_61 : decode cX9_first 61 = .ok (.iload_n 2, 1) := by decide +kernel
theorem dX9_first_62 : decode cX9_first 62 = .ok (.goto 4, 3) := by decide +kernel
theorem dX9_first_65 : decode cX9_first 65 = .ok (.iload_n 1, 1) := by decide +kernel
theorem dX9_first_66 : decode cX9_first 66 = .ok (.istore_n 1, 1) := by decide +kernel
theorem dX9_first_67 : decode cX9_first 67 = .ok (.iinc 2 1, 3) := by decide +kernel
theorem dX9_first_70 : decode cX9_first 70 = .ok (.goto (-66), 3) := by decide +kernel
theorem dX9_first_73 : decode cX9_first 73 = .ok (.iload_n 1, 1) := by decide +kernel
theorem dX9_first_74 : decode cX9_first 74 = .ok (.ireturn, 1) := by decide +kernel
theorem dX9_walk_0 : decode cX9_walk 0 = .ok (.aload_n 0, 1) := by decide +kernel
theorem dX9_walk_1 : decode cX9_walk 1 = .ok (.invokevirtual 167, 3) := by decide +kernel
theorem dX9_walk_4 : decode cX9_walk 4 = .ok (.istore_n 2, 1) := by decide +kernel
theorem dX9_walk_5 : decode cX9_walk 5 = .ok (.iconst 0, 1) := by decide +kernel
theorem dX9_walk_6 : decode cX9_walk 6 = .ok (.istore_n 3, 1) := by decide +kernel
theorem dX9_walk_7 : decode cX9_walk 7 = .ok (.iload_n 3, 1) := by decide +kernel
theorem dX9_walk_8 : decode cX9_walk 8 = .ok (.aload_n 0, 1) := by decide +kernel
theorem dX9_walk_9 : decode cX9_walk 9 = .ok (.getfield 19, 3) := by decide +kernel
theorem dX9_walk_12 : decode cX9_walk 12 = .ok (.bipush 13, 2) := by decide +kernel
theorem dX9_walk_14 : decode cX9_walk 14 = .ok (.iaload, 1) := by decide +kernel
theorem dX9_walk_15 : decode cX9_walk 15 = .ok (.if_icmp .ge 128, 3) := by decide +kernel
theorem dX9_walk_18 : decode cX9_walk 18 = .ok (.aload_n 0, 1) := by decide +kernel
theorem dX9_walk_19 : decode cX9_walk 19 = .ok (.getfield 161, 3) := by decide +kernel
theorem dX9_walk_22 : decode cX9_walk 22 = .ok (.iload_n 3, 1) := by decide +kernel
theorem dX9_walk_23 : decode cX9_walk 23 = .ok (.invokestatic 164, 3) := by decide +kernel
theorem dX9_walk_26 : decode cX9_walk 26 = .ok (.ifCond .eq 111, 3) := by decide +kernel
theorem dX9_walk_29 : decode cX9_walk 29 = .ok (.aload_n 0, 1) := by decide +kernel
theorem dX9_walk_30 : decode cX9_walk 30 = .ok (.getfield 19, 3) := by decide +kernel
theorem dX9_walk_33 : decode cX9_walk 33 = .ok (.bipush 14, 2) := by decide +kernel
theorem dX9_walk_35 : decode cX9_walk 35 = .ok (.iload_n 3, 1) := by decide +kernel
theorem dX9_walk_36 : decode cX9_walk 36 = .ok (.iadd, 1) := by decide +kernel
theorem dX9_walk_37 : decode cX9_walk 37 = .ok (.iaload, 1) := by decide +kernel
theorem dX9_walk_38 : decode cX9_walk 38 = .ok (.istore 4, 2) := by decide +kernel
theorem dX9_walk_40 : decode cX9_walk 40 = .ok (.aload_n 0, 1) := by decide +kernel
theorem dX9_walk_41 : decode cX9_walk 41 = .ok (.getfield 19, 3) := by decide +kernel
theorem dX9_walk_44 : decode cX9_walk 44 = .ok (.iload_n 1, 1) := by decide +kernel
theorem dX9_walk_45 : decode cX9_walk 45 = .ok (.iaload, 1) := by decide +kernel
theorem dX9_walk_46 : decode cX9_walk 46 = .ok (.istore 5, 2) := by decide +kernel
theorem dX9_walk_48 : decode cX9_walk 48 = .ok (.iload 5, 2) := by decide +kernel
theorem dX9_walk_50 : decode cX9_walk 50 = .ok (.iconst 1, 1) := by decide +kernel
theorem dX9_walk_51 : decode cX9_walk 51 = .ok (.aload_n 0, 1) := by decide +kernel
theorem dX9_walk_52 : decode cX9_walk 52 = .ok (.getfield 19, 3) := by decide +kernel
theorem dX9_walk_55 : decode cX9_walk 55 = .ok (.bipush 26, 2) := by decide +kernel
theorem dX9_walk_57 : decode cX9_walk 57 = .ok (.iload_n 3, 1) := by decide +kernel
theorem dX9_walk_58 : decode cX9_walk 58 = .ok (.iadd, 1) := by decide +kernel
theorem dX9_walk_59 : decode cX9_walk 59 = .ok (.iaload, 1) := by decide +kernel
theorem dX9_walk_60 : decode cX9_walk 60 = .ok (.iconst 2, 1) := by decide +kernel
theorem dX9_walk_61 : decode cX9_walk 61 = .ok (.idiv, 1) := by decide +kernel
theorem dX9_walk_62 : decode cX9_walk 62 = .ok (.iadd, 1) := by decide +kernel
theorem dX9_walk_63 : decode cX9_walk 63 = .ok (.imul, 1) := by decide +kernel
theorem dX9_walk_64 : decode cX9_walk 64 = .ok (.istore 6, 2) := by decide +kernel
theorem dX9_walk_66 : decode cX9_walk 66 = .ok (.iload 4, 2) := by decide +kernel
theorem dX9_walk_68 : decode cX9_walk 68 = .ok (.iconst 5, 1) := by decide +kernel
theorem dX9_walk_69 : decode cX9_walk 69 = .ok (.if_icmp .ne 11, 3) := by decide +kernel
theorem dX9_walk_72 : decode cX9_walk 72 = .ok (.iload 6, 2) := by decide +kernel
theorem dX9_walk_74 : decode cX9_walk 74 = .ok (.iload 5, 2) := by decide +kernel
theorem dX9_walk_76 : decode cX9_walk 76 = .ok (.iadd, 1) := by decide +kernel
theorem dX9_walk_77 : decode cX9_walk 77 = .ok (.goto 26, 3) := by decide +kernel
theorem dX9_walk_80 : decode cX9_walk 80 = .ok (.iload 4, 2) := by decide +kernel
theorem dX9_walk_82 : decode cX9_walk 82 = .ok (.iconst 4, 1) := by decide +kernel
theorem dX9_walk_83 : decode cX9_walk 83 = .ok (.if_icmp .eq 14, 3) := by decide +kernel
theorem dX9_walk_86 : decode cX9_walk 86 = .ok (.iload 4, 2) := by decide +kernel
theorem dX9_walk_88 : decode cX9_walk 88 = .ok (.iconst 3, 1) := by decide +kernel
theorem dX9_walk_89 : decode cX9_walk 89 = .ok (.if_icmp .ne 12, 3) := by decide +kernel
theorem dX9_walk_92 : decode cX9_walk 92 = .ok (.iload_n 3, 1) := by decide +kernel
theorem dX9_walk_93 : decode cX9_walk 93 = .ok (.iload_n 2, 1) := by decide +kernel
theorem dX9_walk_94 : decode cX9_walk 94 = .ok (.if_icmp .ne 7, 3) := by decide +kernel
theorem dX9_walk_97 : decode cX9_walk 97 = .ok (.iconst 0, 1) := by decide +kernel
theorem dX9_walk_98 : decode cX9_walk 98 = .ok (.goto 5, 3) := by decide +kernel
theorem dX9_walk_101 : decode cX9_walk 101 = .ok (.iload 6, 2) := by decide +kernel
theorem dX9_walk_103 : decode cX9_walk 103 = .ok (.istore 6, 2) := by decide +kernel
theorem dX9_walk_105 : decode cX9_walk 105 = .ok (.aload_n 0, 1) := by decide +kernel
theorem dX9_walk_106 : decode cX9_walk 106 = .ok (.getfield 19, 3) := by decide +kernel
theorem dX9_walk_109 : decode cX9_walk 109 = .ok (.bipush 38, 2) := by decide +kernel
theorem dX9_walk_111 : decode cX9_walk 111 = .ok (.iload_n 3, 1) := by decide +kernel
theorem dX9_walk_112 : decode cX9_walk 112 = .ok (.iadd, 1) := by decide +kernel
theorem dX9_walk_113 : decode cX9_walk 113 = .ok (.dup2, 1) := by decide +kernel
theorem dX9_walk_114 : decode cX9_walk 114 = .ok (.iaload, 1) := by decide +kernel
theorem dX9_walk_115 : decode cX9_walk 115 = .ok (.aload_n 0, 1) := by decide +kernel
theorem dX9_walk_116 : decode cX9_walk 116 = .ok (.iload_n 3, 1) := by decide +kernel
theorem dX9_walk_117 : decode cX9_walk 117 = .ok (.iload_n 1, 1) := by decide +kernel
theorem dX9_walk_118 : decode cX9_walk 118 = .ok (.invokevirtual 170, 3) := by decide +kernel
theorem dX9_walk_121 : decode cX9_walk 121 = .ok (.iadd, 1) := by decide +kernel
theorem dX9_walk_122 : decode cX9_walk 122 = .ok (.iastore, 1) := by decide +kernel
theorem dX9_walk_123 : decode cX9_walk 123 = .ok (.aload_n 0, 1) := by decide +kernel
theorem dX9_walk_124 : decode cX9_walk 124 = .ok (.getfield 19, 3) := by decide +kernel
theorem dX9_walk_127 : decode cX9_walk 127 = .ok (.bipush 32, 2) := by decide +kernel
theorem dX9_walk_129 : decode cX9_walk 129 = .ok (.iload_n 3, 1) := by decide +kernel
theorem dX9_walk_130 : decode cX9_walk 130 = .ok (.iadd, 1) := by decide +kernel
theorem dX9_walk_131 : decode cX9_walk 131 = .ok (.dup2, 1) := by decide +kernel
theorem dX9_walk_132 : decode cX9_walk 132 = .ok (.iaload, 1) := by decide +kernel
theorem dX9_walk_133 : decode cX9_walk 133 = .ok (.iload 6, 2) := by decide +kernel
theorem dX9_walk_135 : decode cX9_walk 135 = .ok (.iadd, 1) := by decide +kernel
theorem dX9_walk_136 : decode cX9_walk 136 = .ok (.iastore, 1) := by decide +kernel
theorem dX9_walk_137 : decode cX9_walk 137 = .ok (.iinc 3 1, 3) := by decide +kernel
theorem dX9_walk_140 : decode cX9_walk 140 = .ok (.goto (-133), 3) := by decide +kernel
theorem dX9_walk_143 : decode cX9_walk 143 = .ok (.return_, 1) := by decide +kernel
theorem dX9_leave_0 : decode cX9_leave 0 = .ok (.iconst 0, 1) := by decide +kernel
theorem dX9_leave_1 : decode cX9_leave 1 = .ok (.istore_n 1, 1) := by decide +kernel
theorem dX9_leave_2 : decode cX9_leave 2 = .ok (.iconst 0, 1) := by decide +kernel
theorem dX9_leave_3 : decode cX9_leave 3 = .ok (.istore_n 2, 1) := by decide +kernel
theorem dX9_leave_4 : decode cX9_leave 4 = .ok (.iconst 0, 1) := by decide +kernel
theorem dX9_leave_5 : decode cX9_leave 5 = .ok (.istore_n 3, 1) := by decide +kernel
theorem dX9_leave_6 : decode cX9_leave 6 = .ok (.iconst 0, 1) := by decide +kernel
theorem dX9_leave_7 : decode cX9_leave 7 = .ok (.istore 4, 2) := by decide +kernel
theorem dX9_leave_9 : decode cX9_leave 9 = .ok (.iload 4, 2) := by decide +kernel
theorem dX9_leave_11 : decode cX9_leave 11 = .ok (.aload_n 0, 1) := by decide +kernel
theorem dX9_leave_12 : decode cX9_leave 12 = .ok (.getfield 19, 3) := by decide +kernel
theorem dX9_leave_15 : decode cX9_leave 15 = .ok (.bipush 13, 2) := by decide +kernel
theorem dX9_leave_17 : decode cX9_leave 17 = .ok (.iaload, 1) := by decide +kernel
theorem dX9_leave_18 : decode cX9_leave 18 = .ok (.if_icmp .ge 69, 3) := by decide +kernel
theorem dX9_leave_21 : decode cX9_leave 21 = .ok (.aload_n 0, 1) := by decide +kernel
theorem dX9_leave_22 : decode cX9_leave 22 = .ok (.getfield 161, 3) := by decide +kernel
theorem dX9_leave_25 : decode cX9_leave 25 = .ok (.iload 4, 2) := by decide +kernel
theorem dX9_leave_27 : decode cX9_leave 27 = .ok (.invokestatic 164, 3) := by decide +kernel
theorem dX9_leave_30 : decode cX9_leave 30 = .ok (.ifCond .eq 51, 3) := by decide +kernel
theorem dX9_leave_33 : decode cX9_leave 33 = .ok (.aload_n 0, 1) := by decide +kernel
theorem dX9_leave_34 : decode cX9_leave 34 = .ok (.getfield 19, 3) := by decide +kernel
theorem dX9_leave_37 : decode cX9_leave 37 = .ok (.bipush 38, 2) := by decide +kernel
theorem dX9_leave_39 : decode cX9_leave 39 = .ok (.iload 4, 2) := by decide +kernel
theorem dX9_leave_41 : decode cX9_leave 41 = .ok (.iadd, 1) := by decide +kernel
theorem dX9_leave_42 : decode cX9_leave 42 = .ok (.iaload, 1) := by decide +kernel
theorem dX9_leave_43 : decode cX9_leave 43 = .ok (.istore 5, 2) := by decide +kernel
theorem dX9_leave_45 : decode cX9_leave 45 = .ok (.iload_n 3, 1) := by decide +kernel
theorem dX9_leave_46 : decode cX9_leave 46 = .ok (.ifCond .eq 9, 3) := by decide +kernel
theorem dX9_leave_49 : decode cX9_leave 49 = .ok (.iload 5, 2) := by decide +kernel
theorem dX9_leave_51 : decode cX9_leave 51 = .ok (.iload_n 1, 1) := by decide +kernel
theorem dX9_leave_52 : decode cX9_leave 52 = .ok (.if_icmp .ge 8, 3) := by decide +kernel
theorem dX9_leave_55 : decode cX9_leave 55 = .ok (.iload 5, 2) := by decide +kernel
theorem dX9_leave_57 : decode cX9_leave 57 = .ok (.goto 4, 3) := by decide +kernel
theorem dX9_leave_60 : decode cX9_leave 60 = .ok (.iload_n 1, 1) := by decide +kernel
theorem dX9_leave_61 : decode cX9_leave 61 = .ok (.istore_n 1, 1) := by decide +kernel
theorem dX9_leave_62 : decode cX9_leave 62 = .ok (.iload_n 3, 1) := by decide +kernel
theorem dX9_leave_63 : decode cX9_leave 63 = .ok (.ifCond .eq 9, 3) := by decide +kernel
theorem dX9_leave_66 : decode cX9_leave 66 = .ok (.iload 5, 2) := by decide +kernel
theorem dX9_leave_68 : decode cX9_leave 68 = .ok (.iload_n 2, 1) := by decide +kernel
theorem dX9_leave_69 : decode cX9_leave 69 = .ok (.if_icmp .le 8, 3) := by decide +kernel
theorem dX9_leave_72 : decode cX9_leave 72 = .ok (.iload 5, 2) := by decide +kernel
theorem dX9_leave_74 : decode cX9_leave 74 = .ok (.goto 4, 3) := by decide +kernel
theorem dX9_leave_77 : decode cX9_leave 77 = .ok (.iload_n 2, 1) := by decide +kernel
theorem dX9_leave_78 : decode cX9_leave 78 = .ok (.istore_n 2, 1) := by decide +kernel
theorem dX9_leave_79 : decode cX9_leave 79 = .ok (.iconst 1, 1) := by decide +kernel
theorem dX9_leave_80 : decode cX9_leave 80 = .ok (.istore_n 3, 1) := by decide +kernel
theorem dX9_leave_81 : decode cX9_leave 81 = .ok (.iinc 4 1, 3) := by decide +kernel
theorem dX9_leave_84 : decode cX9_leave 84 = .ok (.goto (-75), 3) := by decide +kernel
theorem dX9_leave_87 : decode cX9_leave 87 = .ok (.iconst 0, 1) := by decide +kernel
theorem dX9_leave_88 : decode cX9_leave 88 = .ok (.istore 4, 2) := by decide +kernel
theorem dX9_leave_90 : decode cX9_leave 90 = .ok (.iload 4, 2) := by decide +kernel
theorem dX9_leave_92 : decode cX9_leave 92 = .ok (.aload_n 0, 1) := by decide +kernel
theorem dX9_leave_93 : decode cX9_leave 93 = .ok (.getfield 19, 3) := by decide +kernel
theorem dX9_leave_96 : decode cX9_leave 96 = .ok (.bipush 13, 2) := by decide +kernel
theorem dX9_leave_98 : decode cX9_leave 98 = .ok (.iaload, 1) := by decide +kernel
theorem dX9_leave_99 : decode cX9_leave 99 = .ok (.if_icmp .ge 185, 3) := by decide +kernel
theorem dX9_leave_102 : decode cX9_leave 102 = .ok (.aload_n 0, 1) := by decide +kernel
theorem dX9_leave_103 : decode cX9_leave 103 = .ok (.getfield 161, 3) := by decide +kernel
theorem dX9_leave_106 : decode cX9_leave 106 = .ok (.iload 4, 2) := by decide +kernel
theorem dX9_leave_108 : decode cX9_leave 108 = .ok (.invokestatic 164, 3) := by decide +kernel
theorem dX9_leave_111 : decode cX9_leave 111 = .ok (.ifCond .eq 167, 3) := by decide +kernel
theorem dX9_leave_114 : decode cX9_leave 114 = .ok (.aload_n 0, 1) := by decide +kernel
theorem dX9_leave_115 : decode cX9_leave 115 = .ok (.getfield 19, 3) := by decide +kernel
theorem dX9_leave_118 : decode cX9_leave 118 = .ok (.bipush 38, 2) := by decide +kernel
theorem dX9_leave_120 : decode cX9_leave 120 = .ok (.iload 4, 2) := by decide +kernel
theorem dX9_leave_122 : decode cX9_leave 122 = .ok (.iadd, 1) := by decide +kernel
theorem dX9_leave_123 : decode cX9_leave 123 = .ok (.iaload, 1) := by decide +kernel
theorem dX9_leave_124 : decode cX9_leave 124 = .ok (.istore 5, 2) := by decide +kernel
theorem dX9_leave_126 : decode cX9_leave 126 = .ok (.aload_n 0, 1) := by decide +kernel
theorem dX9_leave_127 : decode cX9_leave 127 = .ok (.getfield 19, 3) := by decide +kernel
theorem dX9_leave_130 : decode cX9_leave 130 = .ok (.bipush 10, 2) := by decide +kernel
theorem dX9_leave_132 : decode cX9_leave 132 = .ok (.iaload, 1) := by decide +kernel
theorem dX9_leave_133 : decode cX9_leave 133 = .ok (.ifCond .ne 7, 3) := by decide +kernel
theorem dX9_leave_136 : decode cX9_leave 136 = .ok (.iload_n 2, 1) := by decide +kernel
theorem dX9_leave_137 : decode cX9_leave 137 = .ok (.goto 51, 3) := by decide +kernel
theorem dX9_leave_140 : decode cX9_leave 140 = .ok (.aload_n 0, 1) := by decide +kernel
theorem dX9_leave_141 : decode cX9_leave 141 = .ok (.getfield 19, 3) := by decide +kernel
theorem dX9_leave_144 : decode cX9_leave 144 = .ok (.bipush 10, 2) := by decide +kernel
theorem dX9_leave_146 : decode cX9_leave 146 = .ok (.iaload, 1) := by decide +kernel
theorem dX9_leave_147 : decode cX9_leave 147 = .ok (.iconst 1, 1) := by decide +kernel
theorem dX9_leave_148 : decode cX9_leave 148 = .ok (.if_icmp .ne 15, 3) := by decide +kernel
theorem dX9_leave_151 : decode cX9_leave 151 = .ok (.iload_n 2, 1) := by decide +kernel
theorem dX9_leave_152 : decode cX9_leave 152 = .ok (.aload_n 0, 1) := by decide +kernel
theorem dX9_leave_153 : decode cX9_leave 153 = .ok (.getfield 19, 3) := by decide +kernel
theorem dX9_leave_156 : decode cX9_leave 156 = .ok (.bipush 11, 2) := by decide +kernel
theorem dX9_leave_158 : decode cX9_leave 158 = .ok (.iaload, 1) := by decide +kernel
theorem dX9_leave_159 : decode cX9_leave 159 = .ok (.iadd, 1) := by decide +kernel
theorem dX9_leave_160 : decode cX9_leave 160 = .ok (.goto 28, 3) := by decide +kernel
theorem dX9_leave_163 : decode cX9_leave 163 = .ok (.aload_n 0, 1) := by decide +kernel
theorem dX9_leave_164 : decode cX9_leave 164 = .ok (.getfield 19, 3) := by decide +kernel
theorem dX9_leave_167 : decode cX9_leave 167 = .ok (.bipush 10, 2) := by decide +kernel
theorem dX9_leave_169 : decode cX9_leave 169 = .ok (.iaload, 1) := by decide +kernel
theorem dX9_leave_170 : decode cX9_leave 170 = .ok (.iconst 2, 1) := by decide +kernel
theorem dX9_leave_171 : decode cX9_leave 171 = .ok (.if_icmp .ne 15, 3) := by decide +kernel
theorem dX9_leave_174 : decode cX9_leave 174 = .ok (.iload_n 1, 1) := by decide +kernel
theorem dX9_leave_175 : decode cX9_leave 175 = .ok (.aload_n 0, 1) := by decide +kernel
theorem dX9_leave_176 : decode cX9_leave 176 = .ok (.getfield 19, 3) := by decide +kernel
theorem dX9_leave_179 : decode cX9_leave 179 = .ok (.bipush 11, 2) := by decide +kernel
theorem dX9_leave_181 : decode cX9_leave 181 = .ok (.iaload, 1) := by decide +kernel
theorem dX9_leave_182 : decode cX9_leave 182 = .ok (.iadd, 1) := by decide +kernel
theorem dX9_leave_183 : decode cX9_leave 183 = .ok (.goto 5, 3) := by decide +kernel
theorem dX9_leave_186 : decode cX9_leave 186 = .ok (.iload 5, 2) := by decide +kernel
theorem dX9_leave_188 : decode cX9_leave 188 = .ok (.istore 6, 2) := by decide +kernel
theorem dX9_leave_190 : decode cX9_leave 190 = .ok (.iload 6, 2) := by decide +kernel
theorem dX9_leave_192 : decode cX9_leave 192 = .ok (.iload 5, 2) := by decide +kernel
theorem dX9_leave_194 : decode cX9_leave 194 = .ok (.if_icmp .ge 8, 3) := by decide +kernel
theorem dX9_leave_197 : decode cX9_leave 197 = .ok (.iload 5, 2) := by decide +kernel
theorem dX9_leave_199 : decode cX9_leave 199 = .ok (.goto 5, 3) := by decide +kernel
theorem dX9_leave_202 : decode cX9_leave 202 = .ok (.iload 6, 2) := by decide +kernel
theorem dX9_leave_204 : decode cX9_leave 204 = .ok (.istore 6, 2) := by decide +kernel
theorem dX9_leave_206 : decode cX9_leave 206 = .ok (.aload_n 0, 1) := by decide +kernel
theorem dX9_leave_207 : decode cX9_leave 207 = .ok (.getfield 19, 3) := by decide +kernel
theorem dX9_leave_210 : decode cX9_leave 210 = .ok (.bipush 32, 2) := by decide +kernel
theorem dX9_leave_212 : decode cX9_leave 212 = .ok (.iload 4, 2) := by decide +kernel
theorem dX9_leave_214 : decode cX9_leave 214 = .ok (.iadd, 1) := by decide +kernel
theorem dX9_leave_215 : decode cX9_leave 215 = .ok (.iaload, 1) := by decide +kernel
theorem dX9_leave_216 : decode cX9_leave 216 = .ok (.iload 6, 2) := by decide +kernel
theorem dX9_leave_218 : decode cX9_leave 218 = .ok (.iload 5, 2) := by decide +kernel
theorem dX9_leave_220 : decode cX9_leave 220 = .ok (.isub, 1) := by decide +kernel
theorem dX9_leave_221 : decode cX9_leave 221 = .ok (.invokestatic 173, 3) := by decide +kernel
theorem dX9_leave_224 : decode cX9_leave 224 = .ok (.isub, 1) := by decide +kernel
theorem dX9_leave_225 : decode cX9_leave 225 = .ok (.istore 7, 2) := by decide +kernel
theorem dX9_leave_227 : decode cX9_leave 227 = .ok (.aload_n 0, 1) := by decide +kernel
theorem dX9_leave_228 : decode cX9_leave 228 = .ok (.getfield 19, 3) := by decide +kernel
theorem dX9_leave_231 : decode cX9_leave 231 = .ok (.bipush 32, 2) := by decide +kernel
theorem dX9_leave_233 : decode cX9_leave 233 = .ok (.iload 4, 2) := by decide +kernel
theorem dX9_leave_235 : decode cX9_leave 235 = .ok (.iadd, 1) := by decide +kernel
theorem dX9_leave_236 : decode cX9_leave 236 = .ok (.iload 7, 2) := by decide +kernel
theorem dX9_leave_238 : decode cX9_leave 238 = .ok (.ifCond .ge 7, 3) := by decide +kernel
theorem dX9_leave_241 : decode cX9_leave 241 = .ok (.iconst 0, 1) := by decide +kernel
theorem dX9_leave_242 : decode cX9_leave 242 = .ok (.goto 5, 3) := by decide +kernel
theorem dX9_leave_245 : decode cX9_leave 245 = .ok (.iload 7, 2) := by decide +kernel
theorem dX9_leave_247 : decode cX9_leave 247 = .ok (.iastore, 1) := by decide +kernel
theorem dX9_leave_248 : decode cX9_leave 248 = .ok (.aload_n 0, 1) := by decide +kernel
theorem dX9_leave_249 : decode cX9_leave 249 = .ok (.getfield 19, 3) := by decide +kernel
theorem dX9_leave_252 : decode cX9_leave 252 = .ok (.bipush 44, 2) := by decide +kernel
theorem dX9_leave_254 : decode cX9_leave 254 = .ok (.iload 4, 2) := by decide +kernel
theorem dX9_leave_256 : decode cX9_leave 256 = .ok (.iadd, 1) := by decide +kernel
theorem dX9_leave_257 : decode cX9_leave 257 = .ok (.dup2, 1) := by decide +kernel
theorem dX9_leave_258 : decode cX9_leave 258 = .ok (.iaload, 1) := by decide +kernel
theorem dX9_leave_259 : decode cX9_leave 259 = .ok (.iload 6, 2) := by decide +kernel
theorem dX9_leave_261 : decode cX9_leave 261 = .ok (.iload 5, 2) := by decide +kernel
theorem dX9_leave_263 : decode cX9_leave 263 = .ok (.isub, 1) := by decide +kernel
theorem dX9_leave_264 : decode cX9_leave 264 = .ok (.iadd, 1) := by decide +kernel
theorem dX9_leave_265 : decode cX9_leave 265 = .ok (.iastore, 1) := by decide +kernel
theorem dX9_leave_266 : decode cX9_leave 266 = .ok (.aload_n 0, 1) := by decide +kernel
theorem dX9_leave_267 : decode cX9_leave 267 = .ok (.getfield 19, 3) := by decide +kernel
theorem dX9_leave_270 : decode cX9_leave 270 = .ok (.bipush 38, 2) := by decide +kernel
theorem dX9_leave_272 : decode cX9_leave 272 = .ok (.iload 4, 2) := by decide +kernel
theorem dX9_leave_274 : decode cX9_leave 274 = .ok (.iadd, 1) := by decide +kernel
theorem dX9_leave_275 : decode cX9_leave 275 = .ok (.iload 6, 2) := by decide +kernel
theorem dX9_leave_277 : decode cX9_leave 277 = .ok (.iastore, 1) := by decide +kernel
theorem dX9_leave_278 : decode cX9_leave 278 = .ok (.iinc 4 1, 3) := by decide +kernel
theorem dX9_leave_281 : decode cX9_leave 281 = .ok (.goto (-191), 3) := by decide +kernel
theorem dX9_leave_284 : decode cX9_leave 284 = .ok (.return_, 1) := by decide +kernel
theorem dX9_goOn_0 : decode cX9_goOn 0 = .ok (.aload_n 0, 1) := by decide +kernel
theorem dX9_goOn_1 : decode cX9_goOn 1 = .ok (.aload_n 0, 1) := by decide +kernel
theorem dX9_goOn_2 : decode cX9_goOn 2 = .ok (.getfield 19, 3) := by decide +kernel
theorem dX9_goOn_5 : decode cX9_goOn 5 = .ok (.bipush 9, 2) := by decide +kernel
theorem dX9_goOn_7 : decode cX9_goOn 7 = .ok (.iaload, 1) := by decide +kernel
theorem dX9_goOn_8 : decode cX9_goOn 8 = .ok (.invokevirtual 176, 3) := by decide +kernel
theorem dX9_goOn_11 : decode cX9_goOn 11 = .ok (.aload_n 0, 1) := by decide +kernel
theorem dX9_goOn_12 : decode cX9_goOn 12 = .ok (.getfield 19, 3) := by decide +kernel
theorem dX9_goOn_15 : decode cX9_goOn 15 = .ok (.bipush 9, 2) := by decide +kernel
theorem dX9_goOn_17 : decode cX9_goOn 17 = .ok (.dup2, 1) := by decide +kernel
theorem dX9_goOn_18 : decode cX9_goOn 18 = .ok (.iaload, 1) := by decide +kernel
theorem dX9_goOn_19 : decode cX9_goOn 19 = .ok (.iconst 1, 1) := by decide +kernel
theorem dX9_goOn_20 : decode cX9_goOn 20 = .ok (.iadd, 1) := by decide +kernel
theorem dX9_goOn_21 : decode cX9_goOn 21 = .ok (.iastore, 1) := by decide +kernel
theorem dX9_goOn_22 : decode cX9_goOn 22 = .ok (.aload_n 0, 1) := by decide +kernel
theorem dX9_goOn_23 : decode cX9_goOn 23 = .ok (.getfield 19, 3) := by decide +kernel
theorem dX9_goOn_26 : decode cX9_goOn 26 = .ok (.bipush 9, 2) := by decide +kernel
theorem dX9_goOn_28 : decode cX9_goOn 28 = .ok (.iaload, 1) := by decide +kernel
theorem dX9_goOn_29 : decode cX9_goOn 29 = .ok (.aload_n 0, 1) := by decide +kernel
theorem dX9_goOn_30 : decode cX9_goOn 30 = .ok (.getfield 19, 3) := by decide +kernel
theorem dX9_goOn_33 : decode cX9_goOn 33 = .ok (.bipush 8, 2) := by decide +kernel
theorem dX9_goOn_35 : decode cX9_goOn 35 = .ok (.iaload, 1) := by decide +kernel
theorem dX9_goOn_36 : decode cX9_goOn 36 = .ok (.if_icmp .ge 7, 3) := by decide +kernel
theorem dX9_goOn_39 : decode cX9_goOn 39 = .ok (.aload_n 0, 1) := by decide +kernel
theorem dX9_goOn_40 : decode cX9_goOn 40 = .ok (.invokevirtual 180, 3) := by decide +kernel
theorem dX9_goOn_43 : decode cX9_goOn 43 = .ok (.return_, 1) := by decide +kernel
theorem dX9_all_0 : decode cX9_all 0 = .ok (.iconst 1, 1) := by decide +kernel
theorem dX9_all_1 : decode cX9_all 1 = .ok (.aload_n 0, 1) := by decide +kernel
theorem dX9_all_2 : decode cX9_all 2 = .ok (.getfield 19, 3) := by decide +kernel
theorem dX9_all_5 : decode cX9_all 5 = .ok (.bipush 13, 2) := by decide +kernel
theorem dX9_all_7 : decode cX9_all 7 = .ok (.iaload, 1) := by decide +kernel
theorem dX9_all_8 : decode cX9_all 8 = .ok (.ishl, 1) := by decide +kernel
theorem dX9_all_9 : decode cX9_all 9 = .ok (.iconst 1, 1) := by decide +kernel
theorem dX9_all_10 : decode cX9_all 10 = .ok (.isub, 1) := by decide +kernel
theorem dX9_all_11 : decode cX9_all 11 = .ok (.ireturn, 1) := by decide +kernel
theorem dX9_note_0 : decode cX9_note 0 = .ok (.aload_n 0, 1) := by decide +kernel
theorem dX9_note_1 : decode cX9_note 1 = .ok (.getfield 158, 3) := by decide +kernel
theorem dX9_note_4 : decode cX9_note 4 = .ok (.bipush 24, 2) := by decide +kernel
theorem dX9_note_6 : decode cX9_note 6 = .ok (.if_icmp .ne 43, 3) := by decide +kernel
theorem dX9_note_9 : decode cX9_note 9 = .ok (.iconst 0, 1) := by decide +kernel
theorem dX9_note_10 : decode cX9_note 10 = .ok (.istore_n 1, 1) := by decide +kernel
theorem dX9_note_11 : decode cX9_note 11 = .ok (.iload_n 1, 1) := by decide +kernel
theorem dX9_note_12 : decode cX9_note 12 = .ok (.sipush 1288, 3) := by decide +kernel
theorem dX9_note_15 : decode cX9_note 15 = .ok (.if_icmp .ge 24, 3) := by decide +kernel
theorem dX9_note_18 : decode cX9_note 18 = .ok (.aload_n 0, 1) := by decide +kernel
theorem dX9_note_19 : decode cX9_note 19 = .ok (.getfield 31, 3) := by decide +kernel
theorem dX9_note_22 : decode cX9_note 22 = .ok (.iload_n 1, 1) := by decide +kernel
theorem dX9_note_23 : decode cX9_note 23 = .ok (.aload_n 0, 1) := by decide +kernel
theorem dX9_note_24 : decode cX9_note 24 = .ok (.getfield 31, 3) := by decide +kernel
theorem dX9_note_27 : decode cX9_note 27 = .ok (.iload_n 1, 1) := by decide +kernel
theorem dX9_note_28 : decode cX9_note 28 = .ok (.bipush 56, 2) := by decide +kernel
theorem dX9_note_30 : decode cX9_note 30 = .ok (.iadd, 1) := by decide +kernel
theorem dX9_note_31 : decode cX9_note 31 = .ok (.iaload, 1) := by decide +kernel
theorem dX9_note_32 : decode cX9_note 32 = .ok (.iastore, 1) := by decide +kernel
theorem dX9_note_33 : decode cX9_note 33 = .ok (.iinc 1 1, 3) := by decide +kernel
theorem dX9_note_36 : decode cX9_note 36 = .ok (.goto (-25), 3) := by decide +kernel
theorem dX9_note_39 : decode cX9_note 39 = .ok (.aload_n 0, 1) := by decide +kernel
theorem dX9_note_40 : decode cX9_note 40 = .ok (.dup, 1) := by decide +kernel
theorem dX9_note_41 : decode cX9_note 41 = .ok (.getfield 158, 3) := by decide +kernel
theorem dX9_note_44 : decode cX9_note 44 = .ok (.iconst 1, 1) := by decide +kernel
theorem dX9_note_45 : decode cX9_note 45 = .ok (.isub, 1) := by decide +kernel
theorem dX9_note_46 : decode cX9_note 46 = .ok (.putfield 158, 3) := by decide +kernel
theorem dX9_note_49 : decode cX9_note 49 = .ok (.iconst 0, 1) := by decide +kernel
theorem dX9_note_50 : decode cX9_note 50 = .ok (.istore_n 1, 1) := by decide +kernel
theorem dX9_note_51 : decode cX9_note 51 = .ok (.iload_n 1, 1) := by decide +kernel
theorem dX9_note_52 : decode cX9_note 52 = .ok (.bipush 56, 2) := by decide +kernel
theorem dX9_note_54 : decode cX9_note 54 = .ok (.if_icmp .ge 29, 3) := by decide +kernel
theorem dX9_note_57 : decode cX9_note 57 = .ok (.aload_n 0, 1) := by decide +kernel
theorem dX9_note_58 : decode cX9_note 58 = .ok (.getfield 31, 3) := by decide +kernel
theorem dX9_note_61 : decode cX9_note 61 = .ok (.bipush 56, 2) := by decide +kernel
theorem dX9_note_63 : decode cX9_note 63 = .ok (.aload_n 0, 1) := by decide +kernel
theorem dX9_note_64 : decode cX9_note 64 = .ok (.getfield 158, 3) := by decide +kernel
theorem dX9_note_67 : decode cX9_note 67 = .ok (.imul, 1) := by decide +kernel
theorem dX9_note_68 : decode cX9_note 68 = .ok (.iload_n 1, 1) := by decide +kernel
theorem dX9_note_69 : decode cX9_note 69 = .ok (.iadd, 1) := by decide +kernel
theorem dX9_note_70 : decode cX9_note 70 = .ok (.aload_n 0, 1) := by decide +kernel
theorem dX9_note_71 : decode cX9_note 71 = .ok (.getfield 19, 3) := by decide +kernel
theorem dX9_note_74 : decode cX9_note 74 = .ok (.iload_n 1, 1) := by decide +kernel
theorem dX9_note_75 : decode cX9_note 75 = .ok (.iaload, 1) := by decide +kernel
theorem dX9_note_76 : decode cX9_note 76 = .ok (.iastore, 1) := by decide +kernel
theorem dX9_note_77 : decode cX9_note 77 = .ok (.iinc 1 1, 3) := by decide +kernel
theorem dX9_note_80 : decode cX9_note 80 = .ok (.goto (-29), 3) := by decide +kernel
theorem dX9_note_83 : decode cX9_note 83 = .ok (.aload_n 0, 1) := by decide +kernel
theorem dX9_note_84 : decode cX9_note 84 = .ok (.dup, 1) := by decide +kernel
theorem dX9_note_85 : decode cX9_note 85 = .ok (.getfield 158, 3) := by decide +kernel
theorem dX9_note_88 : decode cX9_note 88 = .ok (.iconst 1, 1) := by decide +kernel
theorem dX9_note_89 : decode cX9_note 89 = .ok (.iadd, 1) := by decide +kernel
theorem dX9_note_90 : decode cX9_note 90 = .ok (.putfield 158, 3) := by decide +kernel
theorem dX9_note_93 : decode cX9_note 93 = .ok (.return_, 1) := by decide +kernel
theorem dX9_go_0 : decode cX9_go 0 = .ok (.aload_n 0, 1) := by decide +kernel
theorem dX9_go_1 : decode cX9_go 1 = .ok (.getfield 154, 3) := by decide +kernel
theorem dX9_go_4 : decode cX9_go 4 = .ok (.ifCond .eq 20, 3) := by decide +kernel
theorem dX9_go_7 : decode cX9_go 7 = .ok (.aload_n 0, 1) := by decide +kernel
theorem dX9_go_8 : decode cX9_go 8 = .ok (.getfield 19, 3) := by decide +kernel
theorem dX9_go_11 : decode cX9_go 11 = .ok (.bipush 9, 2) := by decide +kernel
theorem dX9_go_13 : decode cX9_go 13 = .ok (.iaload, 1) := by decide +kernel
theorem dX9_go_14 : decode cX9_go 14 = .ok (.aload_n 0, 1) := by decide +kernel
theorem dX9_go_15 : decode cX9_go 15 = .ok (.getfield 19, 3) := by decide +kernel
theorem dX9_go_18 : decode cX9_go 18 = .ok (.bipush 8, 2) := by decide +kernel
theorem dX9_go_20 : decode cX9_go 20 = .ok (.iaload, 1) := by decide +kernel
theorem dX9_go_21 : decode cX9_go 21 = .ok (.if_icmp .ne 6, 3) := by decide +kernel
theorem dX9_go_24 : decode cX9_go 24 = .ok (.ldc 183, 2) := by decide +kernel
theorem dX9_go_26 : decode cX9_go 26 = .ok (.ireturn, 1) := by decide +kernel
theorem dX9_go_27 : decode cX9_go 27 = .ok (.aload_n 0, 1) := by decide +kernel
theorem dX9_go_28 : decode cX9_go 28 = .ok (.invokevirtual 184, 3) := by decide +kernel
theorem dX9_go_31 : decode cX9_go 31 = .ok (.aload_n 0, 1) := by decide +kernel
theorem dX9_go_32 : decode cX9_go 32 = .ok (.aload_n 0, 1) := by decide +kernel
theorem dX9_go_33 : decode cX9_go 33 = .ok (.invokevirtual 187, 3) := by decide +kernel
theorem dX9_go_36 : decode cX9_go 36 = .ok (.putfield 161, 3) := by decide +kernel
theorem dX9_go_39 : decode cX9_go 39 = .ok (.aload_n 0, 1) := by decide +kernel
theorem dX9_go_40 : decode cX9_go 40 = .ok (.invokevirtual 190, 3) := by decide +kernel
theorem dX9_go_43 : decode cX9_go 43 = .ok (.aload_n 0, 1) := by decide +kernel
theorem dX9_go_44 : decode cX9_go 44 = .ok (.getfield 19, 3) := by decide +kernel
theorem dX9_go_47 : decode cX9_go 47 = .ok (.bipush 9, 2) := by decide +kernel
theorem dX9_go_49 : decode cX9_go 49 = .ok (.iaload, 1) := by decide +kernel
theorem dX9_go_50 : decode cX9_go 50 = .ok (.ireturn, 1) := by decide +kernel
theorem dX9_rule_0 : decode cX9_rule 0 = .ok (.aload_n 0, 1) := by decide +kernel
theorem dX9_rule_1 : decode cX9_rule 1 = .ok (.getfield 154, 3) := by decide +kernel
theorem dX9_rule_4 : decode cX9_rule 4 = .ok (.ifCond .ne 6, 3) := by decide +kernel
theorem dX9_rule_7 : decode cX9_rule 7 = .ok (.ldc 183, 2) := by decide +kernel
theorem dX9_rule_9 : decode cX9_rule 9 = .ok (.ireturn, 1) := by decide +kernel
theorem dX9_rule_10 : decode cX9_rule 10 = .ok (.iload_n 1, 1) := by decide +kernel
theorem dX9_rule_11 : decode cX9_rule 11 = .ok (.i2l, 1) := by decide +kernel
theorem dX9_rule_12 : decode cX9_rule 12 = .ok (.lconst 0, 1) := by decide +kernel
theorem dX9_rule_13 : decode cX9_rule 13 = .ok (.ldc2_w 193, 3) := by decide +kernel
theorem dX9_rule_16 : decode cX9_rule 16 = .ok (.invokestatic 66, 3) := by decide +kernel
theorem dX9_rule_19 : decode cX9_rule 19 = .ok (.ifCond .eq 15, 3) := by decide +kernel
theorem dX9_rule_22 : decode cX9_rule 22 = .ok (.iload_n 2, 1) := by decide +kernel
theorem dX9_rule_23 : decode cX9_rule 23 = .ok (.i2l, 1) := by decide +kernel
theorem dX9_rule_24 : decode cX9_rule 24 = .ok (.lconst 0, 1) := by decide +kernel
theorem dX9_rule_25 : decode cX9_rule 25 = .ok (.ldc2_w 195, 3) := by decide +kernel
theorem dX9_rule_28 : decode cX9_rule 28 = .ok (.invokestatic 66, 3) := by decide +kernel
theorem dX9_rule_31 : decode cX9_rule 31 = .ok (.ifCond .ne 6, 3) := by decide +kernel
theorem dX9_rule_34 : decode cX9_rule 34 = .ok (.ldc 76, 2) := by decide +kernel
theorem dX9_rule_36 : decode cX9_rule 36 = .ok (.ireturn, 1) := by decide +kernel
theorem dX9_rule_37 : decode cX9_rule 37 = .ok (.aload_n 0, 1) := by decide +kernel
theorem dX9_rule_38 : decode cX9_rule 38 = .ok (.invokevirtual 184, 3) := by decide +kernel
theorem dX9_rule_41 : decode cX9_rule 41 = .ok (.bipush 31, 2) := by decide +kernel
theorem dX9_rule_43 : decode cX9_rule 43 = .ok (.aload_n 0, 1) := by decide +kernel
theorem dX9_rule_44 : decode cX9_rule 44 = .ok (.getfield 19, 3) := by decide +kernel
theorem dX9_rule_47 : decode cX9_rule 47 = .ok (.bipush 10, 2) := by decide +kernel
theorem dX9_rule_49 : decode cX9_rule 49 = .ok (.iaload, 1) := by decide +kernel
theorem dX9_rule_50 : decode cX9_rule 50 = .ok (.imul, 1) := by decide +kernel
theorem dX9_rule_51 : decode cX9_rule 51 = .ok (.aload_n 0, 1) := by decide +kernel
theorem dX9_rule_52 : decode cX9_rule 52 = .ok (.getfield 19, 3) := by decide +kernel
theorem dX9_rule_55 : decode cX9_rule 55 = .ok (.bipush 11, 2) := by decide +kernel
theorem dX9_rule_57 : decode cX9_rule 57 = .ok (.iaload, 1) := by decide +kernel
theorem dX9_rule_58 : decode cX9_rule 58 = .ok (.iadd, 1) := by decide +kernel
theorem dX9_rule_59 : decode cX9_rule 59 = .ok (.istore_n 3, 1) := by decide +kernel
theorem dX9_rule_60 : decode cX9_rule 60 = .ok (.aload_n 0, 1) := by decide +kernel
theorem dX9_rule_61 : decode cX9_rule 61 = .ok (.getfield 19, 3) := by decide +kernel
theorem dX9_rule_64 : decode cX9_rule 64 = .ok (.bipush 10, 2) := by decide +kernel
theorem dX9_rule_66 : decode cX9_rule 66 = .ok (.iload_n 1, 1) := by decide +kernel
theorem dX9_rule_67 : decode cX9_rule 67 = .ok (.iastore, 1) := by decide +kernel
theorem dX9_rule_68 : decode cX9_rule 68 = .ok (.aload_n 0, 1) := by decide +kernel
theorem dX9_rule_69 : decode cX9_rule 69 = .ok (.getfield 19, 3) := by decide +kernel
theorem dX9_rule_72 : decode cX9_rule 72 = .ok (.bipush 11, 2) := by decide +kernel
theorem dX9_rule_74 : decode cX9_rule 74 = .ok (.iload_n 2, 1) := by decide +kernel
theorem dX9_rule_75 : decode cX9_rule 75 = .ok (.iastore, 1) := by decide +kernel
theorem dX9_rule_76 : decode cX9_rule 76 = .ok (.iload_n 3, 1) := by decide +kernel
theorem dX9_rule_77 : decode cX9_rule 77 = .ok (.ireturn, 1) := by decide +kernel
theorem dX9_isWalker_0 : decode cX9_isWalker 0 = .ok (.iload_n 1, 1) := by decide +kernel
theorem dX9_isWalker_1 : decode cX9_isWalker 1 = .ok (.i2l, 1) := by decide +kernel
theorem dX9_isWalker_2 : decode cX9_isWalker 2 = .ok (.lconst 0, 1) := by decide +kernel
theorem dX9_isWalker_3 : decode cX9_isWalker 3 = .ok (.aload_n 0, 1) := by decide +kernel
theorem dX9_isWalker_4 : decode cX9_isWalker 4 = .ok (.getfield 19, 3) := by decide +kernel
theorem dX9_isWalker_7 : decode cX9_isWalker 7 = .ok (.bipush 13, 2) := by decide +kernel
theorem dX9_isWalker_9 : decode cX9_isWalker 9 = .ok (.iaload, 1) := by decide +kernel
theorem dX9_isWalker_10 : decode cX9_isWalker 10 = .ok (.iconst 1, 1) := by decide +kernel
theorem dX9_isWalker_11 : decode cX9_isWalker 11 = .ok (.isub, 1) := by decide +kernel
theorem dX9_isWalker_12 : decode cX9_isWalker 12 = .ok (.i2l, 1) := by decide +kernel
theorem dX9_isWalker_13 : decode cX9_isWalker 13 = .ok (.invokestatic 66, 3) := by decide +kernel
theorem dX9_isWalker_16 : decode cX9_isWalker 16 = .ok (.ireturn, 1) := by decide +kernel
theorem dX9_give_0 : decode cX9_give 0 = .ok (.aload_n 0, 1) := by decide +kernel
theorem dX9_give_1 : decode cX9_give 1 = .ok (.iload_n 1, 1) := by decide +kernel
theorem dX9_give_2 : decode cX9_give 2 = .ok (.invokevirtual 197, 3) := by decide +kernel
theorem dX9_give_5 : decode cX9_give 5 = .ok (.ifCond .eq 16, 3) := by decide +kernel
theorem dX9_give_8 : decode cX9_give 8 = .ok (.aload_n 0, 1) := by decide +kernel
theorem dX9_give_9 : decode cX9_give 9 = .ok (.iload_n 2, 1) := by decide +kernel
theorem dX9_give_10 : decode cX9_give 10 = .ok (.invokevirtual 197, 3) := by decide +kernel
theorem dX9_give_13 : decode cX9_give 13 = .ok (.ifCond .eq 8, 3) := by decide +kernel
theorem dX9_give_16 : decode cX9_give 16 = .ok (.iload_n 1, 1) := by decide +kernel
theorem dX9_give_17 : decode cX9_give 17 = .ok (.iload_n 2, 1) := by decide +kernel
theorem dX9_give_18 : decode cX9_give 18 = .ok (.if_icmp .ne 6, 3) := by decide +kernel
theorem dX9_give_21 : decode cX9_give 21 = .ok (.ldc 76, 2) := by decide +kernel
theorem dX9_give_23 : decode cX9_give 23 = .ok (.ireturn, 1) := by decide +kernel
theorem dX9_give_24 : decode cX9_give 24 = .ok (.aload_n 0, 1) := by decide +kernel
theorem dX9_give_25 : decode cX9_give 25 = .ok (.getfield 19, 3) := by decide +kernel
theorem dX9_give_28 : decode cX9_give 28 = .ok (.bipush 26, 2) := by decide +kernel
theorem dX9_give_30 : decode cX9_give 30 = .ok (.iload_n 1, 1) := by decide +kernel
theorem dX9_give_31 : decode cX9_give 31 = .ok (.iadd, 1) := by decide +kernel
theorem dX9_give_32 : decode cX9_give 32 = .ok (.iaload, 1) := by decide +kernel
theorem dX9_give_33 : decode cX9_give 33 = .ok (.aload_n 0, 1) := by decide +kernel
theorem dX9_give_34 : decode cX9_give 34 = .ok (.getfield 19, 3) := by decide +kernel
theorem dX9_give_37 : decode cX9_give 37 = .ok (.bipush 26, 2) := by decide +kernel
theorem dX9_give_39 : decode cX9_give 39 = .ok (.iload_n 2, 1) := by decide +kernel
theorem dX9_give_40 : decode cX9_give 40 = .ok (.iadd, 1) := by decide +kernel
theorem dX9_give_41 : decode cX9_give 41 = .ok (.iaload, 1) := by decide +kernel
theorem dX9_give_42 : decode cX9_give 42 = .ok (.iadd, 1) := by decide +kernel
theorem dX9_give_43 : decode cX9_give 43 = .ok (.istore_n 3, 1) := by decide +kernel
theorem dX9_give_44 : decode cX9_give 44 = .ok (.iload_n 3, 1) := by decide +kernel
theorem dX9_give_45 : decode cX9_give 45 = .ok (.bipush 20, 2) := by decide +kernel
theorem dX9_give_47 : decode cX9_give 47 = .ok (.if_icmp .le 6, 3) := by decide +kernel
theorem dX9_give_50 : decode cX9_give 50 = .ok (.ldc 93, 2) := by decide +kernel
theorem dX9_give_52 : decode cX9_give 52 = .ok (.ireturn, 1) := by decide +kernel
theorem dX9_give_53 : decode cX9_give 53 = .ok (.aload_n 0, 1) := by decide +kernel
theorem dX9_give_54 : decode cX9_give 54 = .ok (.invokevirtual 184, 3) := by decide +kernel
theorem dX9_give_57 : decode cX9_give 57 = .ok (.aload_n 0, 1) := by decide +kernel
theorem dX9_give_58 : decode cX9_give 58 = .ok (.getfield 19, 3) := by decide +kernel
theorem dX9_give_61 : decode cX9_give 61 = .ok (.bipush 26, 2) := by decide +kernel
theorem dX9_give_63 : decode cX9_give 63 = .ok (.iload_n 1, 1) := by decide +kernel
theorem dX9_give_64 : decode cX9_give 64 = .ok (.iadd, 1) := by decide +kernel
theorem dX9_give_65 : decode cX9_give 65 = .ok (.iconst 0, 1) := by decide +kernel
theorem dX9_give_66 : decode cX9_give 66 = .ok (.iastore, 1) := by decide +kernel
theorem dX9_give_67 : decode cX9_give 67 = .ok (.aload_n 0, 1) := by decide +kernel
theorem dX9_give_68 : decode cX9_give 68 = .ok (.getfield 19, 3) := by decide +kernel
theorem dX9_give_71 : decode cX9_give 71 = .ok (.bipush 26, 2) := by decide +kernel
theorem dX9_give_73 : decode cX9_give 73 = .ok (.iload_n 2, 1) := by decide +kernel
theorem dX9_give_74 : decode cX9_give 74 = .ok (.iadd, 1) := by decide +kernel
theorem dX9_give_75 : decode cX9_give 75 = .ok (.iload_n 3, 1) := by decide +kernel
theorem dX9_give_76 : decode cX9_give 76 = .ok (.iastore, 1) := by decide +kernel
theorem dX9_give_77 : decode cX9_give 77 = .ok (.iload_n 3, 1) := by decide +kernel
theorem dX9_give_78 : decode cX9_give 78 = .ok (.ireturn, 1) := by decide +kernel
theorem dX9_undo_0 : decode cX9_undo 0 = .ok (.aload_n 0, 1) := by decide +kernel
theorem dX9_undo_1 : decode cX9_undo 1 = .ok (.getfield 158, 3) := by decide +kernel
theorem dX9_undo_4 : decode cX9_undo 4 = .ok (.ifCond .ne 6, 3) := by decide +kernel
theorem dX9_undo_7 : decode cX9_undo 7 = .ok (.ldc 183, 2) := by decide +kernel
theorem dX9_undo_9 : decode cX9_undo 9 = .ok (.ireturn, 1) := by decide +kernel
theorem dX9_undo_10 : decode cX9_undo 10 = .ok (.aload_n 0, 1) := by decide +kernel
theorem dX9_undo_11 : decode cX9_undo 11 = .ok (.dup, 1) := by decide +kernel
end
section
theorem dX9_undo_12 : decode cX9_undo 12 = .ok (.getfield 158, 3) := by decide +kernel
theorem dX9_undo_15 : decode cX9_undo 15 = .ok (.iconst 1, 1) := by decide +kernel
theorem dX9_undo_16 : decode cX9_undo 16 = .ok (.isub, 1) := by decide +kernel
theorem dX9_undo_17 : decode cX9_undo 17 = .ok (.putfield 158, 3) := by decide +kernel
theorem dX9_undo_20 : decode cX9_undo 20 = .ok (.iconst 0, 1) := by decide +kernel
theorem dX9_undo_21 : decode cX9_undo 21 = .ok (.istore_n 1, 1) := by decide +kernel
theorem dX9_undo_22 : decode cX9_undo 22 = .ok (.iload_n 1, 1) := by decide +kernel
theorem dX9_undo_23 : decode cX9_undo 23 = .ok (.bipush 56, 2) := by decide +kernel
theorem dX9_undo_25 : decode cX9_undo 25 = .ok (.if_icmp .ge 29, 3) := by decide +kernel
theorem dX9_undo_28 : decode cX9_undo 28 = .ok (.aload_n 0, 1) := by decide +kernel
theorem dX9_undo_29 : decode cX9_undo 29 = .ok (.getfield 19, 3) := by decide +kernel
theorem dX9_undo_32 : decode cX9_undo 32 = .ok (.iload_n 1, 1) := by decide +kernel
theorem dX9_undo_33 : decode cX9_undo 33 = .ok (.aload_n 0, 1) := by decide +kernel
theorem dX9_undo_34 : decode cX9_undo 34 = .ok (.getfield 31, 3) := by decide +kernel
theorem dX9_undo_37 : decode cX9_undo 37 = .ok (.bipush 56, 2) := by decide +kernel
theorem dX9_undo_39 : decode cX9_undo 39 = .ok (.aload_n 0, 1) := by decide +kernel
theorem dX9_undo_40 : decode cX9_undo 40 = .ok (.getfield 158, 3) := by decide +kernel
theorem dX9_undo_43 : decode cX9_undo 43 = .ok (.imul, 1) := by decide +kernel
theorem dX9_undo_44 : decode cX9_undo 44 = .ok (.iload_n 1, 1) := by decide +kernel
theorem dX9_undo_45 : decode cX9_undo 45 = .ok (.iadd, 1) := by decide +kernel
theorem dX9_undo_46 : decode cX9_undo 46 = .ok (.iaload, 1) := by decide +kernel
theorem dX9_undo_47 : decode cX9_undo 47 = .ok (.iastore, 1) := by decide +kernel
theorem dX9_undo_48 : decode cX9_undo 48 = .ok (.iinc 1 1, 3) := by decide +kernel
theorem dX9_undo_51 : decode cX9_undo 51 = .ok (.goto (-29), 3) := by decide +kernel
theorem dX9_undo_54 : decode cX9_undo 54 = .ok (.aload_n 0, 1) := by decide +kernel
theorem dX9_undo_55 : decode cX9_undo 55 = .ok (.getfield 158, 3) := by decide +kernel
theorem dX9_undo_58 : decode cX9_undo 58 = .ok (.ireturn, 1) := by decide +kernel
theorem dX9_walker_0 : decode cX9_walker 0 = .ok (.aload_n 0, 1) := by decide +kernel
theorem dX9_walker_1 : decode cX9_walker 1 = .ok (.iload_n 1, 1) := by decide +kernel
theorem dX9_walker_2 : decode cX9_walker 2 = .ok (.invokevirtual 197, 3) := by decide +kernel
theorem dX9_walker_5 : decode cX9_walker 5 = .ok (.ifCond .ne 6, 3) := by decide +kernel
theorem dX9_walker_8 : decode cX9_walker 8 = .ok (.ldc 76, 2) := by decide +kernel
theorem dX9_walker_10 : decode cX9_walker 10 = .ok (.ireturn, 1) := by decide +kernel
theorem dX9_walker_11 : decode cX9_walker 11 = .ok (.iload_n 2, 1) := by decide +kernel
theorem dX9_walker_12 : decode cX9_walker 12 = .ok (.tableswitch 125 0 5 #[40, 50, 60, 70, 80, 90], 40) := by decide +kernel
theorem dX9_walker_52 : decode cX9_walker 52 = .ok (.aload_n 0, 1) := by decide +kernel
theorem dX9_walker_53 : decode cX9_walker 53 = .ok (.getfield 19, 3) := by decide +kernel
theorem dX9_walker_56 : decode cX9_walker 56 = .ok (.bipush 20, 2) := by decide +kernel
theorem dX9_walker_58 : decode cX9_walker 58 = .ok (.iload_n 1, 1) := by decide +kernel
theorem dX9_walker_59 : decode cX9_walker 59 = .ok (.iadd, 1) := by decide +kernel
theorem dX9_walker_60 : decode cX9_walker 60 = .ok (.iaload, 1) := by decide +kernel
theorem dX9_walker_61 : decode cX9_walker 61 = .ok (.ireturn, 1) := by decide +kernel
theorem dX9_walker_62 : decode cX9_walker 62 = .ok (.aload_n 0, 1) := by decide +kernel
theorem dX9_walker_63 : decode cX9_walker 63 = .ok (.getfield 19, 3) := by decide +kernel
theorem dX9_walker_66 : decode cX9_walker 66 = .ok (.bipush 26, 2) := by decide +kernel
theorem dX9_walker_68 : decode cX9_walker 68 = .ok (.iload_n 1, 1) := by decide +kernel
theorem dX9_walker_69 : decode cX9_walker 69 = .ok (.iadd, 1) := by decide +kernel
theorem dX9_walker_70 : decode cX9_walker 70 = .ok (.iaload, 1) := by decide +kernel
theorem dX9_walker_71 : decode cX9_walker 71 = .ok (.ireturn, 1) := by decide +kernel
theorem dX9_walker_72 : decode cX9_walker 72 = .ok (.aload_n 0, 1) := by decide +kernel
theorem dX9_walker_73 : decode cX9_walker 73 = .ok (.getfield 19, 3) := by decide +kernel
theorem dX9_walker_76 : decode cX9_walker 76 = .ok (.bipush 32, 2) := by decide +kernel
theorem dX9_walker_78 : decode cX9_walker 78 = .ok (.iload_n 1, 1) := by decide +kernel
theorem dX9_walker_79 : decode cX9_walker 79 = .ok (.iadd, 1) := by decide +kernel
theorem dX9_walker_80 : decode cX9_walker 80 = .ok (.iaload, 1) := by decide +kernel
theorem dX9_walker_81 : decode cX9_walker 81 = .ok (.ireturn, 1) := by decide +kernel
theorem dX9_walker_82 : decode cX9_walker 82 = .ok (.aload_n 0, 1) := by decide +kernel
theorem dX9_walker_83 : decode cX9_walker 83 = .ok (.getfield 19, 3) := by decide +kernel
theorem dX9_walker_86 : decode cX9_walker 86 = .ok (.bipush 38, 2) := by decide +kernel
theorem dX9_walker_88 : decode cX9_walker 88 = .ok (.iload_n 1, 1) := by decide +kernel
theorem dX9_walker_89 : decode cX9_walker 89 = .ok (.iadd, 1) := by decide +kernel
theorem dX9_walker_90 : decode cX9_walker 90 = .ok (.iaload, 1) := by decide +kernel
theorem dX9_walker_91 : decode cX9_walker 91 = .ok (.ireturn, 1) := by decide +kernel
theorem dX9_walker_92 : decode cX9_walker 92 = .ok (.aload_n 0, 1) := by decide +kernel
theorem dX9_walker_93 : decode cX9_walker 93 = .ok (.getfield 19, 3) := by decide +kernel
theorem dX9_walker_96 : decode cX9_walker 96 = .ok (.bipush 44, 2) := by decide +kernel
theorem dX9_walker_98 : decode cX9_walker 98 = .ok (.iload_n 1, 1) := by decide +kernel
theorem dX9_walker_99 : decode cX9_walker 99 = .ok (.iadd, 1) := by decide +kernel
theorem dX9_walker_100 : decode cX9_walker 100 = .ok (.iaload, 1) := by decide +kernel
theorem dX9_walker_101 : decode cX9_walker 101 = .ok (.ireturn, 1) := by decide +kernel
theorem dX9_walker_102 : decode cX9_walker 102 = .ok (.aload_n 0, 1) := by decide +kernel
theorem dX9_walker_103 : decode cX9_walker 103 = .ok (.getfield 19, 3) := by decide +kernel
theorem dX9_walker_106 : decode cX9_walker 106 = .ok (.bipush 9, 2) := by decide +kernel
theorem dX9_walker_108 : decode cX9_walker 108 = .ok (.iaload, 1) := by decide +kernel
theorem dX9_walker_109 : decode cX9_walker 109 = .ok (.aload_n 0, 1) := by decide +kernel
theorem dX9_walker_110 : decode cX9_walker 110 = .ok (.getfield 19, 3) := by decide +kernel
theorem dX9_walker_113 : decode cX9_walker 113 = .ok (.bipush 8, 2) := by decide +kernel
theorem dX9_walker_115 : decode cX9_walker 115 = .ok (.iaload, 1) := by decide +kernel
theorem dX9_walker_116 : decode cX9_walker 116 = .ok (.if_icmp .ge 18, 3) := by decide +kernel
theorem dX9_walker_119 : decode cX9_walker 119 = .ok (.aload_n 0, 1) := by decide +kernel
theorem dX9_walker_120 : decode cX9_walker 120 = .ok (.iload_n 1, 1) := by decide +kernel
theorem dX9_walker_121 : decode cX9_walker 121 = .ok (.aload_n 0, 1) := by decide +kernel
theorem dX9_walker_122 : decode cX9_walker 122 = .ok (.getfield 19, 3) := by decide +kernel
theorem dX9_walker_125 : decode cX9_walker 125 = .ok (.bipush 9, 2) := by decide +kernel
theorem dX9_walker_127 : decode cX9_walker 127 = .ok (.iaload, 1) := by decide +kernel
theorem dX9_walker_128 : decode cX9_walker 128 = .ok (.invokevirtual 170, 3) := by decide +kernel
theorem dX9_walker_131 : decode cX9_walker 131 = .ok (.goto 5, 3) := by decide +kernel
theorem dX9_walker_134 : decode cX9_walker 134 = .ok (.ldc 200, 2) := by decide +kernel
theorem dX9_walker_136 : decode cX9_walker 136 = .ok (.ireturn, 1) := by decide +kernel
theorem dX9_walker_137 : decode cX9_walker 137 = .ok (.ldc 76, 2) := by decide +kernel
theorem dX9_walker_139 : decode cX9_walker 139 = .ok (.ireturn, 1) := by decide +kernel
theorem dX9_leg_0 : decode cX9_leg 0 = .ok (.iload_n 1, 1) := by decide +kernel
theorem dX9_leg_1 : decode cX9_leg 1 = .ok (.i2l, 1) := by decide +kernel
theorem dX9_leg_2 : decode cX9_leg 2 = .ok (.lconst 0, 1) := by decide +kernel
theorem dX9_leg_3 : decode cX9_leg 3 = .ok (.aload_n 0, 1) := by decide +kernel
theorem dX9_leg_4 : decode cX9_leg 4 = .ok (.getfield 19, 3) := by decide +kernel
theorem dX9_leg_7 : decode cX9_leg 7 = .ok (.bipush 8, 2) := by decide +kernel
theorem dX9_leg_9 : decode cX9_leg 9 = .ok (.iaload, 1) := by decide +kernel
theorem dX9_leg_10 : decode cX9_leg 10 = .ok (.iconst 1, 1) := by decide +kernel
theorem dX9_leg_11 : decode cX9_leg 11 = .ok (.isub, 1) := by decide +kernel
theorem dX9_leg_12 : decode cX9_leg 12 = .ok (.i2l, 1) := by decide +kernel
theorem dX9_leg_13 : decode cX9_leg 13 = .ok (.invokestatic 66, 3) := by decide +kernel
theorem dX9_leg_16 : decode cX9_leg 16 = .ok (.ifCond .eq 12, 3) := by decide +kernel
theorem dX9_leg_19 : decode cX9_leg 19 = .ok (.aload_n 0, 1) := by decide +kernel
theorem dX9_leg_20 : decode cX9_leg 20 = .ok (.getfield 19, 3) := by decide +kernel
theorem dX9_leg_23 : decode cX9_leg 23 = .ok (.iload_n 1, 1) := by decide +kernel
theorem dX9_leg_24 : decode cX9_leg 24 = .ok (.iaload, 1) := by decide +kernel
theorem dX9_leg_25 : decode cX9_leg 25 = .ok (.goto 5, 3) := by decide +kernel
theorem dX9_leg_28 : decode cX9_leg 28 = .ok (.ldc 76, 2) := by decide +kernel
theorem dX9_leg_30 : decode cX9_leg 30 = .ok (.ireturn, 1) := by decide +kernel
theorem dX9_mends_0 : decode cX9_mends 0 = .ok (.iload_n 1, 1) := by decide +kernel
theorem dX9_mends_1 : decode cX9_mends 1 = .ok (.i2l, 1) := by decide +kernel
theorem dX9_mends_2 : decode cX9_mends 2 = .ok (.lconst 0, 1) := by decide +kernel
theorem dX9_mends_3 : decode cX9_mends 3 = .ok (.ldc2_w 201, 3) := by decide +kernel
theorem dX9_mends_6 : decode cX9_mends 6 = .ok (.invokestatic 66, 3) := by decide +kernel
theorem dX9_mends_9 : decode cX9_mends 9 = .ok (.ifCond .eq 10, 3) := by decide +kernel
theorem dX9_mends_12 : decode cX9_mends 12 = .ok (.iload_n 1, 1) := by decide +kernel
theorem dX9_mends_13 : decode cX9_mends 13 = .ok (.invokestatic 173, 3) := by decide +kernel
theorem dX9_mends_16 : decode cX9_mends 16 = .ok (.goto 5, 3) := by decide +kernel
theorem dX9_mends_19 : decode cX9_mends 19 = .ok (.ldc 76, 2) := by decide +kernel
theorem dX9_mends_21 : decode cX9_mends 21 = .ok (.ireturn, 1) := by decide +kernel
theorem dX9_putAside_0 : decode cX9_putAside 0 = .ok (.iconst 0, 1) := by decide +kernel
theorem dX9_putAside_1 : decode cX9_putAside 1 = .ok (.istore_n 1, 1) := by decide +kernel
theorem dX9_putAside_2 : decode cX9_putAside 2 = .ok (.iload_n 1, 1) := by decide +kernel
theorem dX9_putAside_3 : decode cX9_putAside 3 = .ok (.bipush 56, 2) := by decide +kernel
theorem dX9_putAside_5 : decode cX9_putAside 5 = .ok (.if_icmp .ge 21, 3) := by decide +kernel
theorem dX9_putAside_8 : decode cX9_putAside 8 = .ok (.aload_n 0, 1) := by decide +kernel
theorem dX9_putAside_9 : decode cX9_putAside 9 = .ok (.getfield 34, 3) := by decide +kernel
theorem dX9_putAside_12 : decode cX9_putAside 12 = .ok (.iload_n 1, 1) := by decide +kernel
theorem dX9_putAside_13 : decode cX9_putAside 13 = .ok (.aload_n 0, 1) := by decide +kernel
theorem dX9_putAside_14 : decode cX9_putAside 14 = .ok (.getfield 19, 3) := by decide +kernel
theorem dX9_putAside_17 : decode cX9_putAside 17 = .ok (.iload_n 1, 1) := by decide +kernel
theorem dX9_putAside_18 : decode cX9_putAside 18 = .ok (.iaload, 1) := by decide +kernel
theorem dX9_putAside_19 : decode cX9_putAside 19 = .ok (.iastore, 1) := by decide +kernel
theorem dX9_putAside_20 : decode cX9_putAside 20 = .ok (.iinc 1 1, 3) := by decide +kernel
theorem dX9_putAside_23 : decode cX9_putAside 23 = .ok (.goto (-21), 3) := by decide +kernel
theorem dX9_putAside_26 : decode cX9_putAside 26 = .ok (.return_, 1) := by decide +kernel
theorem dX9_takeBack_0 : decode cX9_takeBack 0 = .ok (.iconst 0, 1) := by decide +kernel
theorem dX9_takeBack_1 : decode cX9_takeBack 1 = .ok (.istore_n 1, 1) := by decide +kernel
theorem dX9_takeBack_2 : decode cX9_takeBack 2 = .ok (.iload_n 1, 1) := by decide +kernel
theorem dX9_takeBack_3 : decode cX9_takeBack 3 = .ok (.bipush 56, 2) := by decide +kernel
theorem dX9_takeBack_5 : decode cX9_takeBack 5 = .ok (.if_icmp .ge 21, 3) := by decide +kernel
theorem dX9_takeBack_8 : decode cX9_takeBack 8 = .ok (.aload_n 0, 1) := by decide +kernel
theorem dX9_takeBack_9 : decode cX9_takeBack 9 = .ok (.getfield 19, 3) := by decide +kernel
theorem dX9_takeBack_12 : decode cX9_takeBack 12 = .ok (.iload_n 1, 1) := by decide +kernel
theorem dX9_takeBack_13 : decode cX9_takeBack 13 = .ok (.aload_n 0, 1) := by decide +kernel
theorem dX9_takeBack_14 : decode cX9_takeBack 14 = .ok (.getfield 34, 3) := by decide +kernel
theorem dX9_takeBack_17 : decode cX9_takeBack 17 = .ok (.iload_n 1, 1) := by decide +kernel
theorem dX9_takeBack_18 : decode cX9_takeBack 18 = .ok (.iaload, 1) := by decide +kernel
theorem dX9_takeBack_19 : decode cX9_takeBack 19 = .ok (.iastore, 1) := by decide +kernel
theorem dX9_takeBack_20 : decode cX9_takeBack 20 = .ok (.iinc 1 1, 3) := by decide +kernel
theorem dX9_takeBack_23 : decode cX9_takeBack 23 = .ok (.goto (-21), 3) := by decide +kernel
theorem dX9_takeBack_26 : decode cX9_takeBack 26 = .ok (.return_, 1) := by decide +kernel
theorem dX9_toHut_0 : decode cX9_toHut 0 = .ok (.aload_n 0, 1) := by decide +kernel
theorem dX9_toHut_1 : decode cX9_toHut 1 = .ok (.iload_n 1, 1) := by decide +kernel
theorem dX9_toHut_2 : decode cX9_toHut 2 = .ok (.putfield 161, 3) := by decide +kernel
theorem dX9_toHut_5 : decode cX9_toHut 5 = .ok (.aload_n 0, 1) := by decide +kernel
theorem dX9_toHut_6 : decode cX9_toHut 6 = .ok (.getfield 19, 3) := by decide +kernel
theorem dX9_toHut_9 : decode cX9_toHut 9 = .ok (.bipush 9, 2) := by decide +kernel
theorem dX9_toHut_11 : decode cX9_toHut 11 = .ok (.iaload, 1) := by decide +kernel
theorem dX9_toHut_12 : decode cX9_toHut 12 = .ok (.aload_n 0, 1) := by decide +kernel
theorem dX9_toHut_13 : decode cX9_toHut 13 = .ok (.getfield 19, 3) := by decide +kernel
theorem dX9_toHut_16 : decode cX9_toHut 16 = .ok (.bipush 8, 2) := by decide +kernel
theorem dX9_toHut_18 : decode cX9_toHut 18 = .ok (.iaload, 1) := by decide +kernel
theorem dX9_toHut_19 : decode cX9_toHut 19 = .ok (.if_icmp .ge 10, 3) := by decide +kernel
theorem dX9_toHut_22 : decode cX9_toHut 22 = .ok (.aload_n 0, 1) := by decide +kernel
theorem dX9_toHut_23 : decode cX9_toHut 23 = .ok (.invokevirtual 190, 3) := by decide +kernel
theorem dX9_toHut_26 : decode cX9_toHut 26 = .ok (.goto (-21), 3) := by decide +kernel
theorem dX9_toHut_29 : decode cX9_toHut 29 = .ok (.iconst 0, 1) := by decide +kernel
theorem dX9_toHut_30 : decode cX9_toHut 30 = .ok (.istore_n 2, 1) := by decide +kernel
theorem dX9_toHut_31 : decode cX9_toHut 31 = .ok (.iconst 0, 1) := by decide +kernel
theorem dX9_toHut_32 : decode cX9_toHut 32 = .ok (.istore_n 3, 1) := by decide +kernel
theorem dX9_toHut_33 : decode cX9_toHut 33 = .ok (.iload_n 3, 1) := by decide +kernel
theorem dX9_toHut_34 : decode cX9_toHut 34 = .ok (.aload_n 0, 1) := by decide +kernel
theorem dX9_toHut_35 : decode cX9_toHut 35 = .ok (.getfield 19, 3) := by decide +kernel
theorem dX9_toHut_38 : decode cX9_toHut 38 = .ok (.bipush 13, 2) := by decide +kernel
theorem dX9_toHut_40 : decode cX9_toHut 40 = .ok (.iaload, 1) := by decide +kernel
theorem dX9_toHut_41 : decode cX9_toHut 41 = .ok (.if_icmp .ge 44, 3) := by decide +kernel
theorem dX9_toHut_44 : decode cX9_toHut 44 = .ok (.iload_n 1, 1) := by decide +kernel
theorem dX9_toHut_45 : decode cX9_toHut 45 = .ok (.iload_n 3, 1) := by decide +kernel
theorem dX9_toHut_46 : decode cX9_toHut 46 = .ok (.invokestatic 164, 3) := by decide +kernel
theorem dX9_toHut_49 : decode cX9_toHut 49 = .ok (.ifCond .eq 28, 3) := by decide +kernel
theorem dX9_toHut_52 : decode cX9_toHut 52 = .ok (.aload_n 0, 1) := by decide +kernel
theorem dX9_toHut_53 : decode cX9_toHut 53 = .ok (.getfield 19, 3) := by decide +kernel
theorem dX9_toHut_56 : decode cX9_toHut 56 = .ok (.bipush 38, 2) := by decide +kernel
theorem dX9_toHut_58 : decode cX9_toHut 58 = .ok (.iload_n 3, 1) := by decide +kernel
theorem dX9_toHut_59 : decode cX9_toHut 59 = .ok (.iadd, 1) := by decide +kernel
theorem dX9_toHut_60 : decode cX9_toHut 60 = .ok (.iaload, 1) := by decide +kernel
theorem dX9_toHut_61 : decode cX9_toHut 61 = .ok (.iload_n 2, 1) := by decide +kernel
theorem dX9_toHut_62 : decode cX9_toHut 62 = .ok (.if_icmp .le 15, 3) := by decide +kernel
theorem dX9_toHut_65 : decode cX9_toHut 65 = .ok (.aload_n 0, 1) := by decide +kernel
theorem dX9_toHut_66 : decode cX9_toHut 66 = .ok (.getfield 19, 3) := by decide +kernel
theorem dX9_toHut_69 : decode cX9_toHut 69 = .ok (.bipush 38, 2) := by decide +kernel
theorem dX9_toHut_71 : decode cX9_toHut 71 = .ok (.iload_n 3, 1) := by decide +kernel
theorem dX9_toHut_72 : decode cX9_toHut 72 = .ok (.iadd, 1) := by decide +kernel
theorem dX9_toHut_73 : decode cX9_toHut 73 = .ok (.iaload, 1) := by decide +kernel
theorem dX9_toHut_74 : decode cX9_toHut 74 = .ok (.goto 4, 3) := by decide +kernel
theorem dX9_toHut_77 : decode cX9_toHut 77 = .ok (.iload_n 2, 1) := by decide +kernel
theorem dX9_toHut_78 : decode cX9_toHut 78 = .ok (.istore_n 2, 1) := by decide +kernel
theorem dX9_toHut_79 : decode cX9_toHut 79 = .ok (.iinc 3 1, 3) := by decide +kernel
theorem dX9_toHut_82 : decode cX9_toHut 82 = .ok (.goto (-49), 3) := by decide +kernel
theorem dX9_toHut_85 : decode cX9_toHut 85 = .ok (.iload_n 2, 1) := by decide +kernel
theorem dX9_toHut_86 : decode cX9_toHut 86 = .ok (.ireturn, 1) := by decide +kernel
theorem dX9_tryAll_0 : decode cX9_tryAll 0 = .ok (.aload_n 0, 1) := by decide +kernel
theorem dX9_tryAll_1 : decode cX9_tryAll 1 = .ok (.invokevirtual 203, 3) := by decide +kernel
theorem dX9_tryAll_4 : decode cX9_tryAll 4 = .ok (.aload_n 0, 1) := by decide +kernel
theorem dX9_tryAll_5 : decode cX9_tryAll 5 = .ok (.getfield 19, 3) := by decide +kernel
theorem dX9_tryAll_8 : decode cX9_tryAll 8 = .ok (.bipush 10, 2) := by decide +kernel
theorem dX9_tryAll_10 : decode cX9_tryAll 10 = .ok (.iload_n 1, 1) := by decide +kernel
theorem dX9_tryAll_11 : decode cX9_tryAll 11 = .ok (.iastore, 1) := by decide +kernel
theorem dX9_tryAll_12 : decode cX9_tryAll 12 = .ok (.aload_n 0, 1) := by decide +kernel
theorem dX9_tryAll_13 : decode cX9_tryAll 13 = .ok (.getfield 19, 3) := by decide +kernel
theorem dX9_tryAll_16 : decode cX9_tryAll 16 = .ok (.bipush 11, 2) := by decide +kernel
theorem dX9_tryAll_18 : decode cX9_tryAll 18 = .ok (.iload_n 2, 1) := by decide +kernel
theorem dX9_tryAll_19 : decode cX9_tryAll 19 = .ok (.iastore, 1) := by decide +kernel
theorem dX9_tryAll_20 : decode cX9_tryAll 20 = .ok (.aload_n 0, 1) := by decide +kernel
theorem dX9_tryAll_21 : decode cX9_tryAll 21 = .ok (.aload_n 0, 1) := by decide +kernel
theorem dX9_tryAll_22 : decode cX9_tryAll 22 = .ok (.invokevirtual 187, 3) := by decide +kernel
theorem dX9_tryAll_25 : decode cX9_tryAll 25 = .ok (.invokevirtual 206, 3) := by decide +kernel
theorem dX9_tryAll_28 : decode cX9_tryAll 28 = .ok (.istore_n 3, 1) := by decide +kernel
theorem dX9_tryAll_29 : decode cX9_tryAll 29 = .ok (.aload_n 0, 1) := by decide +kernel
theorem dX9_tryAll_30 : decode cX9_tryAll 30 = .ok (.invokevirtual 209, 3) := by decide +kernel
theorem dX9_tryAll_33 : decode cX9_tryAll 33 = .ok (.iload_n 3, 1) := by decide +kernel
theorem dX9_tryAll_34 : decode cX9_tryAll 34 = .ok (.ireturn, 1) := by decide +kernel
theorem dX9_there_0 : decode cX9_there 0 = .ok (.aload_n 0, 1) := by decide +kernel
theorem dX9_there_1 : decode cX9_there 1 = .ok (.iload_n 1, 1) := by decide +kernel
theorem dX9_there_2 : decode cX9_there 2 = .ok (.invokevirtual 197, 3) := by decide +kernel
theorem dX9_there_5 : decode cX9_there 5 = .ok (.ifCond .eq 15, 3) := by decide +kernel
theorem dX9_there_8 : decode cX9_there 8 = .ok (.iload_n 2, 1) := by decide +kernel
theorem dX9_there_9 : decode cX9_there 9 = .ok (.i2l, 1) := by decide +kernel
theorem dX9_there_10 : decode cX9_there 10 = .ok (.lconst 0, 1) := by decide +kernel
theorem dX9_there_11 : decode cX9_there 11 = .ok (.ldc2_w 74, 3) := by decide +kernel
theorem dX9_there_14 : decode cX9_there 14 = .ok (.invokestatic 66, 3) := by decide +kernel
theorem dX9_there_17 : decode cX9_there 17 = .ok (.ifCond .ne 6, 3) := by decide +kernel
theorem dX9_there_20 : decode cX9_there 20 = .ok (.ldc 76, 2) := by decide +kernel
theorem dX9_there_22 : decode cX9_there 22 = .ok (.ireturn, 1) := by decide +kernel
theorem dX9_there_23 : decode cX9_there 23 = .ok (.aload_n 0, 1) := by decide +kernel
theorem dX9_there_24 : decode cX9_there 24 = .ok (.invokevirtual 203, 3) := by decide +kernel
theorem dX9_there_27 : decode cX9_there 27 = .ok (.aload_n 0, 1) := by decide +kernel
theorem dX9_there_28 : decode cX9_there 28 = .ok (.aload_n 0, 1) := by decide +kernel
theorem dX9_there_29 : decode cX9_there 29 = .ok (.invokevirtual 187, 3) := by decide +kernel
theorem dX9_there_32 : decode cX9_there 32 = .ok (.invokevirtual 206, 3) := by decide +kernel
theorem dX9_there_35 : decode cX9_there 35 = .ok (.pop, 1) := by decide +kernel
theorem dX9_there_36 : decode cX9_there 36 = .ok (.iload_n 2, 1) := by decide +kernel
theorem dX9_there_37 : decode cX9_there 37 = .ok (.ifCond .ne 15, 3) := by decide +kernel
theorem dX9_there_40 : decode cX9_there 40 = .ok (.aload_n 0, 1) := by decide +kernel
theorem dX9_there_41 : decode cX9_there 41 = .ok (.getfield 19, 3) := by decide +kernel
theorem dX9_there_44 : decode cX9_there 44 = .ok (.bipush 38, 2) := by decide +kernel
theorem dX9_there_46 : decode cX9_there 46 = .ok (.iload_n 1, 1) := by decide +kernel
theorem dX9_there_47 : decode cX9_there 47 = .ok (.iadd, 1) := by decide +kernel
theorem dX9_there_48 : decode cX9_there 48 = .ok (.iaload, 1) := by decide +kernel
theorem dX9_there_49 : decode cX9_there 49 = .ok (.goto 29, 3) := by decide +kernel
theorem dX9_there_52 : decode cX9_there 52 = .ok (.iload_n 2, 1) := by decide +kernel
theorem dX9_there_53 : decode cX9_there 53 = .ok (.iconst 1, 1) := by decide +kernel
theorem dX9_there_54 : decode cX9_there 54 = .ok (.if_icmp .ne 15, 3) := by decide +kernel
theorem dX9_there_57 : decode cX9_there 57 = .ok (.aload_n 0, 1) := by decide +kernel
theorem dX9_there_58 : decode cX9_there 58 = .ok (.getfield 19, 3) := by decide +kernel
theorem dX9_there_61 : decode cX9_there 61 = .ok (.bipush 44, 2) := by decide +kernel
theorem dX9_there_63 : decode cX9_there 63 = .ok (.iload_n 1, 1) := by decide +kernel
theorem dX9_there_64 : decode cX9_there 64 = .ok (.iadd, 1) := by decide +kernel
theorem dX9_there_65 : decode cX9_there 65 = .ok (.iaload, 1) := by decide +kernel
theorem dX9_there_66 : decode cX9_there 66 = .ok (.goto 12, 3) := by decide +kernel
theorem dX9_there_69 : decode cX9_there 69 = .ok (.aload_n 0, 1) := by decide +kernel
theorem dX9_there_70 : decode cX9_there 70 = .ok (.getfield 19, 3) := by decide +kernel
theorem dX9_there_73 : decode cX9_there 73 = .ok (.bipush 32, 2) := by decide +kernel
theorem dX9_there_75 : decode cX9_there 75 = .ok (.iload_n 1, 1) := by decide +kernel
theorem dX9_there_76 : decode cX9_there 76 = .ok (.iadd, 1) := by decide +kernel
theorem dX9_there_77 : decode cX9_there 77 = .ok (.iaload, 1) := by decide +kernel
theorem dX9_there_78 : decode cX9_there 78 = .ok (.istore_n 3, 1) := by decide +kernel
theorem dX9_there_79 : decode cX9_there 79 = .ok (.aload_n 0, 1) := by decide +kernel
theorem dX9_there_80 : decode cX9_there 80 = .ok (.invokevirtual 209, 3) := by decide +kernel
theorem dX9_there_83 : decode cX9_there 83 = .ok (.iload_n 3, 1) := by decide +kernel
theorem dX9_there_84 : decode cX9_there 84 = .ok (.ireturn, 1) := by decide +kernel
theorem dX9_allThere_0 : decode cX9_allThere 0 = .ok (.aload_n 0, 1) := by decide +kernel
theorem dX9_allThere_1 : decode cX9_allThere 1 = .ok (.getfield 154, 3) := by decide +kernel
theorem dX9_allThere_4 : decode cX9_allThere 4 = .ok (.ifCond .eq 24, 3) := by decide +kernel
theorem dX9_allThere_7 : decode cX9_allThere 7 = .ok (.aload_n 0, 1) := by decide +kernel
theorem dX9_allThere_8 : decode cX9_allThere 8 = .ok (.aload_n 0, 1) := by decide +kernel
theorem dX9_allThere_9 : decode cX9_allThere 9 = .ok (.getfield 19, 3) := by decide +kernel
theorem dX9_allThere_12 : decode cX9_allThere 12 = .ok (.bipush 10, 2) := by decide +kernel
theorem dX9_allThere_14 : decode cX9_allThere 14 = .ok (.iaload, 1) := by decide +kernel
theorem dX9_allThere_15 : decode cX9_allThere 15 = .ok (.aload_n 0, 1) := by decide +kernel
theorem dX9_allThere_16 : decode cX9_allThere 16 = .ok (.getfield 19, 3) := by decide +kernel
theorem dX9_allThere_19 : decode cX9_allThere 19 = .ok (.bipush 11, 2) := by decide +kernel
theorem dX9_allThere_21 : decode cX9_allThere 21 = .ok (.iaload, 1) := by decide +kernel
theorem dX9_allThere_22 : decode cX9_allThere 22 = .ok (.invokevirtual 212, 3) := by decide +kernel
theorem dX9_allThere_25 : decode cX9_allThere 25 = .ok (.goto 5, 3) := by decide +kernel
theorem dX9_allThere_28 : decode cX9_allThere 28 = .ok (.ldc 183, 2) := by decide +kernel
theorem dX9_allThere_30 : decode cX9_allThere 30 = .ok (.ireturn, 1) := by decide +kernel
theorem dX9_soonest_0 : decode cX9_soonest 0 = .ok (.aload_n 0, 1) := by decide +kernel
theorem dX9_soonest_1 : decode cX9_soonest 1 = .ok (.getfield 154, 3) := by decide +kernel
theorem dX9_soonest_4 : decode cX9_soonest 4 = .ok (.ifCond .ne 6, 3) := by decide +kernel
theorem dX9_soonest_7 : decode cX9_soonest 7 = .ok (.ldc 183, 2) := by decide +kernel
theorem dX9_soonest_9 : decode cX9_soonest 9 = .ok (.ireturn, 1) := by decide +kernel
theorem dX9_soonest_10 : decode cX9_soonest 10 = .ok (.iload_n 1, 1) := by decide +kernel
theorem dX9_soonest_11 : decode cX9_soonest 11 = .ok (.i2l, 1) := by decide +kernel
theorem dX9_soonest_12 : decode cX9_soonest 12 = .ok (.lconst 0, 1) := by decide +kernel
theorem dX9_soonest_13 : decode cX9_soonest 13 = .ok (.ldc2_w 74, 3) := by decide +kernel
theorem dX9_soonest_16 : decode cX9_soonest 16 = .ok (.invokestatic 66, 3) := by decide +kernel
theorem dX9_soonest_19 : decode cX9_soonest 19 = .ok (.ifCond .ne 6, 3) := by decide +kernel
theorem dX9_soonest_22 : decode cX9_soonest 22 = .ok (.ldc 76, 2) := by decide +kernel
theorem dX9_soonest_24 : decode cX9_soonest 24 = .ok (.ireturn, 1) := by decide +kernel
theorem dX9_soonest_25 : decode cX9_soonest 25 = .ok (.iconst 0, 1) := by decide +kernel
theorem dX9_soonest_26 : decode cX9_soonest 26 = .ok (.istore_n 2, 1) := by decide +kernel
theorem dX9_soonest_27 : decode cX9_soonest 27 = .ok (.iconst (-1), 1) := by decide +kernel
theorem dX9_soonest_28 : decode cX9_soonest 28 = .ok (.istore_n 3, 1) := by decide +kernel
theorem dX9_soonest_29 : decode cX9_soonest 29 = .ok (.iconst 0, 1) := by decide +kernel
theorem dX9_soonest_30 : decode cX9_soonest 30 = .ok (.istore 4, 2) := by decide +kernel
theorem dX9_soonest_32 : decode cX9_soonest 32 = .ok (.iload 4, 2) := by decide +kernel
theorem dX9_soonest_34 : decode cX9_soonest 34 = .ok (.bipush 124, 2) := by decide +kernel
theorem dX9_soonest_36 : decode cX9_soonest 36 = .ok (.if_icmp .ge 55, 3) := by decide +kernel
theorem dX9_soonest_39 : decode cX9_soonest 39 = .ok (.aload_n 0, 1) := by decide +kernel
theorem dX9_soonest_40 : decode cX9_soonest 40 = .ok (.iload 4, 2) := by decide +kernel
theorem dX9_soonest_42 : decode cX9_soonest 42 = .ok (.bipush 31, 2) := by decide +kernel
theorem dX9_soonest_44 : decode cX9_soonest 44 = .ok (.idiv, 1) := by decide +kernel
theorem dX9_soonest_45 : decode cX9_soonest 45 = .ok (.iload 4, 2) := by decide +kernel
theorem dX9_soonest_47 : decode cX9_soonest 47 = .ok (.bipush 31, 2) := by decide +kernel
theorem dX9_soonest_49 : decode cX9_soonest 49 = .ok (.irem, 1) := by decide +kernel
theorem dX9_soonest_50 : decode cX9_soonest 50 = .ok (.invokevirtual 212, 3) := by decide +kernel
theorem dX9_soonest_53 : decode cX9_soonest 53 = .ok (.istore 5, 2) := by decide +kernel
theorem dX9_soonest_55 : decode cX9_soonest 55 = .ok (.iload_n 3, 1) := by decide +kernel
theorem dX9_soonest_56 : decode cX9_soonest 56 = .ok (.ifCond .lt 9, 3) := by decide +kernel
theorem dX9_soonest_59 : decode cX9_soonest 59 = .ok (.iload 5, 2) := by decide +kernel
theorem dX9_soonest_61 : decode cX9_soonest 61 = .ok (.iload_n 3, 1) := by decide +kernel
theorem dX9_soonest_62 : decode cX9_soonest 62 = .ok (.if_icmp .ge 8, 3) := by decide +kernel
theorem dX9_soonest_65 : decode cX9_soonest 65 = .ok (.iload 4, 2) := by decide +kernel
theorem dX9_soonest_67 : decode cX9_soonest 67 = .ok (.goto 4, 3) := by decide +kernel
theorem dX9_soonest_70 : decode cX9_soonest 70 = .ok (.iload_n 2, 1) := by decide +kernel
theorem dX9_soonest_71 : decode cX9_soonest 71 = .ok (.istore_n 2, 1) := by decide +kernel
theorem dX9_soonest_72 : decode cX9_soonest 72 = .ok (.iload_n 2, 1) := by decide +kernel
theorem dX9_soonest_73 : decode cX9_soonest 73 = .ok (.iload 4, 2) := by decide +kernel
theorem dX9_soonest_75 : decode cX9_soonest 75 = .ok (.if_icmp .ne 8, 3) := by decide +kernel
theorem dX9_soonest_78 : decode cX9_soonest 78 = .ok (.iload 5, 2) := by decide +kernel
theorem dX9_soonest_80 : decode cX9_soonest 80 = .ok (.goto 4, 3) := by decide +kernel
theorem dX9_soonest_83 : decode cX9_soonest 83 = .ok (.iload_n 3, 1) := by decide +kernel
theorem dX9_soonest_84 : decode cX9_soonest 84 = .ok (.istore_n 3, 1) := by decide +kernel
theorem dX9_soonest_85 : decode cX9_soonest 85 = .ok (.iinc 4 1, 3) := by decide +kernel
theorem dX9_soonest_88 : decode cX9_soonest 88 = .ok (.goto (-56), 3) := by decide +kernel
theorem dX9_soonest_91 : decode cX9_soonest 91 = .ok (.iload_n 1, 1) := by decide +kernel
theorem dX9_soonest_92 : decode cX9_soonest 92 = .ok (.ifCond .ne 10, 3) := by decide +kernel
theorem dX9_soonest_95 : decode cX9_soonest 95 = .ok (.iload_n 2, 1) := by decide +kernel
theorem dX9_soonest_96 : decode cX9_soonest 96 = .ok (.bipush 31, 2) := by decide +kernel
theorem dX9_soonest_98 : decode cX9_soonest 98 = .ok (.idiv, 1) := by decide +kernel
theorem dX9_soonest_99 : decode cX9_soonest 99 = .ok (.goto 16, 3) := by decide +kernel
theorem dX9_soonest_102 : decode cX9_soonest 102 = .ok (.iload_n 1, 1) := by decide +kernel
theorem dX9_soonest_103 : decode cX9_soonest 103 = .ok (.iconst 1, 1) := by decide +kernel
theorem dX9_soonest_104 : decode cX9_soonest 104 = .ok (.if_icmp .ne 10, 3) := by decide +kernel
theorem dX9_soonest_107 : decode cX9_soonest 107 = .ok (.iload_n 2, 1) := by decide +kernel
theorem dX9_soonest_108 : decode cX9_soonest 108 = .ok (.bipush 31, 2) := by decide +kernel
theorem dX9_soonest_110 : decode cX9_soonest 110 = .ok (.irem, 1) := by decide +kernel
theorem dX9_soonest_111 : decode cX9_soonest 111 = .ok (.goto 4, 3) := by decide +kernel
theorem dX9_soonest_114 : decode cX9_soonest 114 = .ok (.iload_n 3, 1) := by decide +kernel
theorem dX9_soonest_115 : decode cX9_soonest 115 = .ok (.ireturn, 1) := by decide +kernel
theorem dX9_findThen_0 : decode cX9_findThen 0 = .ok (.aload_n 0, 1) := by decide +kernel
theorem dX9_findThen_1 : decode cX9_findThen 1 = .ok (.invokevirtual 203, 3) := by decide +kernel
theorem dX9_findThen_4 : decode cX9_findThen 4 = .ok (.aload_n 0, 1) := by decide +kernel
theorem dX9_findThen_5 : decode cX9_findThen 5 = .ok (.getfield 19, 3) := by decide +kernel
theorem dX9_findThen_8 : decode cX9_findThen 8 = .ok (.bipush 10, 2) := by decide +kernel
theorem dX9_findThen_10 : decode cX9_findThen 10 = .ok (.iload_n 1, 1) := by decide +kernel
theorem dX9_findThen_11 : decode cX9_findThen 11 = .ok (.iastore, 1) := by decide +kernel
theorem dX9_findThen_12 : decode cX9_findThen 12 = .ok (.aload_n 0, 1) := by decide +kernel
theorem dX9_findThen_13 : decode cX9_findThen 13 = .ok (.getfield 19, 3) := by decide +kernel
theorem dX9_findThen_16 : decode cX9_findThen 16 = .ok (.bipush 11, 2) := by decide +kernel
theorem dX9_findThen_18 : decode cX9_findThen 18 = .ok (.iload_n 2, 1) := by decide +kernel
theorem dX9_findThen_19 : decode cX9_findThen 19 = .ok (.iastore, 1) := by decide +kernel
theorem dX9_findThen_20 : decode cX9_findThen 20 = .ok (.aload_n 0, 1) := by decide +kernel
theorem dX9_findThen_21 : decode cX9_findThen 21 = .ok (.aload_n 0, 1) := by decide +kernel
theorem dX9_findThen_22 : decode cX9_findThen 22 = .ok (.invokevirtual 187, 3) := by decide +kernel
theorem dX9_findThen_25 : decode cX9_findThen 25 = .ok (.invokevirtual 206, 3) := by decide +kernel
theorem dX9_findThen_28 : decode cX9_findThen 28 = .ok (.pop, 1) := by decide +kernel
theorem dX9_findThen_29 : decode cX9_findThen 29 = .ok (.iconst 0, 1) := by decide +kernel
theorem dX9_findThen_30 : decode cX9_findThen 30 = .ok (.istore 4, 2) := by decide +kernel
theorem dX9_findThen_32 : decode cX9_findThen 32 = .ok (.iload 4, 2) := by decide +kernel
theorem dX9_findThen_34 : decode cX9_findThen 34 = .ok (.aload_n 0, 1) := by decide +kernel
theorem dX9_findThen_35 : decode cX9_findThen 35 = .ok (.getfield 19, 3) := by decide +kernel
theorem dX9_findThen_38 : decode cX9_findThen 38 = .ok (.bipush 13, 2) := by decide +kernel
theorem dX9_findThen_40 : decode cX9_findThen 40 = .ok (.iaload, 1) := by decide +kernel
theorem dX9_findThen_41 : decode cX9_findThen 41 = .ok (.if_icmp .ge 57, 3) := by decide +kernel
theorem dX9_findThen_44 : decode cX9_findThen 44 = .ok (.aload_n 0, 1) := by decide +kernel
theorem dX9_findThen_45 : decode cX9_findThen 45 = .ok (.getfield 37, 3) := by decide +kernel
theorem dX9_findThen_48 : decode cX9_findThen 48 = .ok (.iload 4, 2) := by decide +kernel
theorem dX9_findThen_50 : decode cX9_findThen 50 = .ok (.iload_n 3, 1) := by decide +kernel
theorem dX9_findThen_51 : decode cX9_findThen 51 = .ok (.ifCond .eq 16, 3) := by decide +kernel
theorem dX9_findThen_54 : decode cX9_findThen 54 = .ok (.aload_n 0, 1) := by decide +kernel
theorem dX9_findThen_55 : decode cX9_findThen 55 = .ok (.getfield 19, 3) := by decide +kernel
theorem dX9_findThen_58 : decode cX9_findThen 58 = .ok (.bipush 38, 2) := by decide +kernel
theorem dX9_findThen_60 : decode cX9_findThen 60 = .ok (.iload 4, 2) := by decide +kernel
theorem dX9_findThen_62 : decode cX9_findThen 62 = .ok (.iadd, 1) := by decide +kernel
theorem dX9_findThen_63 : decode cX9_findThen 63 = .ok (.iaload, 1) := by decide +kernel
theorem dX9_findThen_64 : decode cX9_findThen 64 = .ok (.goto 10, 3) := by decide +kernel
theorem dX9_findThen_67 : decode cX9_findThen 67 = .ok (.aload_n 0, 1) := by decide +kernel
theorem dX9_findThen_68 : decode cX9_findThen 68 = .ok (.getfield 37, 3) := by decide +kernel
theorem dX9_findThen_71 : decode cX9_findThen 71 = .ok (.iload 4, 2) := by decide +kernel
theorem dX9_findThen_73 : decode cX9_findThen 73 = .ok (.iaload, 1) := by decide +kernel
theorem dX9_findThen_74 : decode cX9_findThen 74 = .ok (.iastore, 1) := by decide +kernel
theorem dX9_findThen_75 : decode cX9_findThen 75 = .ok (.aload_n 0, 1) := by decide +kernel
theorem dX9_findThen_76 : decode cX9_findThen 76 = .ok (.getfield 40, 3) := by decide +kernel
theorem dX9_findThen_79 : decode cX9_findThen 79 = .ok (.iload 4, 2) := by decide +kernel
theorem dX9_findThen_81 : decode cX9_findThen 81 = .ok (.aload_n 0, 1) := by decide +kernel
theorem dX9_findThen_82 : decode cX9_findThen 82 = .ok (.getfield 19, 3) := by decide +kernel
theorem dX9_findThen_85 : decode cX9_findThen 85 = .ok (.bipush 38, 2) := by decide +kernel
theorem dX9_findThen_87 : decode cX9_findThen 87 = .ok (.iload 4, 2) := by decide +kernel
theorem dX9_findThen_89 : decode cX9_findThen 89 = .ok (.iadd, 1) := by decide +kernel
theorem dX9_findThen_90 : decode cX9_findThen 90 = .ok (.iaload, 1) := by decide +kernel
theorem dX9_findThen_91 : decode cX9_findThen 91 = .ok (.iastore, 1) := by decide +kernel
theorem dX9_findThen_92 : decode cX9_findThen 92 = .ok (.iinc 4 1, 3) := by decide +kernel
theorem dX9_findThen_95 : decode cX9_findThen 95 = .ok (.goto (-63), 3) := by decide +kernel
theorem dX9_findThen_98 : decode cX9_findThen 98 = .ok (.aload_n 0, 1) := by decide +kernel
theorem dX9_findThen_99 : decode cX9_findThen 99 = .ok (.invokevirtual 209, 3) := by decide +kernel
theorem dX9_findThen_102 : decode cX9_findThen 102 = .ok (.return_, 1) := by decide +kernel
theorem dX9_loses_0 : decode cX9_loses 0 = .ok (.aload_n 0, 1) := by decide +kernel
theorem dX9_loses_1 : decode cX9_loses 1 = .ok (.iload_n 1, 1) := by decide +kernel
theorem dX9_loses_2 : decode cX9_loses 2 = .ok (.invokevirtual 197, 3) := by decide +kernel
theorem dX9_loses_5 : decode cX9_loses 5 = .ok (.ifCond .ne 6, 3) := by decide +kernel
theorem dX9_loses_8 : decode cX9_loses 8 = .ok (.ldc 76, 2) := by decide +kernel
theorem dX9_loses_10 : decode cX9_loses 10 = .ok (.ireturn, 1) := by decide +kernel
theorem dX9_loses_11 : decode cX9_loses 11 = .ok (.aload_n 0, 1) := by decide +kernel
theorem dX9_loses_12 : decode cX9_loses 12 = .ok (.iconst 3, 1) := by decide +kernel
theorem dX9_loses_13 : decode cX9_loses 13 = .ok (.iconst 0, 1) := by decide +kernel
theorem dX9_loses_14 : decode cX9_loses 14 = .ok (.iconst 1, 1) := by decide +kernel
theorem dX9_loses_15 : decode cX9_loses 15 = .ok (.invokevirtual 215, 3) := by decide +kernel
theorem dX9_loses_18 : decode cX9_loses 18 = .ok (.aload_n 0, 1) := by decide +kernel
theorem dX9_loses_19 : decode cX9_loses 19 = .ok (.aload_n 0, 1) := by decide +kernel
theorem dX9_loses_20 : decode cX9_loses 20 = .ok (.getfield 19, 3) := by decide +kernel
theorem dX9_loses_23 : decode cX9_loses 23 = .ok (.bipush 10, 2) := by decide +kernel
theorem dX9_loses_25 : decode cX9_loses 25 = .ok (.iaload, 1) := by decide +kernel
theorem dX9_loses_26 : decode cX9_loses 26 = .ok (.aload_n 0, 1) := by decide +kernel
theorem dX9_loses_27 : decode cX9_loses 27 = .ok (.getfield 19, 3) := by decide +kernel
theorem dX9_loses_30 : decode cX9_loses 30 = .ok (.bipush 11, 2) := by decide +kernel
theorem dX9_loses_32 : decode cX9_loses 32 = .ok (.iaload, 1) := by decide +kernel
theorem dX9_loses_33 : decode cX9_loses 33 = .ok (.iconst 0, 1) := by decide +kernel
theorem dX9_loses_34 : decode cX9_loses 34 = .ok (.invokevirtual 215, 3) := by decide +kernel
theorem dX9_loses_37 : decode cX9_loses 37 = .ok (.aload_n 0, 1) := by decide +kernel
theorem dX9_loses_38 : decode cX9_loses 38 = .ok (.getfield 40, 3) := by decide +kernel
theorem dX9_loses_41 : decode cX9_loses 41 = .ok (.iload_n 1, 1) := by decide +kernel
theorem dX9_loses_42 : decode cX9_loses 42 = .ok (.iaload, 1) := by decide +kernel
theorem dX9_loses_43 : decode cX9_loses 43 = .ok (.aload_n 0, 1) := by decide +kernel
theorem dX9_loses_44 : decode cX9_loses 44 = .ok (.getfield 37, 3) := by decide +kernel
theorem dX9_loses_47 : decode cX9_loses 47 = .ok (.iload_n 1, 1) := by decide +kernel
theorem dX9_loses_48 : decode cX9_loses 48 = .ok (.iaload, 1) := by decide +kernel
theorem dX9_loses_49 : decode cX9_loses 49 = .ok (.isub, 1) := by decide +kernel
theorem dX9_loses_50 : decode cX9_loses 50 = .ok (.ireturn, 1) := by decide +kernel
theorem dX9_fair_0 : decode cX9_fair 0 = .ok (.aload_n 0, 1) := by decide +kernel
theorem dX9_fair_1 : decode cX9_fair 1 = .ok (.getfield 154, 3) := by decide +kernel
theorem dX9_fair_4 : decode cX9_fair 4 = .ok (.ifCond .ne 6, 3) := by decide +kernel
theorem dX9_fair_7 : decode cX9_fair 7 = .ok (.ldc 183, 2) := by decide +kernel
theorem dX9_fair_9 : decode cX9_fair 9 = .ok (.ireturn, 1) := by decide +kernel
theorem dX9_fair_10 : decode cX9_fair 10 = .ok (.iload_n 1, 1) := by decide +kernel
theorem dX9_fair_11 : decode cX9_fair 11 = .ok (.i2l, 1) := by decide +kernel
theorem dX9_fair_12 : decode cX9_fair 12 = .ok (.lconst 0, 1) := by decide +kernel
theorem dX9_fair_13 : decode cX9_fair 13 = .ok (.ldc2_w 74, 3) := by decide +kernel
theorem dX9_fair_16 : decode cX9_fair 16 = .ok (.invokestatic 66, 3) := by decide +kernel
theorem dX9_fair_19 : decode cX9_fair 19 = .ok (.ifCond .ne 6, 3) := by decide +kernel
theorem dX9_fair_22 : decode cX9_fair 22 = .ok (.ldc 76, 2) := by decide +kernel
theorem dX9_fair_24 : decode cX9_fair 24 = .ok (.ireturn, 1) := by decide +kernel
theorem dX9_fair_25 : decode cX9_fair 25 = .ok (.aload_n 0, 1) := by decide +kernel
theorem dX9_fair_26 : decode cX9_fair 26 = .ok (.getfield 19, 3) := by decide +kernel
theorem dX9_fair_29 : decode cX9_fair 29 = .ok (.bipush 13, 2) := by decide +kernel
theorem dX9_fair_31 : decode cX9_fair 31 = .ok (.iaload, 1) := by decide +kernel
theorem dX9_fair_32 : decode cX9_fair 32 = .ok (.ifCond .ne 6, 3) := by decide +kernel
theorem dX9_fair_35 : decode cX9_fair 35 = .ok (.ldc 200, 2) := by decide +kernel
theorem dX9_fair_37 : decode cX9_fair 37 = .ok (.ireturn, 1) := by decide +kernel
theorem dX9_fair_38 : decode cX9_fair 38 = .ok (.aload_n 0, 1) := by decide +kernel
theorem dX9_fair_39 : decode cX9_fair 39 = .ok (.iconst 3, 1) := by decide +kernel
theorem dX9_fair_40 : decode cX9_fair 40 = .ok (.iconst 0, 1) := by decide +kernel
theorem dX9_fair_41 : decode cX9_fair 41 = .ok (.iconst 1, 1) := by decide +kernel
theorem dX9_fair_42 : decode cX9_fair 42 = .ok (.invokevirtual 215, 3) := by decide +kernel
theorem dX9_fair_45 : decode cX9_fair 45 = .ok (.iconst (-1), 1) := by decide +kernel
theorem dX9_fair_46 : decode cX9_fair 46 = .ok (.istore_n 2, 1) := by decide +kernel
theorem dX9_fair_47 : decode cX9_fair 47 = .ok (.iconst 0, 1) := by decide +kernel
theorem dX9_fair_48 : decode cX9_fair 48 = .ok (.istore_n 3, 1) := by decide +kernel
theorem dX9_fair_49 : decode cX9_fair 49 = .ok (.iconst 0, 1) := by decide +kernel
theorem dX9_fair_50 : decode cX9_fair 50 = .ok (.istore 4, 2) := by decide +kernel
theorem dX9_fair_52 : decode cX9_fair 52 = .ok (.iload 4, 2) := by decide +kernel
theorem dX9_fair_54 : decode cX9_fair 54 = .ok (.bipush 124, 2) := by decide +kernel
theorem dX9_fair_56 : decode cX9_fair 56 = .ok (.if_icmp .ge 132, 3) := by decide +kernel
theorem dX9_fair_59 : decode cX9_fair 59 = .ok (.aload_n 0, 1) := by decide +kernel
theorem dX9_fair_60 : decode cX9_fair 60 = .ok (.iload 4, 2) := by decide +kernel
theorem dX9_fair_62 : decode cX9_fair 62 = .ok (.bipush 31, 2) := by decide +kernel
theorem dX9_fair_64 : decode cX9_fair 64 = .ok (.idiv, 1) := by decide +kernel
theorem dX9_fair_65 : decode cX9_fair 65 = .ok (.iload 4, 2) := by decide +kernel
theorem dX9_fair_67 : decode cX9_fair 67 = .ok (.bipush 31, 2) := by decide +kernel
theorem dX9_fair_69 : decode cX9_fair 69 = .ok (.irem, 1) := by decide +kernel
theorem dX9_fair_70 : decode cX9_fair 70 = .ok (.iconst 0, 1) := by decide +kernel
theorem dX9_fair_71 : decode cX9_fair 71 = .ok (.invokevirtual 215, 3) := by decide +kernel
theorem dX9_fair_74 : decode cX9_fair 74 = .ok (.aload_n 0, 1) := by decide +kernel
theorem dX9_fair_75 : decode cX9_fair 75 = .ok (.getfield 40, 3) := by decide +kernel
theorem dX9_fair_78 : decode cX9_fair 78 = .ok (.iconst 0, 1) := by decide +kernel
theorem dX9_fair_79 : decode cX9_fair 79 = .ok (.iaload, 1) := by decide +kernel
theorem dX9_fair_80 : decode cX9_fair 80 = .ok (.aload_n 0, 1) := by decide +kernel
theorem dX9_fair_81 : decode cX9_fair 81 = .ok (.getfield 37, 3) := by decide +kernel
theorem dX9_fair_84 : decode cX9_fair 84 = .ok (.iconst 0, 1) := by decide +kernel
theorem dX9_fair_85 : decode cX9_fair 85 = .ok (.iaload, 1) := by decide +kernel
theorem dX9_fair_86 : decode cX9_fair 86 = .ok (.isub, 1) := by decide +kernel
theorem dX9_fair_87 : decode cX9_fair 87 = .ok (.istore 5, 2) := by decide +kernel
theorem dX9_fair_89 : decode cX9_fair 89 = .ok (.iconst 1, 1) := by decide +kernel
theorem dX9_fair_90 : decode cX9_fair 90 = .ok (.istore 6, 2) := by decide +kernel
theorem dX9_fair_92 : decode cX9_fair 92 = .ok (.iload 6, 2) := by decide +kernel
theorem dX9_fair_94 : decode cX9_fair 94 = .ok (.aload_n 0, 1) := by decide +kernel
theorem dX9_fair_95 : decode cX9_fair 95 = .ok (.getfield 19, 3) := by decide +kernel
theorem dX9_fair_98 : decode cX9_fair 98 = .ok (.bipush 13, 2) := by decide +kernel
theorem dX9_fair_100 : decode cX9_fair 100 = .ok (.iaload, 1) := by decide +kernel
theorem dX9_fair_101 : decode cX9_fair 101 = .ok (.if_icmp .ge 51, 3) := by decide +kernel
theorem dX9_fair_104 : decode cX9_fair 104 = .ok (.aload_n 0, 1) := by decide +kernel
theorem dX9_fair_105 : decode cX9_fair 105 = .ok (.getfield 40, 3) := by decide +kernel
theorem dX9_fair_108 : decode cX9_fair 108 = .ok (.iload 6, 2) := by decide +kernel
theorem dX9_fair_110 : decode cX9_fair 110 = .ok (.iaload, 1) := by decide +kernel
theorem dX9_fair_111 : decode cX9_fair 111 = .ok (.aload_n 0, 1) := by decide +kernel
theorem dX9_fair_112 : decode cX9_fair 112 = .ok (.getfield 37, 3) := by decide +kernel
theorem dX9_fair_115 : decode cX9_fair 115 = .ok (.iload 6, 2) := by decide +kernel
theorem dX9_fair_117 : decode cX9_fair 117 = .ok (.iaload, 1) := by decide +kernel
theorem dX9_fair_118 : decode cX9_fair 118 = .ok (.isub, 1) := by decide +kernel
theorem dX9_fair_119 : decode cX9_fair 119 = .ok (.iload 5, 2) := by decide +kernel
theorem dX9_fair_121 : decode cX9_fair 121 = .ok (.if_icmp .le 21, 3) := by decide +kernel
theorem dX9_fair_124 : decode cX9_fair 124 = .ok (.aload_n 0, 1) := by decide +kernel
theorem dX9_fair_125 : decode cX9_fair 125 = .ok (.getfield 40, 3) := by decide +kernel
theorem dX9_fair_128 : decode cX9_fair 128 = .ok (.iload 6, 2) := by decide +kernel
theorem dX9_fair_130 : decode cX9_fair 130 = .ok (.iaload, 1) := by decide +kernel
theorem dX9_fair_131 : decode cX9_fair 131 = .ok (.aload_n 0, 1) := by decide +kernel
theorem dX9_fair_132 : decode cX9_fair 132 = .ok (.getfield 37, 3) := by decide +kernel
theorem dX9_fair_135 : decode cX9_fair 135 = .ok (.iload 6, 2) := by decide +kernel
theorem dX9_fair_137 : decode cX9_fair 137 = .ok (.iaload, 1) := by decide +kernel
theorem dX9_fair_138 : decode cX9_fair 138 = .ok (.isub, 1) := by decide +kernel
theorem dX9_fair_139 : decode cX9_fair 139 = .ok (.goto 5, 3) := by decide +kernel
theorem dX9_fair_142 : decode cX9_fair 142 = .ok (.iload 5, 2) := by decide +kernel
theorem dX9_fair_144 : decode cX9_fair 144 = .ok (.istore 5, 2) := by decide +kernel
theorem dX9_fair_146 : decode cX9_fair 146 = .ok (.iinc 6 1, 3) := by decide +kernel
theorem dX9_fair_149 : decode cX9_fair 149 = .ok (.goto (-57), 3) := by decide +kernel
theorem dX9_fair_152 : decode cX9_fair 152 = .ok (.iload_n 2, 1) := by decide +kernel
theorem dX9_fair_153 : decode cX9_fair 153 = .ok (.ifCond .lt 9, 3) := by decide +kernel
theorem dX9_fair_156 : decode cX9_fair 156 = .ok (.iload 5, 2) := by decide +kernel
theorem dX9_fair_158 : decode cX9_fair 158 = .ok (.iload_n 3, 1) := by decide +kernel
theorem dX9_fair_159 : decode cX9_fair 159 = .ok (.if_icmp .ge 8, 3) := by decide +kernel
theorem dX9_fair_162 : decode cX9_fair 162 = .ok (.iload 4, 2) := by decide +kernel
theorem dX9_fair_164 : decode cX9_fair 164 = .ok (.goto 4, 3) := by decide +kernel
theorem dX9_fair_167 : decode cX9_fair 167 = .ok (.iload_n 2, 1) := by decide +kernel
theorem dX9_fair_168 : decode cX9_fair 168 = .ok (.istore_n 2, 1) := by decide +kernel
theorem dX9_fair_169 : decode cX9_fair 169 = .ok (.iload_n 2, 1) := by decide +kernel
theorem dX9_fair_170 : decode cX9_fair 170 = .ok (.iload 4, 2) := by decide +kernel
theorem dX9_fair_172 : decode cX9_fair 172 = .ok (.if_icmp .ne 8, 3) := by decide +kernel
theorem dX9_fair_175 : decode cX9_fair 175 = .ok (.iload 5, 2) := by decide +kernel
theorem dX9_fair_177 : decode cX9_fair 177 = .ok (.goto 4, 3) := by decide +kernel
theorem dX9_fair_180 : decode cX9_fair 180 = .ok (.iload_n 3, 1) := by decide +kernel
theorem dX9_fair_181 : decode cX9_fair 181 = .ok (.istore_n 3, 1) := by decide +kernel
theorem dX9_fair_182 : decode cX9_fair 182 = .ok (.iinc 4 1, 3) := by decide +kernel
theorem dX9_fair_185 : decode cX9_fair 185 = .ok (.goto (-133), 3) := by decide +kernel
theorem dX9_fair_188 : decode cX9_fair 188 = .ok (.iload_n 1, 1) := by decide +kernel
theorem dX9_fair_189 : decode cX9_fair 189 = .ok (.ifCond .ne 10, 3) := by decide +kernel
theorem dX9_fair_192 : decode cX9_fair 192 = .ok (.iload_n 2, 1) := by decide +kernel
theorem dX9_fair_193 : decode cX9_fair 193 = .ok (.bipush 31, 2) := by decide +kernel
theorem dX9_fair_195 : decode cX9_fair 195 = .ok (.idiv, 1) := by decide +kernel
theorem dX9_fair_196 : decode cX9_fair 196 = .ok (.goto 16, 3) := by decide +kernel
theorem dX9_fair_199 : decode cX9_fair 199 = .ok (.iload_n 1, 1) := by decide +kernel
theorem dX9_fair_200 : decode cX9_fair 200 = .ok (.iconst 1, 1) := by decide +kernel
theorem dX9_fair_201 : decode cX9_fair 201 = .ok (.if_icmp .ne 10, 3) := by decide +kernel
theorem dX9_fair_204 : decode cX9_fair 204 = .ok (.iload_n 2, 1) := by decide +kernel
theorem dX9_fair_205 : decode cX9_fair 205 = .ok (.bipush 31, 2) := by decide +kernel
theorem dX9_fair_207 : decode cX9_fair 207 = .ok (.irem, 1) := by decide +kernel
theorem dX9_fair_208 : decode cX9_fair 208 = .ok (.goto 4, 3) := by decide +kernel
theorem dX9_fair_211 : decode cX9_fair 211 = .ok (.iload_n 3, 1) := by decide +kernel
theorem dX9_fair_212 : decode cX9_fair 212 = .ok (.ireturn, 1) := by decide +kernel
theorem dX9_nextRow_0 : decode cX9_nextRow 0 = .ok (.iload_n 1, 1) := by decide +kernel
theorem dX9_nextRow_1 : decode cX9_nextRow 1 = .ok (.iconst 2, 1) := by decide +kernel
theorem dX9_nextRow_2 : decode cX9_nextRow 2 = .ok (.isub, 1) := by decide +kernel
theorem dX9_nextRow_3 : decode cX9_nextRow 3 = .ok (.istore_n 2, 1) := by decide +kernel
theorem dX9_nextRow_4 : decode cX9_nextRow 4 = .ok (.iload_n 2, 1) := by decide +kernel
theorem dX9_nextRow_5 : decode cX9_nextRow 5 = .ok (.ifCond .lt 26, 3) := by decide +kernel
theorem dX9_nextRow_8 : decode cX9_nextRow 8 = .ok (.aload_n 0, 1) := by decide +kernel
theorem dX9_nextRow_9 : decode cX9_nextRow 9 = .ok (.getfield 43, 3) := by decide +kernel
theorem dX9_nextRow_12 : decode cX9_nextRow 12 = .ok (.iload_n 2, 1) := by decide +kernel
theorem dX9_nextRow_13 : decode cX9_nextRow 13 = .ok (.iaload, 1) := by decide +kernel
theorem dX9_nextRow_14 : decode cX9_nextRow 14 = .ok (.aload_n 0, 1) := by decide +kernel
theorem dX9_nextRow_15 : decode cX9_nextRow 15 = .ok (.getfield 43, 3) := by decide +kernel
theorem dX9_nextRow_18 : decode cX9_nextRow 18 = .ok (.iload_n 2, 1) := by decide +kernel
theorem dX9_nextRow_19 : decode cX9_nextRow 19 = .ok (.iconst 1, 1) := by decide +kernel
theorem dX9_nextRow_20 : decode cX9_nextRow 20 = .ok (.iadd, 1) := by decide +kernel
theorem dX9_nextRow_21 : decode cX9_nextRow 21 = .ok (.iaload, 1) := by decide +kernel
theorem dX9_nextRow_22 : decode cX9_nextRow 22 = .ok (.if_icmp .le 9, 3) := by decide +kernel
theorem dX9_nextRow_25 : decode cX9_nextRow 25 = .ok (.iinc 2 (-1), 3) := by decide +kernel
theorem dX9_nextRow_28 : decode cX9_nextRow 28 = .ok (.goto (-24), 3) := by decide +kernel
theorem dX9_nextRow_31 : decode cX9_nextRow 31 = .ok (.iload_n 2, 1) := by decide +kernel
theorem dX9_nextRow_32 : decode cX9_nextRow 32 = .ok (.ifCond .ge 5, 3) := by decide +kernel
theorem dX9_nextRow_35 : decode cX9_nextRow 35 = .ok (.iconst 0, 1) := by decide +kernel
theorem dX9_nextRow_36 : decode cX9_nextRow 36 = .ok (.ireturn, 1) := by decide +kernel
theorem dX9_nextRow_37 : decode cX9_nextRow 37 = .ok (.iload_n 1, 1) := by decide +kernel
theorem dX9_nextRow_38 : decode cX9_nextRow 38 = .ok (.iconst 1, 1) := by decide +kernel
theorem dX9_nextRow_39 : decode cX9_nextRow 39 = .ok (.isub, 1) := by decide +kernel
theorem dX9_nextRow_40 : decode cX9_nextRow 40 = .ok (.istore_n 3, 1) := by decide +kernel
theorem dX9_nextRow_41 : decode cX9_nextRow 41 = .ok (.aload_n 0, 1) := by decide +kernel
theorem dX9_nextRow_42 : decode cX9_nextRow 42 = .ok (.getfield 43, 3) := by decide +kernel
theorem dX9_nextRow_45 : decode cX9_nextRow 45 = .ok (.iload_n 3, 1) := by decide +kernel
theorem dX9_nextRow_46 : decode cX9_nextRow 46 = .ok (.iaload, 1) := by decide +kernel
theorem dX9_nextRow_47 : decode cX9_nextRow 47 = .ok (.aload_n 0, 1) := by decide +kernel
theorem dX9_nextRow_48 : decode cX9_nextRow 48 = .ok (.getfield 43, 3) := by decide +kernel
theorem dX9_nextRow_51 : decode cX9_nextRow 51 = .ok (.iload_n 2, 1) := by decide +kernel
theorem dX9_nextRow_52 : decode cX9_nextRow 52 = .ok (.iaload, 1) := by decide +kernel
theorem dX9_nextRow_53 : decode cX9_nextRow 53 = .ok (.if_icmp .ge 9, 3) := by decide +kernel
theorem dX9_nextRow_56 : decode cX9_nextRow 56 = .ok (.iinc 3 (-1), 3) := by decide +kernel
theorem dX9_nextRow_59 : decode cX9_nextRow 59 = .ok (.goto (-18), 3) := by decide +kernel
theorem dX9_nextRow_62 : decode cX9_nextRow 62 = .ok (.aload_n 0, 1) := by decide +kernel
theorem dX9_nextRow_63 : decode cX9_nextRow 63 = .ok (.iload_n 2, 1) := by decide +kernel
theorem dX9_nextRow_64 : decode cX9_nextRow 64 = .ok (.iload_n 3, 1) := by decide +kernel
theorem dX9_nextRow_65 : decode cX9_nextRow 65 = .ok (.invokevirtual 219, 3) := by decide +kernel
theorem dX9_nextRow_68 : decode cX9_nextRow 68 = .ok (.iload_n 1, 1) := by decide +kernel
theorem dX9_nextRow_69 : decode cX9_nextRow 69 = .ok (.iconst 1, 1) := by decide +kernel
theorem dX9_nextRow_70 : decode cX9_nextRow 70 = .ok (.isub, 1) := by decide +kernel
theorem dX9_nextRow_71 : decode cX9_nextRow 71 = .ok (.istore 4, 2) := by decide +kernel
theorem dX9_nextRow_73 : decode cX9_nextRow 73 = .ok (.iload_n 2, 1) := by decide +kernel
theorem dX9_nextRow_74 : decode cX9_nextRow 74 = .ok (.iconst 1, 1) := by decide +kernel
theorem dX9_nextRow_75 : decode cX9_nextRow 75 = .ok (.iadd, 1) := by decide +kernel
theorem dX9_nextRow_76 : decode cX9_nextRow 76 = .ok (.istore 5, 2) := by decide +kernel
theorem dX9_nextRow_78 : decode cX9_nextRow 78 = .ok (.iload 5, 2) := by decide +kernel
theorem dX9_nextRow_80 : decode cX9_nextRow 80 = .ok (.iload 4, 2) := by decide +kernel
theorem dX9_nextRow_82 : decode cX9_nextRow 82 = .ok (.if_icmp .ge 20, 3) := by decide +kernel
theorem dX9_nextRow_85 : decode cX9_nextRow 85 = .ok (.aload_n 0, 1) := by decide +kernel
theorem dX9_nextRow_86 : decode cX9_nextRow 86 = .ok (.iload 5, 2) := by decide +kernel
theorem dX9_nextRow_88 : decode cX9_nextRow 88 = .ok (.iload 4, 2) := by decide +kernel
theorem dX9_nextRow_90 : decode cX9_nextRow 90 = .ok (.invokevirtual 219, 3) := by decide +kernel
theorem dX9_nextRow_93 : decode cX9_nextRow 93 = .ok (.iinc 4 (-1), 3) := by decide +kernel
theorem dX9_nextRow_96 : decode cX9_nextRow 96 = .ok (.iinc 5 1, 3) := by decide +kernel
theorem dX9_nextRow_99 : decode cX9_nextRow 99 = .ok (.goto (-21), 3) := by decide +kernel
theorem dX9_nextRow_102 : decode cX9_nextRow 102 = .ok (.iconst 1, 1) := by decide +kernel
theorem dX9_nextRow_103 : decode cX9_nextRow 103 = .ok (.ireturn, 1) := by decide +kernel
theorem dX9_exchange_0 : decode cX9_exchange 0 = .ok (.aload_n 0, 1) := by decide +kernel
theorem dX9_exchange_1 : decode cX9_exchange 1 = .ok (.getfield 43, 3) := by decide +kernel
theorem dX9_exchange_4 : decode cX9_exchange 4 = .ok (.iload_n 1, 1) := by decide +kernel
theorem dX9_exchange_5 : decode cX9_exchange 5 = .ok (.iaload, 1) := by decide +kernel
theorem dX9_exchange_6 : decode cX9_exchange 6 = .ok (.istore_n 3, 1) := by decide +kernel
theorem dX9_exchange_7 : decode cX9_exchange 7 = .ok (.aload_n 0, 1) := by decide +kernel
theorem dX9_exchange_8 : decode cX9_exchange 8 = .ok (.getfield 43, 3) := by decide +kernel
theorem dX9_exchange_11 : decode cX9_exchange 11 = .ok (.iload_n 1, 1) := by decide +kernel
theorem dX9_exchange_12 : decode cX9_exchange 12 = .ok (.aload_n 0, 1) := by decide +kernel
theorem dX9_exchange_13 : decode cX9_exchange 13 = .ok (.getfield 43, 3) := by decide +kernel
theorem dX9_exchange_16 : decode cX9_exchange 16 = .ok (.iload_n 2, 1) := by decide +kernel
theorem dX9_exchange_17 : decode cX9_exchange 17 = .ok (.iaload, 1) := by decide +kernel
theorem dX9_exchange_18 : decode cX9_exchange 18 = .ok (.iastore, 1) := by decide +kernel
theorem dX9_exchange_19 : decode cX9_exchange 19 = .ok (.aload_n 0, 1) := by decide +kernel
theorem dX9_exchange_20 : decode cX9_exchange 20 = .ok (.getfield 43, 3) := by decide +kernel
theorem dX9_exchange_23 : decode cX9_exchange 23 = .ok (.iload_n 2, 1) := by decide +kernel
theorem dX9_exchange_24 : decode cX9_exchange 24 = .ok (.iload_n 3, 1) := by decide +kernel
theorem dX9_exchange_25 : decode cX9_exchange 25 = .ok (.iastore, 1) := by decide +kernel
theorem dX9_exchange_26 : decode cX9_exchange 26 = .ok (.return_, 1) := by decide +kernel
theorem dX9_sacks_0 : decode cX9_sacks 0 = .ok (.aload_n 0, 1) := by decide +kernel
theorem dX9_sacks_1 : decode cX9_sacks 1 = .ok (.getfield 154, 3) := by decide +kernel
theorem dX9_sacks_4 : decode cX9_sacks 4 = .ok (.ifCond .ne 6, 3) := by decide +kernel
theorem dX9_sacks_7 : decode cX9_sacks 7 = .ok (.ldc 183, 2) := by decide +kernel
theorem dX9_sacks_9 : decode cX9_sacks 9 = .ok (.ireturn, 1) := by decide +kernel
theorem dX9_sacks_10 : decode cX9_sacks 10 = .ok (.aload_n 0, 1) := by decide +kernel
theorem dX9_sacks_11 : decode cX9_sacks 11 = .ok (.getfield 19, 3) := by decide +kernel
theorem dX9_sacks_14 : decode cX9_sacks 14 = .ok (.bipush 13, 2) := by decide +kernel
theorem dX9_sacks_16 : decode cX9_sacks 16 = .ok (.iaload, 1) := by decide +kernel
theorem dX9_sacks_17 : decode cX9_sacks 17 = .ok (.istore_n 2, 1) := by decide +kernel
theorem dX9_sacks_18 : decode cX9_sacks 18 = .ok (.iload_n 1, 1) := by decide +kernel
theorem dX9_sacks_19 : decode cX9_sacks 19 = .ok (.i2l, 1) := by decide +kernel
theorem dX9_sacks_20 : decode cX9_sacks 20 = .ok (.ldc2_w 223, 3) := by decide +kernel
theorem dX9_sacks_23 : decode cX9_sacks 23 = .ok (.iload_n 2, 1) := by decide +kernel
theorem dX9_sacks_24 : decode cX9_sacks 24 = .ok (.iconst 1, 1) := by decide +kernel
theorem dX9_sacks_25 : decode cX9_sacks 25 = .ok (.isub, 1) := by decide +kernel
theorem dX9_sacks_26 : decode cX9_sacks 26 = .ok (.i2l, 1) := by decide +kernel
theorem dX9_sacks_27 : decode cX9_sacks 27 = .ok (.invokestatic 66, 3) := by decide +kernel
theorem dX9_sacks_30 : decode cX9_sacks 30 = .ok (.ifCond .ne 6, 3) := by decide +kernel
theorem dX9_sacks_33 : decode cX9_sacks 33 = .ok (.ldc 76, 2) := by decide +kernel
theorem dX9_sacks_35 : decode cX9_sacks 35 = .ok (.ireturn, 1) := by decide +kernel
theorem dX9_sacks_36 : decode cX9_sacks 36 = .ok (.iconst 0, 1) := by decide +kernel
theorem dX9_sacks_37 : decode cX9_sacks 37 = .ok (.istore_n 3, 1) := by decide +kernel
theorem dX9_sacks_38 : decode cX9_sacks 38 = .ok (.iload_n 3, 1) := by decide +kernel
theorem dX9_sacks_39 : decode cX9_sacks 39 = .ok (.iload_n 2, 1) := by decide +kernel
theorem dX9_sacks_40 : decode cX9_sacks 40 = .ok (.if_icmp .ge 16, 3) := by decide +kernel
theorem dX9_sacks_43 : decode cX9_sacks 43 = .ok (.aload_n 0, 1) := by decide +kernel
theorem dX9_sacks_44 : decode cX9_sacks 44 = .ok (.getfield 43, 3) := by decide +kernel
theorem dX9_sacks_47 : decode cX9_sacks 47 = .ok (.iload_n 3, 1) := by decide +kernel
theorem dX9_sacks_48 : decode cX9_sacks 48 = .ok (.iload_n 3, 1) := by decide +kernel
theorem dX9_sacks_49 : decode cX9_sacks 49 = .ok (.iastore, 1) := by decide +kernel
theorem dX9_sacks_50 : decode cX9_sacks 50 = .ok (.iinc 3 1, 3) := by decide +kernel
theorem dX9_sacks_53 : decode cX9_sacks 53 = .ok (.goto (-15), 3) := by decide +kernel
theorem dX9_sacks_56 : decode cX9_sacks 56 = .ok (.iconst (-1), 1) := by decide +kernel
theorem dX9_sacks_57 : decode cX9_sacks 57 = .ok (.istore_n 3, 1) := by decide +kernel
theorem dX9_sacks_58 : decode cX9_sacks 58 = .ok (.iconst 1, 1) := by decide +kernel
theorem dX9_sacks_59 : decode cX9_sacks 59 = .ok (.istore 4, 2) := by decide +kernel
theorem dX9_sacks_61 : decode cX9_sacks 61 = .ok (.iload 4, 2) := by decide +kernel
theorem dX9_sacks_63 : decode cX9_sacks 63 = .ok (.ifCond .eq 134, 3) := by decide +kernel
theorem dX9_sacks_66 : decode cX9_sacks 66 = .ok (.aload_n 0, 1) := by decide +kernel
theorem dX9_sacks_67 : decode cX9_sacks 67 = .ok (.invokevirtual 203, 3) := by decide +kernel
theorem dX9_sacks_70 : decode cX9_sacks 70 = .ok (.iconst 0, 1) := by decide +kernel
theorem dX9_sacks_71 : decode cX9_sacks 71 = .ok (.istore 5, 2) := by decide +kernel
theorem dX9_sacks_73 : decode cX9_sacks 73 = .ok (.iload 5, 2) := by decide +kernel
theorem dX9_sacks_75 : decode cX9_sacks 75 = .ok (.iload_n 2, 1) := by decide +kernel
theorem dX9_sacks_76 : decode cX9_sacks 76 = .ok (.if_icmp .ge 34, 3) := by decide +kernel
theorem dX9_sacks_79 : decode cX9_sacks 79 = .ok (.aload_n 0, 1) := by decide +kernel
theorem dX9_sacks_80 : decode cX9_sacks 80 = .ok (.getfield 19, 3) := by decide +kernel
theorem dX9_sacks_83 : decode cX9_sacks 83 = .ok (.bipush 26, 2) := by decide +kernel
theorem dX9_sacks_85 : decode cX9_sacks 85 = .ok (.iload 5, 2) := by decide +kernel
theorem dX9_sacks_87 : decode cX9_sacks 87 = .ok (.iadd, 1) := by decide +kernel
theorem dX9_sacks_88 : decode cX9_sacks 88 = .ok (.aload_n 0, 1) := by decide +kernel
theorem dX9_sacks_89 : decode cX9_sacks 89 = .ok (.getfield 34, 3) := by decide +kernel
theorem dX9_sacks_92 : decode cX9_sacks 92 = .ok (.bipush 26, 2) := by decide +kernel
theorem dX9_sacks_94 : decode cX9_sacks 94 = .ok (.aload_n 0, 1) := by decide +kernel
theorem dX9_sacks_95 : decode cX9_sacks 95 = .ok (.getfield 43, 3) := by decide +kernel
theorem dX9_sacks_98 : decode cX9_sacks 98 = .ok (.iload 5, 2) := by decide +kernel
theorem dX9_sacks_100 : decode cX9_sacks 100 = .ok (.iaload, 1) := by decide +kernel
theorem dX9_sacks_101 : decode cX9_sacks 101 = .ok (.iadd, 1) := by decide +kernel
theorem dX9_sacks_102 : decode cX9_sacks 102 = .ok (.iaload, 1) := by decide +kernel
theorem dX9_sacks_103 : decode cX9_sacks 103 = .ok (.iastore, 1) := by decide +kernel
theorem dX9_sacks_104 : decode cX9_sacks 104 = .ok (.iinc 5 1, 3) := by decide +kernel
theorem dX9_sacks_107 : decode cX9_sacks 107 = .ok (.goto (-34), 3) := by decide +kernel
theorem dX9_sacks_110 : decode cX9_sacks 110 = .ok (.aload_n 0, 1) := by decide +kernel
theorem dX9_sacks_111 : decode cX9_sacks 111 = .ok (.aload_n 0, 1) := by decide +kernel
theorem dX9_sacks_112 : decode cX9_sacks 112 = .ok (.invokevirtual 187, 3) := by decide +kernel
theorem dX9_sacks_115 : decode cX9_sacks 115 = .ok (.invokevirtual 206, 3) := by decide +kernel
theorem dX9_sacks_118 : decode cX9_sacks 118 = .ok (.istore 5, 2) := by decide +kernel
theorem dX9_sacks_120 : decode cX9_sacks 120 = .ok (.aload_n 0, 1) := by decide +kernel
theorem dX9_sacks_121 : decode cX9_sacks 121 = .ok (.invokevirtual 209, 3) := by decide +kernel
theorem dX9_sacks_124 : decode cX9_sacks 124 = .ok (.iload_n 3, 1) := by decide +kernel
theorem dX9_sacks_125 : decode cX9_sacks 125 = .ok (.ifCond .lt 9, 3) := by decide +kernel
theorem dX9_sacks_128 : decode cX9_sacks 128 = .ok (.iload 5, 2) := by decide +kernel
theorem dX9_sacks_130 : decode cX9_sacks 130 = .ok (.iload_n 3, 1) := by decide +kernel
theorem dX9_sacks_131 : decode cX9_sacks 131 = .ok (.if_icmp .ge 7, 3) := by decide +kernel
theorem dX9_sacks_134 : decode cX9_sacks 134 = .ok (.iconst 1, 1) := by decide +kernel
theorem dX9_sacks_135 : decode cX9_sacks 135 = .ok (.goto 4, 3) := by decide +kernel
theorem dX9_sacks_138 : decode cX9_sacks 138 = .ok (.iconst 0, 1) := by decide +kernel
theorem dX9_sacks_139 : decode cX9_sacks 139 = .ok (.istore 6, 2) := by decide +kernel
theorem dX9_sacks_141 : decode cX9_sacks 141 = .ok (.iload 6, 2) := by decide +kernel
theorem dX9_sacks_143 : decode cX9_sacks 143 = .ok (.ifCond .eq 8, 3) := by decide +kernel
theorem dX9_sacks_146 : decode cX9_sacks 146 = .ok (.iload 5, 2) := by decide +kernel
theorem dX9_sacks_148 : decode cX9_sacks 148 = .ok (.goto 4, 3) := by decide +kernel
theorem dX9_sacks_151 : decode cX9_sacks 151 = .ok (.iload_n 3, 1) := by decide +kernel
theorem dX9_sacks_152 : decode cX9_sacks 152 = .ok (.istore_n 3, 1) := by decide +kernel
theorem dX9_sacks_153 : decode cX9_sacks 153 = .ok (.iconst 0, 1) := by decide +kernel
theorem dX9_sacks_154 : decode cX9_sacks 154 = .ok (.istore 7, 2) := by decide +kernel
theorem dX9_sacks_156 : decode cX9_sacks 156 = .ok (.iload 7, 2) := by decide +kernel
theorem dX9_sacks_158 : decode cX9_sacks 158 = .ok (.iload_n 2, 1) := by decide +kernel
theorem dX9_sacks_159 : decode cX9_sacks 159 = .ok (.if_icmp .ge 28, 3) := by decide +kernel
theorem dX9_sacks_162 : decode cX9_sacks 162 = .ok (.iload 6, 2) := by decide +kernel
theorem dX9_sacks_164 : decode cX9_sacks 164 = .ok (.ifCond .eq 23, 3) := by decide +kernel
theorem dX9_sacks_167 : decode cX9_sacks 167 = .ok (.aload_n 0, 1) := by decide +kernel
theorem dX9_sacks_168 : decode cX9_sacks 168 = .ok (.getfield 46, 3) := by decide +kernel
theorem dX9_sacks_171 : decode cX9_sacks 171 = .ok (.iload 7, 2) := by decide +kernel
theorem dX9_sacks_173 : decode cX9_sacks 173 = .ok (.aload_n 0, 1) := by decide +kernel
theorem dX9_sacks_174 : decode cX9_sacks 174 = .ok (.getfield 43, 3) := by decide +kernel
theorem dX9_sacks_177 : decode cX9_sacks 177 = .ok (.iload 7, 2) := by decide +kernel
theorem dX9_sacks_179 : decode cX9_sacks 179 = .ok (.iaload, 1) := by decide +kernel
theorem dX9_sacks_180 : decode cX9_sacks 180 = .ok (.iastore, 1) := by decide +kernel
theorem dX9_sacks_181 : decode cX9_sacks 181 = .ok (.iinc 7 1, 3) := by decide +kernel
theorem dX9_sacks_184 : decode cX9_sacks 184 = .ok (.goto (-28), 3) := by decide +kernel
theorem dX9_sacks_187 : decode cX9_sacks 187 = .ok (.aload_n 0, 1) := by decide +kernel
theorem dX9_sacks_188 : decode cX9_sacks 188 = .ok (.iload_n 2, 1) := by decide +kernel
theorem dX9_sacks_189 : decode cX9_sacks 189 = .ok (.invokevirtual 225, 3) := by decide +kernel
theorem dX9_sacks_192 : decode cX9_sacks 192 = .ok (.istore 4, 2) := by decide +kernel
theorem dX9_sacks_194 : decode cX9_sacks 194 = .ok (.goto (-133), 3) := by decide +kernel
theorem dX9_sacks_197 : decode cX9_sacks 197 = .ok (.iload_n 1, 1) := by decide +kernel
theorem dX9_sacks_198 : decode cX9_sacks 198 = .ok (.ifCond .ge 7, 3) := by decide +kernel
theorem dX9_sacks_201 : decode cX9_sacks 201 = .ok (.iload_n 3, 1) := by decide +kernel
theorem dX9_sacks_202 : decode cX9_sacks 202 = .ok (.goto 9, 3) := by decide +kernel
theorem dX9_sacks_205 : decode cX9_sacks 205 = .ok (.aload_n 0, 1) := by decide +kernel
theorem dX9_sacks_206 : decode cX9_sacks 206 = .ok (.getfield 46, 3) := by decide +kernel
theorem dX9_sacks_209 : decode cX9_sacks 209 = .ok (.iload_n 1, 1) := by decide +kernel
theorem dX9_sacks_210 : decode cX9_sacks 210 = .ok (.iaload, 1) := by decide +kernel
theorem dX9_sacks_211 : decode cX9_sacks 211 = .ok (.ireturn, 1) := by decide +kernel
theorem dX9_parties_0 : decode cX9_parties 0 = .ok (.aload_n 0, 1) := by decide +kernel
theorem dX9_parties_1 : decode cX9_parties 1 = .ok (.getfield 154, 3) := by decide +kernel
theorem dX9_parties_4 : decode cX9_parties 4 = .ok (.ifCond .ne 6, 3) := by decide +kernel
theorem dX9_parties_7 : decode cX9_parties 7 = .ok (.ldc 183, 2) := by decide +kernel
theorem dX9_parties_9 : decode cX9_parties 9 = .ok (.ireturn, 1) := by decide +kernel
theorem dX9_parties_10 : decode cX9_parties 10 = .ok (.iload_n 1, 1) := by decide +kernel
theorem dX9_parties_11 : decode cX9_parties 11 = .ok (.i2l, 1) := by decide +kernel
theorem dX9_parties_12 : decode cX9_parties 12 = .ok (.lconst 0, 1) := by decide +kernel
theorem dX9_parties_13 : decode cX9_parties 13 = .ok (.lconst 1, 1) := by decide +kernel
theorem dX9_parties_14 : decode cX9_parties 14 = .ok (.invokestatic 66, 3) := by decide +kernel
theorem dX9_parties_17 : decode cX9_parties 17 = .ok (.ifCond .ne 6, 3) := by decide +kernel
theorem dX9_parties_20 : decode cX9_parties 20 = .ok (.ldc 76, 2) := by decide +kernel
theorem dX9_parties_22 : decode cX9_parties 22 = .ok (.ireturn, 1) := by decide +kernel
theorem dX9_parties_23 : decode cX9_parties 23 = .ok (.iconst 0, 1) := by decide +kernel
theorem dX9_parties_24 : decode cX9_parties 24 = .ok (.istore_n 2, 1) := by decide +kernel
theorem dX9_parties_25 : decode cX9_parties 25 = .ok (.iconst (-1), 1) := by decide +kernel
theorem dX9_parties_26 : decode cX9_parties 26 = .ok (.istore_n 3, 1) := by decide +kernel
theorem dX9_parties_27 : decode cX9_parties 27 = .ok (.iconst 0, 1) := by decide +kernel
theorem dX9_parties_28 : decode cX9_parties 28 = .ok (.istore 4, 2) := by decide +kernel
theorem dX9_parties_30 : decode cX9_parties 30 = .ok (.iload 4, 2) := by decide +kernel
theorem dX9_parties_32 : decode cX9_parties 32 = .ok (.aload_n 0, 1) := by decide +kernel
theorem dX9_parties_33 : decode cX9_parties 33 = .ok (.invokevirtual 187, 3) := by decide +kernel
theorem dX9_parties_36 : decode cX9_parties 36 = .ok (.if_icmp .gt 90, 3) := by decide +kernel
theorem dX9_parties_39 : decode cX9_parties 39 = .ok (.aload_n 0, 1) := by decide +kernel
theorem dX9_parties_40 : decode cX9_parties 40 = .ok (.invokevirtual 203, 3) := by decide +kernel
theorem dX9_parties_43 : decode cX9_parties 43 = .ok (.aload_n 0, 1) := by decide +kernel
theorem dX9_parties_44 : decode cX9_parties 44 = .ok (.iload 4, 2) := by decide +kernel
theorem dX9_parties_46 : decode cX9_parties 46 = .ok (.invokevirtual 206, 3) := by decide +kernel
theorem dX9_parties_49 : decode cX9_parties 49 = .ok (.istore 5, 2) := by decide +kernel
theorem dX9_parties_51 : decode cX9_parties 51 = .ok (.aload_n 0, 1) := by decide +kernel
theorem dX9_parties_52 : decode cX9_parties 52 = .ok (.invokevirtual 209, 3) := by decide +kernel
theorem dX9_parties_55 : decode cX9_parties 55 = .ok (.aload_n 0, 1) := by decide +kernel
theorem dX9_parties_56 : decode cX9_parties 56 = .ok (.aload_n 0, 1) := by decide +kernel
theorem dX9_parties_57 : decode cX9_parties 57 = .ok (.invokevirtual 187, 3) := by decide +kernel
theorem dX9_parties_60 : decode cX9_parties 60 = .ok (.iload 4, 2) := by decide +kernel
theorem dX9_parties_62 : decode cX9_parties 62 = .ok (.iconst (-1), 1) := by decide +kernel
theorem dX9_parties_63 : decode cX9_parties 63 = .ok (.ixor, 1) := by decide +kernel
theorem dX9_parties_64 : decode cX9_parties 64 = .ok (.iand, 1) := by decide +kernel
theorem dX9_parties_65 : decode cX9_parties 65 = .ok (.invokevirtual 206, 3) := by decide +kernel
theorem dX9_parties_68 : decode cX9_parties 68 = .ok (.istore 6, 2) := by decide +kernel
theorem dX9_parties_70 : decode cX9_parties 70 = .ok (.aload_n 0, 1) := by decide +kernel
theorem dX9_parties_71 : decode cX9_parties 71 = .ok (.invokevirtual 209, 3) := by decide +kernel
theorem dX9_parties_74 : decode cX9_parties 74 = .ok (.iload 5, 2) := by decide +kernel
theorem dX9_parties_76 : decode cX9_parties 76 = .ok (.iload 6, 2) := by decide +kernel
theorem dX9_parties_78 : decode cX9_parties 78 = .ok (.if_icmp .le 8, 3) := by decide +kernel
theorem dX9_parties_81 : decode cX9_parties 81 = .ok (.iload 5, 2) := by decide +kernel
theorem dX9_parties_83 : decode cX9_parties 83 = .ok (.goto 5, 3) := by decide +kernel
theorem dX9_parties_86 : decode cX9_parties 86 = .ok (.iload 6, 2) := by decide +kernel
theorem dX9_parties_88 : decode cX9_parties 88 = .ok (.istore 7, 2) := by decide +kernel
theorem dX9_parties_90 : decode cX9_parties 90 = .ok (.iload_n 3, 1) := by decide +kernel
theorem dX9_parties_91 : decode cX9_parties 91 = .ok (.ifCond .lt 9, 3) := by decide +kernel
theorem dX9_parties_94 : decode cX9_parties 94 = .ok (.iload 7, 2) := by decide +kernel
theorem dX9_parties_96 : decode cX9_parties 96 = .ok (.iload_n 3, 1) := by decide +kernel
theorem dX9_parties_97 : decode cX9_parties 97 = .ok (.if_icmp .ge 8, 3) := by decide +kernel
theorem dX9_parties_100 : decode cX9_parties 100 = .ok (.iload 4, 2) := by decide +kernel
theorem dX9_parties_102 : decode cX9_parties 102 = .ok (.goto 4, 3) := by decide +kernel
theorem dX9_parties_105 : decode cX9_parties 105 = .ok (.iload_n 2, 1) := by decide +kernel
theorem dX9_parties_106 : decode cX9_parties 106 = .ok (.istore_n 2, 1) := by decide +kernel
theorem dX9_parties_107 : decode cX9_parties 107 = .ok (.iload_n 2, 1) := by decide +kernel
theorem dX9_parties_108 : decode cX9_parties 108 = .ok (.iload 4, 2) := by decide +kernel
theorem dX9_parties_110 : decode cX9_parties 110 = .ok (.if_icmp .ne 8, 3) := by decide +kernel
theorem dX9_parties_113 : decode cX9_parties 113 = .ok (.iload 7, 2) := by decide +kernel
theorem dX9_parties_115 : decode cX9_parties 115 = .ok (.goto 4, 3) := by decide +kernel
theorem dX9_parties_118 : decode cX9_parties 118 = .ok (.iload_n 3, 1) := by decide +kernel
theorem dX9_parties_119 : decode cX9_parties 119 = .ok (.istore_n 3, 1) := by decide +kernel
theorem dX9_parties_120 : decode cX9_parties 120 = .ok (.iinc 4 2, 3) := by decide +kernel
theorem dX9_parties_123 : decode cX9_parties 123 = .ok (.goto (-93), 3) := by decide +kernel
theorem dX9_parties_126 : decode cX9_parties 126 = .ok (.iload_n 1, 1) := by decide +kernel
theorem dX9_parties_127 : decode cX9_parties 127 = .ok (.ifCond .ne 7, 3) := by decide +kernel
theorem dX9_parties_130 : decode cX9_parties 130 = .ok (.iload_n 2, 1) := by decide +kernel
theorem dX9_parties_131 : decode cX9_parties 131 = .ok (.goto 4, 3) := by decide +kernel
theorem dX9_parties_134 : decode cX9_parties 134 = .ok (.iload_n 3, 1) := by decide +kernel
theorem dX9_parties_135 : decode cX9_parties 135 = .ok (.ireturn, 1) := by decide +kernel
theorem dX9_isBack_0 : decode cX9_isBack 0 = .ok (.aload_n 0, 1) := by decide +kernel
theorem dX9_isBack_1 : decode cX9_isBack 1 = .ok (.getfield 19, 3) := by decide +kernel
theorem dX9_isBack_4 : decode cX9_isBack 4 = .ok (.bipush 9, 2) := by decide +kernel
theorem dX9_isBack_6 : decode cX9_isBack 6 = .ok (.iaload, 1) := by decide +kernel
theorem dX9_isBack_7 : decode cX9_isBack 7 = .ok (.iconst 1, 1) := by decide +kernel
theorem dX9_isBack_8 : decode cX9_isBack 8 = .ok (.isub, 1) := by decide +kernel
theorem dX9_isBack_9 : decode cX9_isBack 9 = .ok (.istore_n 1, 1) := by decide +kernel
theorem dX9_isBack_10 : decode cX9_isBack 10 = .ok (.iload_n 1, 1) := by decide +kernel
theorem dX9_isBack_11 : decode cX9_isBack 11 = .ok (.ifCond .lt 14, 3) := by decide +kernel
theorem dX9_isBack_14 : decode cX9_isBack 14 = .ok (.aload_n 0, 1) := by decide +kernel
theorem dX9_isBack_15 : decode cX9_isBack 15 = .ok (.iload_n 1, 1) := by decide +kernel
theorem dX9_isBack_16 : decode cX9_isBack 16 = .ok (.invokevirtual 176, 3) := by decide +kernel
theorem dX9_isBack_19 : decode cX9_isBack 19 = .ok (.iinc 1 (-1), 3) := by decide +kernel
theorem dX9_isBack_22 : decode cX9_isBack 22 = .ok (.goto (-12), 3) := by decide +kernel
theorem dX9_isBack_25 : decode cX9_isBack 25 = .ok (.iconst 1, 1) := by decide +kernel
theorem dX9_isBack_26 : decode cX9_isBack 26 = .ok (.istore_n 1, 1) := by decide +kernel
theorem dX9_isBack_27 : decode cX9_isBack 27 = .ok (.iconst 0, 1) := by decide +kernel
theorem dX9_isBack_28 : decode cX9_isBack 28 = .ok (.istore_n 2, 1) := by decide +kernel
theorem dX9_isBack_29 : decode cX9_isBack 29 = .ok (.iload_n 2, 1) := by decide +kernel
theorem dX9_isBack_30 : decode cX9_isBack 30 = .ok (.aload_n 0, 1) := by decide +kernel
theorem dX9_isBack_31 : decode cX9_isBack 31 = .ok (.getfield 19, 3) := by decide +kernel
theorem dX9_isBack_34 : decode cX9_isBack 34 = .ok (.bipush 13, 2) := by decide +kernel
theorem dX9_isBack_36 : decode cX9_isBack 36 = .ok (.iaload, 1) := by decide +kernel
theorem dX9_isBack_37 : decode cX9_isBack 37 = .ok (.if_icmp .ge 38, 3) := by decide +kernel
theorem dX9_isBack_40 : decode cX9_isBack 40 = .ok (.iload_n 1, 1) := by decide +kernel
theorem dX9_isBack_41 : decode cX9_isBack 41 = .ok (.ifCond .eq 26, 3) := by decide +kernel
theorem dX9_isBack_44 : decode cX9_isBack 44 = .ok (.aload_n 0, 1) := by decide +kernel
theorem dX9_isBack_45 : decode cX9_isBack 45 = .ok (.getfield 19, 3) := by decide +kernel
theorem dX9_isBack_48 : decode cX9_isBack 48 = .ok (.bipush 38, 2) := by decide +kernel
theorem dX9_isBack_50 : decode cX9_isBack 50 = .ok (.iload_n 2, 1) := by decide +kernel
theorem dX9_isBack_51 : decode cX9_isBack 51 = .ok (.iadd, 1) := by decide +kernel
theorem dX9_isBack_52 : decode cX9_isBack 52 = .ok (.iaload, 1) := by decide +kernel
theorem dX9_isBack_53 : decode cX9_isBack 53 = .ok (.aload_n 0, 1) := by decide +kernel
theorem dX9_isBack_54 : decode cX9_isBack 54 = .ok (.getfield 19, 3) := by decide +kernel
theorem dX9_isBack_57 : decode cX9_isBack 57 = .ok (.bipush 12, 2) := by decide +kernel
theorem dX9_isBack_59 : decode cX9_isBack 59 = .ok (.iaload, 1) := by decide +kernel
theorem dX9_isBack_60 : decode cX9_isBack 60 = .ok (.if_icmp .gt 7, 3) := by decide +kernel
theorem dX9_isBack_63 : decode cX9_isBack 63 = .ok (.iconst 1, 1) := by decide +kernel
theorem dX9_isBack_64 : decode cX9_isBack 64 = .ok (.goto 4, 3) := by decide +kernel
theorem dX9_isBack_67 : decode cX9_isBack 67 = .ok (.iconst 0, 1) := by decide +kernel
theorem dX9_isBack_68 : decode cX9_isBack 68 = .ok (.istore_n 1, 1) := by decide +kernel
theorem dX9_isBack_69 : decode cX9_isBack 69 = .ok (.iinc 2 1, 3) := by decide +kernel
theorem dX9_isBack_72 : decode cX9_isBack 72 = .ok (.goto (-43), 3) := by decide +kernel
theorem dX9_isBack_75 : decode cX9_isBack 75 = .ok (.iload_n 1, 1) := by decide +kernel
theorem dX9_isBack_76 : decode cX9_isBack 76 = .ok (.ireturn, 1) := by decide +kernel
theorem dX9_turn_0 : decode cX9_turn 0 = .ok (.aload_n 0, 1) := by decide +kernel
theorem dX9_turn_1 : decode cX9_turn 1 = .ok (.getfield 154, 3) := by decide +kernel
theorem dX9_turn_4 : decode cX9_turn 4 = .ok (.ifCond .ne 6, 3) := by decide +kernel
theorem dX9_turn_7 : decode cX9_turn 7 = .ok (.ldc 183, 2) := by decide +kernel
theorem dX9_turn_9 : decode cX9_turn 9 = .ok (.ireturn, 1) := by decide +kernel
theorem dX9_turn_10 : decode cX9_turn 10 = .ok (.ldc 200, 2) := by decide +kernel
theorem dX9_turn_12 : decode cX9_turn 12 = .ok (.istore_n 1, 1) := by decide +kernel
theorem dX9_turn_13 : decode cX9_turn 13 = .ok (.aload_n 0, 1) := by decide +kernel
theorem dX9_turn_14 : decode cX9_turn 14 = .ok (.aload_n 0, 1) := by decide +kernel
theorem dX9_turn_15 : decode cX9_turn 15 = .ok (.invokevirtual 187, 3) := by decide +kernel
theorem dX9_turn_18 : decode cX9_turn 18 = .ok (.putfield 161, 3) := by decide +kernel
theorem dX9_turn_21 : decode cX9_turn 21 = .ok (.aload_n 0, 1) := by decide +kernel
theorem dX9_turn_22 : decode cX9_turn 22 = .ok (.getfield 19, 3) := by decide +kernel
theorem dX9_turn_25 : decode cX9_turn 25 = .ok (.bipush 9, 2) := by decide +kernel
theorem dX9_turn_27 : decode cX9_turn 27 = .ok (.iaload, 1) := by decide +kernel
theorem dX9_turn_28 : decode cX9_turn 28 = .ok (.istore_n 2, 1) := by decide +kernel
theorem dX9_turn_29 : decode cX9_turn 29 = .ok (.iload_n 2, 1) := by decide +kernel
theorem dX9_turn_30 : decode cX9_turn 30 = .ok (.istore_n 3, 1) := by decide +kernel
theorem dX9_turn_31 : decode cX9_turn 31 = .ok (.iload_n 3, 1) := by decide +kernel
theorem dX9_turn_32 : decode cX9_turn 32 = .ok (.aload_n 0, 1) := by decide +kernel
theorem dX9_turn_33 : decode cX9_turn 33 = .ok (.getfield 19, 3) := by decide +kernel
theorem dX9_turn_36 : decode cX9_turn 36 = .ok (.bipush 8, 2) := by decide +kernel
theorem dX9_turn_38 : decode cX9_turn 38 = .ok (.iaload, 1) := by decide +kernel
theorem dX9_turn_39 : decode cX9_turn 39 = .ok (.if_icmp .gt 48, 3) := by decide +kernel
theorem dX9_turn_42 : decode cX9_turn 42 = .ok (.aload_n 0, 1) := by decide +kernel
theorem dX9_turn_43 : decode cX9_turn 43 = .ok (.invokevirtual 203, 3) := by decide +kernel
theorem dX9_turn_46 : decode cX9_turn 46 = .ok (.aload_n 0, 1) := by decide +kernel
theorem dX9_turn_47 : decode cX9_turn 47 = .ok (.getfield 19, 3) := by decide +kernel
theorem dX9_turn_50 : decode cX9_turn 50 = .ok (.bipush 9, 2) := by decide +kernel
theorem dX9_turn_52 : decode cX9_turn 52 = .ok (.iaload, 1) := by decide +kernel
theorem dX9_turn_53 : decode cX9_turn 53 = .ok (.iload_n 3, 1) := by decide +kernel
theorem dX9_turn_54 : decode cX9_turn 54 = .ok (.if_icmp .ge 10, 3) := by decide +kernel
theorem dX9_turn_57 : decode cX9_turn 57 = .ok (.aload_n 0, 1) := by decide +kernel
theorem dX9_turn_58 : decode cX9_turn 58 = .ok (.invokevirtual 190, 3) := by decide +kernel
theorem dX9_turn_61 : decode cX9_turn 61 = .ok (.goto (-15), 3) := by decide +kernel
theorem dX9_turn_64 : decode cX9_turn 64 = .ok (.aload_n 0, 1) := by decide +kernel
theorem dX9_turn_65 : decode cX9_turn 65 = .ok (.invokevirtual 228, 3) := by decide +kernel
theorem dX9_turn_68 : decode cX9_turn 68 = .ok (.ifCond .eq 7, 3) := by decide +kernel
theorem dX9_turn_71 : decode cX9_turn 71 = .ok (.iload_n 3, 1) := by decide +kernel
theorem dX9_turn_72 : decode cX9_turn 72 = .ok (.goto 4, 3) := by decide +kernel
theorem dX9_turn_75 : decode cX9_turn 75 = .ok (.iload_n 1, 1) := by decide +kernel
theorem dX9_turn_76 : decode cX9_turn 76 = .ok (.istore_n 1, 1) := by decide +kernel
theorem dX9_turn_77 : decode cX9_turn 77 = .ok (.aload_n 0, 1) := by decide +kernel
theorem dX9_turn_78 : decode cX9_turn 78 = .ok (.invokevirtual 209, 3) := by decide +kernel
theorem dX9_turn_81 : decode cX9_turn 81 = .ok (.iinc 3 1, 3) := by decide +kernel
theorem dX9_turn_84 : decode cX9_turn 84 = .ok (.goto (-53), 3) := by decide +kernel
theorem dX9_turn_87 : decode cX9_turn 87 = .ok (.iload_n 1, 1) := by decide +kernel
theorem dX9_turn_88 : decode cX9_turn 88 = .ok (.ireturn, 1) := by decide +kernel
theorem dX9_fits_0 : decode cX9_fits 0 = .ok (.aload_n 0, 1) := by decide +kernel
theorem dX9_fits_1 : decode cX9_fits 1 = .ok (.iload_n 1, 1) := by decide +kernel
theorem dX9_fits_2 : decode cX9_fits 2 = .ok (.invokevirtual 197, 3) := by decide +kernel
theorem dX9_fits_5 : decode cX9_fits 5 = .ok (.ifCond .eq 34, 3) := by decide +kernel
theorem dX9_fits_8 : decode cX9_fits 8 = .ok (.iload_n 2, 1) := by decide +kernel
theorem dX9_fits_9 : decode cX9_fits 9 = .ok (.invokestatic 70, 3) := by decide +kernel
theorem dX9_fits_12 : decode cX9_fits 12 = .ok (.ifCond .eq 27, 3) := by decide +kernel
theorem dX9_fits_15 : decode cX9_fits 15 = .ok (.iload 4, 2) := by decide +kernel
theorem dX9_fits_17 : decode cX9_fits 17 = .ok (.i2l, 1) := by decide +kernel
theorem dX9_fits_18 : decode cX9_fits 18 = .ok (.lconst 1, 1) := by decide +kernel
theorem dX9_fits_19 : decode cX9_fits 19 = .ok (.ldc2_w 231, 3) := by decide +kernel
theorem dX9_fits_22 : decode cX9_fits 22 = .ok (.invokestatic 66, 3) := by decide +kernel
theorem dX9_fits_25 : decode cX9_fits 25 = .ok (.ifCond .eq 14, 3) := by decide +kernel
theorem dX9_fits_28 : decode cX9_fits 28 = .ok (.iload 5, 2) := by decide +kernel
theorem dX9_fits_30 : decode cX9_fits 30 = .ok (.i2l, 1) := by decide +kernel
theorem dX9_fits_31 : decode cX9_fits 31 = .ok (.lconst 0, 1) := by decide +kernel
theorem dX9_fits_32 : decode cX9_fits 32 = .ok (.lconst 1, 1) := by decide +kernel
theorem dX9_fits_33 : decode cX9_fits 33 = .ok (.invokestatic 66, 3) := by decide +kernel
theorem dX9_fits_36 : decode cX9_fits 36 = .ok (.ifCond .ne 6, 3) := by decide +kernel
theorem dX9_fits_39 : decode cX9_fits 39 = .ok (.ldc 76, 2) := by decide +kernel
theorem dX9_fits_41 : decode cX9_fits 41 = .ok (.ireturn, 1) := by decide +kernel
theorem dX9_fits_42 : decode cX9_fits 42 = .ok (.iload 4, 2) := by decide +kernel
theorem dX9_fits_44 : decode cX9_fits 44 = .ok (.aload_n 0, 1) := by decide +kernel
theorem dX9_fits_45 : decode cX9_fits 45 = .ok (.getfield 19, 3) := by decide +kernel
theorem dX9_fits_48 : decode cX9_fits 48 = .ok (.bipush 8, 2) := by decide +kernel
theorem dX9_fits_50 : decode cX9_fits 50 = .ok (.iaload, 1) := by decide +kernel
theorem dX9_fits_51 : decode cX9_fits 51 = .ok (.aload_n 0, 1) := by decide +kernel
theorem dX9_fits_52 : decode cX9_fits 52 = .ok (.getfield 19, 3) := by decide +kernel
theorem dX9_fits_55 : decode cX9_fits 55 = .ok (.bipush 9, 2) := by decide +kernel
theorem dX9_fits_57 : decode cX9_fits 57 = .ok (.iaload, 1) := by decide +kernel
theorem dX9_fits_58 : decode cX9_fits 58 = .ok (.isub, 1) := by decide +kernel
theorem dX9_fits_59 : decode cX9_fits 59 = .ok (.if_icmp .le 6, 3) := by decide +kernel
theorem dX9_fits_62 : decode cX9_fits 62 = .ok (.ldc 183, 2) := by decide +kernel
theorem dX9_fits_64 : decode cX9_fits 64 = .ok (.ireturn, 1) := by decide +kernel
theorem dX9_fits_65 : decode cX9_fits 65 = .ok (.aload_n 0, 1) := by decide +kernel
theorem dX9_fits_66 : decode cX9_fits 66 = .ok (.getfield 13, 3) := by decide +kernel
theorem dX9_fits_69 : decode cX9_fits 69 = .ok (.iload_n 2, 1) := by decide +kernel
theorem dX9_fits_70 : decode cX9_fits 70 = .ok (.iaload, 1) := by decide +kernel
theorem dX9_fits_71 : decode cX9_fits 71 = .ok (.ifCond .ge 9, 3) := by decide +kernel
theorem dX9_fits_74 : decode cX9_fits 74 = .ok (.aload_n 0, 1) := by decide +kernel
theorem dX9_fits_75 : decode cX9_fits 75 = .ok (.iconst 1, 1) := by decide +kernel
theorem dX9_fits_76 : decode cX9_fits 76 = .ok (.invokevirtual 77, 3) := by decide +kernel
theorem dX9_fits_79 : decode cX9_fits 79 = .ok (.ireturn, 1) := by decide +kernel
theorem dX9_fits_80 : decode cX9_fits 80 = .ok (.iload_n 3, 1) := by decide +kernel
theorem dX9_fits_81 : decode cX9_fits 81 = .ok (.i2l, 1) := by decide +kernel
theorem dX9_fits_82 : decode cX9_fits 82 = .ok (.lconst 0, 1) := by decide +kernel
theorem dX9_fits_83 : decode cX9_fits 83 = .ok (.aload_n 0, 1) := by decide +kernel
theorem dX9_fits_84 : decode cX9_fits 84 = .ok (.getfield 13, 3) := by decide +kernel
theorem dX9_fits_87 : decode cX9_fits 87 = .ok (.iload_n 2, 1) := by decide +kernel
theorem dX9_fits_88 : decode cX9_fits 88 = .ok (.iaload, 1) := by decide +kernel
theorem dX9_fits_89 : decode cX9_fits 89 = .ok (.iload 4, 2) := by decide +kernel
theorem dX9_fits_91 : decode cX9_fits 91 = .ok (.isub, 1) := by decide +kernel
theorem dX9_fits_92 : decode cX9_fits 92 = .ok (.i2l, 1) := by decide +kernel
theorem dX9_fits_93 : decode cX9_fits 93 = .ok (.invokestatic 66, 3) := by decide +kernel
theorem dX9_fits_96 : decode cX9_fits 96 = .ok (.ifCond .ne 9, 3) := by decide +kernel
theorem dX9_fits_99 : decode cX9_fits 99 = .ok (.aload_n 0, 1) := by decide +kernel
theorem dX9_fits_100 : decode cX9_fits 100 = .ok (.iconst 2, 1) := by decide +kernel
theorem dX9_fits_101 : decode cX9_fits 101 = .ok (.invokevirtual 77, 3) := by decide +kernel
theorem dX9_fits_104 : decode cX9_fits 104 = .ok (.ireturn, 1) := by decide +kernel
theorem dX9_fits_105 : decode cX9_fits 105 = .ok (.iconst 0, 1) := by decide +kernel
theorem dX9_fits_106 : decode cX9_fits 106 = .ok (.istore 6, 2) := by decide +kernel
theorem dX9_fits_108 : decode cX9_fits 108 = .ok (.ldc 200, 2) := by decide +kernel
theorem dX9_fits_110 : decode cX9_fits 110 = .ok (.istore 7, 2) := by decide +kernel
theorem dX9_fits_112 : decode cX9_fits 112 = .ok (.iconst 0, 1) := by decide +kernel
theorem dX9_fits_113 : decode cX9_fits 113 = .ok (.istore 8, 2) := by decide +kernel
theorem dX9_fits_115 : decode cX9_fits 115 = .ok (.iload 8, 2) := by decide +kernel
theorem dX9_fits_117 : decode cX9_fits 117 = .ok (.bipush 93, 2) := by decide +kernel
theorem dX9_fits_119 : decode cX9_fits 119 = .ok (.if_icmp .gt 80, 3) := by decide +kernel
theorem dX9_fits_122 : decode cX9_fits 122 = .ok (.iload 8, 2) := by decide +kernel
theorem dX9_fits_124 : decode cX9_fits 124 = .ok (.bipush 31, 2) := by decide +kernel
theorem dX9_fits_126 : decode cX9_fits 126 = .ok (.if_icmp .ge 8, 3) := by decide +kernel
theorem dX9_fits_129 : decode cX9_fits 129 = .ok (.iload 8, 2) := by decide +kernel
theorem dX9_fits_131 : decode cX9_fits 131 = .ok (.ifCond .ne 62, 3) := by decide +kernel
theorem dX9_fits_134 : decode cX9_fits 134 = .ok (.aload_n 0, 1) := by decide +kernel
theorem dX9_fits_135 : decode cX9_fits 135 = .ok (.iload_n 1, 1) := by decide +kernel
theorem dX9_fits_136 : decode cX9_fits 136 = .ok (.bipush 40, 2) := by decide +kernel
theorem dX9_fits_138 : decode cX9_fits 138 = .ok (.iload_n 2, 1) := by decide +kernel
theorem dX9_fits_139 : decode cX9_fits 139 = .ok (.imul, 1) := by decide +kernel
theorem dX9_fits_140 : decode cX9_fits 140 = .ok (.iload_n 3, 1) := by decide +kernel
theorem dX9_fits_141 : decode cX9_fits 141 = .ok (.iadd, 1) := by decide +kernel
theorem dX9_fits_142 : decode cX9_fits 142 = .ok (.iload 4, 2) := by decide +kernel
theorem dX9_fits_144 : decode cX9_fits 144 = .ok (.iload 8, 2) := by decide +kernel
theorem dX9_fits_146 : decode cX9_fits 146 = .ok (.bipush 31, 2) := by decide +kernel
theorem dX9_fits_148 : decode cX9_fits 148 = .ok (.idiv, 1) := by decide +kernel
theorem dX9_fits_149 : decode cX9_fits 149 = .ok (.iload 8, 2) := by decide +kernel
theorem dX9_fits_151 : decode cX9_fits 151 = .ok (.bipush 31, 2) := by decide +kernel
theorem dX9_fits_153 : decode cX9_fits 153 = .ok (.irem, 1) := by decide +kernel
theorem dX9_fits_154 : decode cX9_fits 154 = .ok (.invokevirtual 233, 3) := by decide +kernel
theorem dX9_fits_157 : decode cX9_fits 157 = .ok (.istore 9, 2) := by decide +kernel
theorem dX9_fits_159 : decode cX9_fits 159 = .ok (.iload 9, 2) := by decide +kernel
theorem dX9_fits_161 : decode cX9_fits 161 = .ok (.ifCond .eq 13, 3) := by decide +kernel
theorem dX9_fits_164 : decode cX9_fits 164 = .ok (.iload 6, 2) := by decide +kernel
theorem dX9_fits_166 : decode cX9_fits 166 = .ok (.ifCond .ne 8, 3) := by decide +kernel
theorem dX9_fits_169 : decode cX9_fits 169 = .ok (.iload 8, 2) := by decide +kernel
theorem dX9_fits_171 : decode cX9_fits 171 = .ok (.goto 5, 3) := by decide +kernel
theorem dX9_fits_174 : decode cX9_fits 174 = .ok (.iload 7, 2) := by decide +kernel
theorem dX9_fits_176 : decode cX9_fits 176 = .ok (.istore 7, 2) := by decide +kernel
theorem dX9_fits_178 : decode cX9_fits 178 = .ok (.iload 6, 2) := by decide +kernel
theorem dX9_fits_180 : decode cX9_fits 180 = .ok (.iload 9, 2) := by decide +kernel
theorem dX9_fits_182 : decode cX9_fits 182 = .ok (.ifCond .eq 7, 3) := by decide +kernel
theorem dX9_fits_185 : decode cX9_fits 185 = .ok (.iconst 1, 1) := by decide +kernel
theorem dX9_fits_186 : decode cX9_fits 186 = .ok (.goto 4, 3) := by decide +kernel
theorem dX9_fits_189 : decode cX9_fits 189 = .ok (.iconst 0, 1) := by decide +kernel
theorem dX9_fits_190 : decode cX9_fits 190 = .ok (.iadd, 1) := by decide +kernel
theorem dX9_fits_191 : decode cX9_fits 191 = .ok (.istore 6, 2) := by decide +kernel
theorem dX9_fits_193 : decode cX9_fits 193 = .ok (.iinc 8 1, 3) := by decide +kernel
theorem dX9_fits_196 : decode cX9_fits 196 = .ok (.goto (-81), 3) := by decide +kernel
theorem dX9_fits_199 : decode cX9_fits 199 = .ok (.aload_n 0, 1) := by decide +kernel
theorem dX9_fits_200 : decode cX9_fits 200 = .ok (.iload 5, 2) := by decide +kernel
theorem dX9_fits_202 : decode cX9_fits 202 = .ok (.ifCond .ne 8, 3) := by decide +kernel
theorem dX9_fits_205 : decode cX9_fits 205 = .ok (.iload 6, 2) := by decide +kernel
theorem dX9_fits_207 : decode cX9_fits 207 = .ok (.goto 5, 3) := by decide +kernel
theorem dX9_fits_210 : decode cX9_fits 210 = .ok (.iload 7, 2) := by decide +kernel
theorem dX9_fits_212 : decode cX9_fits 212 = .ok (.invokevirtual 81, 3) := by decide +kernel
theorem dX9_fits_215 : decode cX9_fits 215 = .ok (.ireturn, 1) := by decide +kernel
theorem dX9_fitsBy_0 : decode cX9_fitsBy 0 = .ok (.aload_n 0, 1) := by decide +kernel
theorem dX9_fitsBy_1 : decode cX9_fitsBy 1 = .ok (.invokevirtual 203, 3) := by decide +kernel
theorem dX9_fitsBy_4 : decode cX9_fitsBy 4 = .ok (.aload_n 0, 1) := by decide +kernel
theorem dX9_fitsBy_5 : decode cX9_fitsBy 5 = .ok (.getfield 19, 3) := by decide +kernel
theorem dX9_fitsBy_8 : decode cX9_fitsBy 8 = .ok (.bipush 10, 2) := by decide +kernel
theorem dX9_fitsBy_10 : decode cX9_fitsBy 10 = .ok (.iload 4, 2) := by decide +kernel
theorem dX9_fitsBy_12 : decode cX9_fitsBy 12 = .ok (.iastore, 1) := by decide +kernel
theorem dX9_fitsBy_13 : decode cX9_fitsBy 13 = .ok (.aload_n 0, 1) := by decide +kernel
theorem dX9_fitsBy_14 : decode cX9_fitsBy 14 = .ok (.getfield 19, 3) := by decide +kernel
theorem dX9_fitsBy_17 : decode cX9_fitsBy 17 = .ok (.bipush 11, 2) := by decide +kernel
theorem dX9_fitsBy_19 : decode cX9_fitsBy 19 = .ok (.iload 5, 2) := by decide +kernel
theorem dX9_fitsBy_21 : decode cX9_fitsBy 21 = .ok (.iastore, 1) := by decide +kernel
theorem dX9_fitsBy_22 : decode cX9_fitsBy 22 = .ok (.aload_n 0, 1) := by decide +kernel
theorem dX9_fitsBy_23 : decode cX9_fitsBy 23 = .ok (.aload_n 0, 1) := by decide +kernel
theorem dX9_fitsBy_24 : decode cX9_fitsBy 24 = .ok (.invokevirtual 187, 3) := by decide +kernel
theorem dX9_fitsBy_27 : decode cX9_fitsBy 27 = .ok (.putfield 161, 3) := by decide +kernel
theorem dX9_fitsBy_30 : decode cX9_fitsBy 30 = .ok (.iconst 1, 1) := by decide +kernel
theorem dX9_fitsBy_31 : decode cX9_fitsBy 31 = .ok (.istore 6, 2) := by decide +kernel
theorem dX9_fitsBy_33 : decode cX9_fitsBy 33 = .ok (.iconst 0, 1) := by decide +kernel
theorem dX9_fitsBy_34 : decode cX9_fitsBy 34 = .ok (.istore 7, 2) := by decide +kernel
theorem dX9_fitsBy_36 : decode cX9_fitsBy 36 = .ok (.iload 7, 2) := by decide +kernel
theorem dX9_fitsBy_38 : decode cX9_fitsBy 38 = .ok (.iload_n 3, 1) := by decide +kernel
theorem dX9_fitsBy_39 : decode cX9_fitsBy 39 = .ok (.if_icmp .ge 63, 3) := by decide +kernel
theorem dX9_fitsBy_42 : decode cX9_fitsBy 42 = .ok (.aload_n 0, 1) := by decide +kernel
theorem dX9_fitsBy_43 : decode cX9_fitsBy 43 = .ok (.getfield 19, 3) := by decide +kernel
theorem dX9_fitsBy_46 : decode cX9_fitsBy 46 = .ok (.bipush 38, 2) := by decide +kernel
theorem dX9_fitsBy_48 : decode cX9_fitsBy 48 = .ok (.iload_n 1, 1) := by decide +kernel
theorem dX9_fitsBy_49 : decode cX9_fitsBy 49 = .ok (.iadd, 1) := by decide +kernel
theorem dX9_fitsBy_50 : decode cX9_fitsBy 50 = .ok (.iaload, 1) := by decide +kernel
theorem dX9_fitsBy_51 : decode cX9_fitsBy 51 = .ok (.aload_n 0, 1) := by decide +kernel
theorem dX9_fitsBy_52 : decode cX9_fitsBy 52 = .ok (.iload_n 1, 1) := by decide +kernel
theorem dX9_fitsBy_53 : decode cX9_fitsBy 53 = .ok (.aload_n 0, 1) := by decide +kernel
theorem dX9_fitsBy_54 : decode cX9_fitsBy 54 = .ok (.getfield 19, 3) := by decide +kernel
theorem dX9_fitsBy_57 : decode cX9_fitsBy 57 = .ok (.bipush 9, 2) := by decide +kernel
theorem dX9_fitsBy_59 : decode cX9_fitsBy 59 = .ok (.iaload, 1) := by decide +kernel
theorem dX9_fitsBy_60 : decode cX9_fitsBy 60 = .ok (.invokevirtual 170, 3) := by decide +kernel
theorem dX9_fitsBy_63 : decode cX9_fitsBy 63 = .ok (.iadd, 1) := by decide +kernel
theorem dX9_fitsBy_64 : decode cX9_fitsBy 64 = .ok (.istore 8, 2) := by decide +kernel
theorem dX9_fitsBy_66 : decode cX9_fitsBy 66 = .ok (.iload 6, 2) := by decide +kernel
theorem dX9_fitsBy_68 : decode cX9_fitsBy 68 = .ok (.ifCond .eq 21, 3) := by decide +kernel
theorem dX9_fitsBy_71 : decode cX9_fitsBy 71 = .ok (.iload 8, 2) := by decide +kernel
theorem dX9_fitsBy_73 : decode cX9_fitsBy 73 = .ok (.aload_n 0, 1) := by decide +kernel
theorem dX9_fitsBy_74 : decode cX9_fitsBy 74 = .ok (.getfield 16, 3) := by decide +kernel
theorem dX9_fitsBy_77 : decode cX9_fitsBy 77 = .ok (.iload_n 2, 1) := by decide +kernel
theorem dX9_fitsBy_78 : decode cX9_fitsBy 78 = .ok (.iload 7, 2) := by decide +kernel
theorem dX9_fitsBy_80 : decode cX9_fitsBy 80 = .ok (.iadd, 1) := by decide +kernel
theorem dX9_fitsBy_81 : decode cX9_fitsBy 81 = .ok (.iaload, 1) := by decide +kernel
theorem dX9_fitsBy_82 : decode cX9_fitsBy 82 = .ok (.if_icmp .ne 7, 3) := by decide +kernel
theorem dX9_fitsBy_85 : decode cX9_fitsBy 85 = .ok (.iconst 1, 1) := by decide +kernel
theorem dX9_fitsBy_86 : decode cX9_fitsBy 86 = .ok (.goto 4, 3) := by decide +kernel
theorem dX9_fitsBy_89 : decode cX9_fitsBy 89 = .ok (.iconst 0, 1) := by decide +kernel
theorem dX9_fitsBy_90 : decode cX9_fitsBy 90 = .ok (.istore 6, 2) := by decide +kernel
theorem dX9_fitsBy_92 : decode cX9_fitsBy 92 = .ok (.aload_n 0, 1) := by decide +kernel
theorem dX9_fitsBy_93 : decode cX9_fitsBy 93 = .ok (.invokevirtual 190, 3) := by decide +kernel
theorem dX9_fitsBy_96 : decode cX9_fitsBy 96 = .ok (.iinc 7 1, 3) := by decide +kernel
theorem dX9_fitsBy_99 : decode cX9_fitsBy 99 = .ok (.goto (-63), 3) := by decide +kernel
theorem dX9_fitsBy_102 : decode cX9_fitsBy 102 = .ok (.aload_n 0, 1) := by decide +kernel
theorem dX9_fitsBy_103 : decode cX9_fitsBy 103 = .ok (.invokevirtual 209, 3) := by decide +kernel
theorem dX9_fitsBy_106 : decode cX9_fitsBy 106 = .ok (.iload 6, 2) := by decide +kernel
theorem dX9_fitsBy_108 : decode cX9_fitsBy 108 = .ok (.ireturn, 1) := by decide +kernel
theorem dX9_image_0 : decode cX9_image 0 = .ok (.iload_n 1, 1) := by decide +kernel
theorem dX9_image_1 : decode cX9_image 1 = .ok (.i2l, 1) := by decide +kernel
theorem dX9_image_2 : decode cX9_image 2 = .ok (.lconst 0, 1) := by decide +kernel
theorem dX9_image_3 : decode cX9_image 3 = .ok (.lconst 1, 1) := by decide +kernel
theorem dX9_image_4 : decode cX9_image 4 = .ok (.invokestatic 66, 3) := by decide +kernel
theorem dX9_image_7 : decode cX9_image 7 = .ok (.ifCond .ne 6, 3) := by decide +kernel
theorem dX9_image_10 : decode cX9_image 10 = .ok (.ldc 76, 2) := by decide +kernel
theorem dX9_image_12 : decode cX9_image 12 = .ok (.ireturn, 1) := by decide +kernel
theorem dX9_image_13 : decode cX9_image 13 = .ok (.aload_n 0, 1) := by decide +kernel
theorem dX9_image_14 : decode cX9_image 14 = .ok (.getfield 154, 3) := by decide +kernel
theorem dX9_image_17 : decode cX9_image 17 = .ok (.ifCond .ne 6, 3) := by decide +kernel
theorem dX9_image_20 : decode cX9_image 20 = .ok (.ldc 183, 2) := by decide +kernel
theorem dX9_image_22 : decode cX9_image 22 = .ok (.ireturn, 1) := by decide +kernel
theorem dX9_image_23 : decode cX9_image 23 = .ok (.iconst 0, 1) := by decide +kernel
theorem dX9_image_24 : decode cX9_image 24 = .ok (.istore_n 2, 1) := by decide +kernel
theorem dX9_image_25 : decode cX9_image 25 = .ok (.iload_n 2, 1) := by decide +kernel
theorem dX9_image_26 : decode cX9_image 26 = .ok (.bipush 56, 2) := by decide +kernel
theorem dX9_image_28 : decode cX9_image 28 = .ok (.if_icmp .ge 26, 3) := by decide +kernel
theorem dX9_image_31 : decode cX9_image 31 = .ok (.aload_n 0, 1) := by decide +kernel
theorem dX9_image_32 : decode cX9_image 32 = .ok (.getfield 53, 3) := by decide +kernel
theorem dX9_image_35 : decode cX9_image 35 = .ok (.bipush 56, 2) := by decide +kernel
theorem dX9_image_37 : decode cX9_image 37 = .ok (.iload_n 1, 1) := by decide +kernel
theorem dX9_image_38 : decode cX9_image 38 = .ok (.imul, 1) := by decide +kernel
theorem dX9_image_39 : decode cX9_image 39 = .ok (.iload_n 2, 1) := by decide +kernel
theorem dX9_image_40 : decode cX9_image 40 = .ok (.iadd, 1) := by decide +kernel
theorem dX9_image_41 : decode cX9_image 41 = .ok (.aload_n 0, 1) := by decide +kernel
theorem dX9_image_42 : decode cX9_image 42 = .ok (.getfield 19, 3) := by decide +kernel
theorem dX9_image_45 : decode cX9_image 45 = .ok (.iload_n 2, 1) := by decide +kernel
theorem dX9_image_46 : decode cX9_image 46 = .ok (.iaload, 1) := by decide +kernel
theorem dX9_image_47 : decode cX9_image 47 = .ok (.iastore, 1) := by decide +kernel
theorem dX9_image_48 : decode cX9_image 48 = .ok (.iinc 2 1, 3) := by decide +kernel
theorem dX9_image_51 : decode cX9_image 51 = .ok (.goto (-26), 3) := by decide +kernel
theorem dX9_image_54 : decode cX9_image 54 = .ok (.aload_n 0, 1) := by decide +kernel
theorem dX9_image_55 : decode cX9_image 55 = .ok (.getfield 49, 3) := by decide +kernel
theorem dX9_image_58 : decode cX9_image 58 = .ok (.iload_n 1, 1) := by decide +kernel
theorem dX9_image_59 : decode cX9_image 59 = .ok (.iconst 1, 1) := by decide +kernel
theorem dX9_image_60 : decode cX9_image 60 = .ok (.bastore, 1) := by decide +kernel
theorem dX9_image_61 : decode cX9_image 61 = .ok (.iconst 1, 1) := by decide +kernel
theorem dX9_image_62 : decode cX9_image 62 = .ok (.ireturn, 1) := by decide +kernel
theorem dX9_restore_0 : decode cX9_restore 0 = .ok (.iload_n 1, 1) := by decide +kernel
theorem dX9_restore_1 : decode cX9_restore 1 = .ok (.i2l, 1) := by decide +kernel
theorem dX9_restore_2 : decode cX9_restore 2 = .ok (.lconst 0, 1) := by decide +kernel
theorem dX9_restore_3 : decode cX9_restore 3 = .ok (.lconst 1, 1) := by decide +kernel
theorem dX9_restore_4 : decode cX9_restore 4 = .ok (.invokestatic 66, 3) := by decide +kernel
theorem dX9_restore_7 : decode cX9_restore 7 = .ok (.ifCond .ne 6, 3) := by decide +kernel
theorem dX9_restore_10 : decode cX9_restore 10 = .ok (.ldc 76, 2) := by decide +kernel
theorem dX9_restore_12 : decode cX9_restore 12 = .ok (.ireturn, 1) := by decide +kernel
theorem dX9_restore_13 : decode cX9_restore 13 = .ok (.aload_n 0, 1) := by decide +kernel
theorem dX9_restore_14 : decode cX9_restore 14 = .ok (.getfield 49, 3) := by decide +kernel
theorem dX9_restore_17 : decode cX9_restore 17 = .ok (.iload_n 1, 1) := by decide +kernel
theorem dX9_restore_18 : decode cX9_restore 18 = .ok (.baload, 1) := by decide +kernel
theorem dX9_restore_19 : decode cX9_restore 19 = .ok (.ifCond .ne 6, 3) := by decide +kernel
theorem dX9_restore_22 : decode cX9_restore 22 = .ok (.ldc 183, 2) := by decide +kernel
theorem dX9_restore_24 : decode cX9_restore 24 = .ok (.ireturn, 1) := by decide +kernel
theorem dX9_restore_25 : decode cX9_restore 25 = .ok (.iconst 0, 1) := by decide +kernel
theorem dX9_restore_26 : decode cX9_restore 26 = .ok (.istore_n 2, 1) := by decide +kernel
theorem dX9_restore_27 : decode cX9_restore 27 = .ok (.iload_n 2, 1) := by decide +kernel
theorem dX9_restore_28 : decode cX9_restore 28 = .ok (.bipush 56, 2) := by decide +kernel
theorem dX9_restore_30 : decode cX9_restore 30 = .ok (.if_icmp .ge 26, 3) := by decide +kernel
theorem dX9_restore_33 : decode cX9_restore 33 = .ok (.aload_n 0, 1) := by decide +kernel
theorem dX9_restore_34 : decode cX9_restore 34 = .ok (.getfield 19, 3) := by decide +kernel
theorem dX9_restore_37 : decode cX9_restore 37 = .ok (.iload_n 2, 1) := by decide +kernel
theorem dX9_restore_38 : decode cX9_restore 38 = .ok (.aload_n 0, 1) := by decide +kernel
theorem dX9_restore_39 : decode cX9_restore 39 = .ok (.getfield 53, 3) := by decide +kernel
theorem dX9_restore_42 : decode cX9_restore 42 = .ok (.bipush 56, 2) := by decide +kernel
theorem dX9_restore_44 : decode cX9_restore 44 = .ok (.iload_n 1, 1) := by decide +kernel
theorem dX9_restore_45 : decode cX9_restore 45 = .ok (.imul, 1) := by decide +kernel
theorem dX9_restore_46 : decode cX9_restore 46 = .ok (.iload_n 2, 1) := by decide +kernel
theorem dX9_restore_47 : decode cX9_restore 47 = .ok (.iadd, 1) := by decide +kernel
theorem dX9_restore_48 : decode cX9_restore 48 = .ok (.iaload, 1) := by decide +kernel
theorem dX9_restore_49 : decode cX9_restore 49 = .ok (.iastore, 1) := by decide +kernel
theorem dX9_restore_50 : decode cX9_restore 50 = .ok (.iinc 2 1, 3) := by decide +kernel
theorem dX9_restore_53 : decode cX9_restore 53 = .ok (.goto (-26), 3) := by decide +kernel
theorem dX9_restore_56 : decode cX9_restore 56 = .ok (.aload_n 0, 1) := by decide +kernel
theorem dX9_restore_57 : decode cX9_restore 57 = .ok (.iconst 0, 1) := by decide +kernel
theorem dX9_restore_58 : decode cX9_restore 58 = .ok (.putfield 158, 3) := by decide +kernel
theorem dX9_restore_61 : decode cX9_restore 61 = .ok (.iconst 1, 1) := by decide +kernel
theorem dX9_restore_62 : decode cX9_restore 62 = .ok (.ireturn, 1) := by decide +kernel
theorem dX9_kind_0 : decode cX9_kind 0 = .ok (.aload_n 0, 1) := by decide +kernel
theorem dX9_kind_1 : decode cX9_kind 1 = .ok (.iload_n 1, 1) := by decide +kernel
theorem dX9_kind_2 : decode cX9_kind 2 = .ok (.invokevirtual 197, 3) := by decide +kernel
theorem dX9_kind_5 : decode cX9_kind 5 = .ok (.ifCond .eq 15, 3) := by decide +kernel
theorem dX9_kind_8 : decode cX9_kind 8 = .ok (.aload_n 0, 1) := by decide +kernel
theorem dX9_kind_9 : decode cX9_kind 9 = .ok (.getfield 19, 3) := by decide +kernel
theorem dX9_kind_12 : decode cX9_kind 12 = .ok (.bipush 14, 2) := by decide +kernel
theorem dX9_kind_14 : decode cX9_kind 14 = .ok (.iload_n 1, 1) := by decide +kernel
theorem dX9_kind_15 : decode cX9_kind 15 = .ok (.iadd, 1) := by decide +kernel
theorem dX9_kind_16 : decode cX9_kind 16 = .ok (.iaload, 1) := by decide +kernel
theorem dX9_kind_17 : decode cX9_kind 17 = .ok (.goto 5, 3) := by decide +kernel
theorem dX9_kind_20 : decode cX9_kind 20 = .ok (.ldc 76, 2) := by decide +kernel
theorem dX9_kind_22 : decode cX9_kind 22 = .ok (.ireturn, 1) := by decide +kernel
theorem dX9_isKind_0 : decode cX9_isKind 0 = .ok (.iload_n 1, 1) := by decide +kernel
theorem dX9_isKind_1 : decode cX9_isKind 1 = .ok (.ifCond .eq 28, 3) := by decide +kernel
theorem dX9_isKind_4 : decode cX9_isKind 4 = .ok (.iload_n 0, 1) := by decide +kernel
theorem dX9_isKind_5 : decode cX9_isKind 5 = .ok (.iload_n 1, 1) := by decide +kernel
theorem dX9_isKind_6 : decode cX9_isKind 6 = .ok (.if_icmp .eq 23, 3) := by decide +kernel
theorem dX9_isKind_9 : decode cX9_isKind 9 = .ok (.iload_n 1, 1) := by decide +kernel
theorem dX9_isKind_10 : decode cX9_isKind 10 = .ok (.iconst 1, 1) := by decide +kernel
theorem dX9_isKind_11 : decode cX9_isKind 11 = .ok (.if_icmp .ne 8, 3) := by decide +kernel
theorem dX9_isKind_14 : decode cX9_isKind 14 = .ok (.iload_n 0, 1) := by decide +kernel
theorem dX9_isKind_15 : decode cX9_isKind 15 = .ok (.iconst 4, 1) := by decide +kernel
theorem dX9_isKind_16 : decode cX9_isKind 16 = .ok (.if_icmp .lt 13, 3) := by decide +kernel
theorem dX9_isKind_19 : decode cX9_isKind 19 = .ok (.iload_n 1, 1) := by decide +kernel
theorem dX9_isKind_20 : decode cX9_isKind 20 = .ok (.iconst 4, 1) := by decide +kernel
theorem dX9_isKind_21 : decode cX9_isKind 21 = .ok (.if_icmp .ne 12, 3) := by decide +kernel
theorem dX9_isKind_24 : decode cX9_isKind 24 = .ok (.iload_n 0, 1) := by decide +kernel
theorem dX9_isKind_25 : decode cX9_isKind 25 = .ok (.iconst 5, 1) := by decide +kernel
theorem dX9_isKind_26 : decode cX9_isKind 26 = .ok (.if_icmp .ne 7, 3) := by decide +kernel
theorem dX9_isKind_29 : decode cX9_isKind 29 = .ok (.iconst 1, 1) := by decide +kernel
theorem dX9_isKind_30 : decode cX9_isKind 30 = .ok (.goto 4, 3) := by decide +kernel
theorem dX9_isKind_33 : decode cX9_isKind 33 = .ok (.iconst 0, 1) := by decide +kernel
theorem dX9_isKind_34 : decode cX9_isKind 34 = .ok (.ireturn, 1) := by decide +kernel
theorem dX9_as_0 : decode cX9_as 0 = .ok (.aload_n 0, 1) := by decide +kernel
theorem dX9_as_1 : decode cX9_as 1 = .ok (.iload_n 1, 1) := by decide +kernel
theorem dX9_as_2 : decode cX9_as 2 = .ok (.invokevirtual 197, 3) := by decide +kernel
theorem dX9_as_5 : decode cX9_as 5 = .ok (.ifCond .eq 15, 3) := by decide +kernel
theorem dX9_as_8 : decode cX9_as 8 = .ok (.iload_n 2, 1) := by decide +kernel
theorem dX9_as_9 : decode cX9_as 9 = .ok (.i2l, 1) := by decide +kernel
theorem dX9_as_10 : decode cX9_as 10 = .ok (.lconst 0, 1) := by decide +kernel
theorem dX9_as_11 : decode cX9_as 11 = .ok (.ldc2_w 237, 3) := by decide +kernel
theorem dX9_as_14 : decode cX9_as 14 = .ok (.invokestatic 66, 3) := by decide +kernel
theorem dX9_as_17 : decode cX9_as 17 = .ok (.ifCond .ne 6, 3) := by decide +kernel
theorem dX9_as_20 : decode cX9_as 20 = .ok (.ldc 76, 2) := by decide +kernel
theorem dX9_as_22 : decode cX9_as 22 = .ok (.ireturn, 1) := by decide +kernel
theorem dX9_as_23 : decode cX9_as 23 = .ok (.aload_n 0, 1) := by decide +kernel
theorem dX9_as_24 : decode cX9_as 24 = .ok (.getfield 19, 3) := by decide +kernel
theorem dX9_as_27 : decode cX9_as 27 = .ok (.bipush 14, 2) := by decide +kernel
theorem dX9_as_29 : decode cX9_as 29 = .ok (.iload_n 1, 1) := by decide +kernel
theorem dX9_as_30 : decode cX9_as 30 = .ok (.iadd, 1) := by decide +kernel
theorem dX9_as_31 : decode cX9_as 31 = .ok (.iaload, 1) := by decide +kernel
theorem dX9_as_32 : decode cX9_as 32 = .ok (.iload_n 2, 1) := by decide +kernel
theorem dX9_as_33 : decode cX9_as 33 = .ok (.invokestatic 239, 3) := by decide +kernel
theorem dX9_as_36 : decode cX9_as 36 = .ok (.ifCond .eq 11, 3) := by decide +kernel
theorem dX9_as_39 : decode cX9_as 39 = .ok (.aload_n 0, 1) := by decide +kernel
theorem dX9_as_40 : decode cX9_as 40 = .ok (.iload_n 1, 1) := by decide +kernel
theorem dX9_as_41 : decode cX9_as 41 = .ok (.invokevirtual 81, 3) := by decide +kernel
theorem dX9_as_44 : decode cX9_as 44 = .ok (.goto 8, 3) := by decide +kernel
theorem dX9_as_47 : decode cX9_as 47 = .ok (.aload_n 0, 1) := by decide +kernel
theorem dX9_as_48 : decode cX9_as 48 = .ok (.iconst 3, 1) := by decide +kernel
theorem dX9_as_49 : decode cX9_as 49 = .ok (.invokevirtual 77, 3) := by decide +kernel
theorem dX9_as_52 : decode cX9_as 52 = .ok (.ireturn, 1) := by decide +kernel
theorem dX9_begin_0 : decode cX9_begin 0 = .ok (.aload_n 0, 1) := by decide +kernel
theorem dX9_begin_1 : decode cX9_begin 1 = .ok (.getfield 242, 3) := by decide +kernel
theorem dX9_begin_4 : decode cX9_begin 4 = .ok (.bipush 16, 2) := by decide +kernel
theorem dX9_begin_6 : decode cX9_begin 6 = .ok (.if_icmp .ge 23, 3) := by decide +kernel
theorem dX9_begin_9 : decode cX9_begin 9 = .ok (.aload_n 0, 1) := by decide +kernel
theorem dX9_begin_10 : decode cX9_begin 10 = .ok (.getfield 56, 3) := by decide +kernel
theorem dX9_begin_13 : decode cX9_begin 13 = .ok (.aload_n 0, 1) := by decide +kernel
theorem dX9_begin_14 : decode cX9_begin 14 = .ok (.getfield 242, 3) := by decide +kernel
theorem dX9_begin_17 : decode cX9_begin 17 = .ok (.iload_n 1, 1) := by decide +kernel
theorem dX9_begin_18 : decode cX9_begin 18 = .ok (.iastore, 1) := by decide +kernel
theorem dX9_begin_19 : decode cX9_begin 19 = .ok (.aload_n 0, 1) := by decide +kernel
theorem dX9_begin_20 : decode cX9_begin 20 = .ok (.dup, 1) := by decide +kernel
theorem dX9_begin_21 : decode cX9_begin 21 = .ok (.getfield 242, 3) := by decide +kernel
theorem dX9_begin_24 : decode cX9_begin 24 = .ok (.iconst 1, 1) := by decide +kernel
theorem dX9_begin_25 : decode cX9_begin 25 = .ok (.iadd, 1) := by decide +kernel
theorem dX9_begin_26 : decode cX9_begin 26 = .ok (.putfield 242, 3) := by decide +kernel
theorem dX9_begin_29 : decode cX9_begin 29 = .ok (.return_, 1) := by decide +kernel
theorem dX9_lent_0 : decode cX9_lent 0 = .ok (.aload_n 0, 1) := by decide +kernel
theorem dX9_lent_1 : decode cX9_lent 1 = .ok (.iload_n 2, 1) := by decide +kernel
theorem dX9_lent_2 : decode cX9_lent 2 = .ok (.invokevirtual 245, 3) := by decide +kernel
theorem dX9_lent_5 : decode cX9_lent 5 = .ok (.iload_n 2, 1) := by decide +kernel
theorem dX9_lent_6 : decode cX9_lent 6 = .ok (.bipush 10, 2) := by decide +kernel
theorem dX9_lent_8 : decode cX9_lent 8 = .ok (.if_icmp .ne 15, 3) := by decide +kernel
theorem dX9_lent_11 : decode cX9_lent 11 = .ok (.aload_n 0, 1) := by decide +kernel
theorem dX9_lent_12 : decode cX9_lent 12 = .ok (.getfield 19, 3) := by decide +kernel
theorem dX9_lent_15 : decode cX9_lent 15 = .ok (.bipush 20, 2) := by decide +kernel
theorem dX9_lent_17 : decode cX9_lent 17 = .ok (.iload_n 1, 1) := by decide +kernel
theorem dX9_lent_18 : decode cX9_lent 18 = .ok (.iadd, 1) := by decide +kernel
theorem dX9_lent_19 : decode cX9_lent 19 = .ok (.iaload, 1) := by decide +kernel
theorem dX9_lent_20 : decode cX9_lent 20 = .ok (.goto 4, 3) := by decide +kernel
theorem dX9_lent_23 : decode cX9_lent 23 = .ok (.iload_n 1, 1) := by decide +kernel
theorem dX9_lent_24 : decode cX9_lent 24 = .ok (.ireturn, 1) := by decide +kernel
theorem dX9_steadyMark_0 : decode cX9_steadyMark 0 = .ok (.aload_n 0, 1) := by decide +kernel
theorem dX9_steadyMark_1 : decode cX9_steadyMark 1 = .ok (.bipush 21, 2) := by decide +kernel
theorem dX9_steadyMark_3 : decode cX9_steadyMark 3 = .ok (.invokevirtual 245, 3) := by decide +kernel
theorem dX9_steadyMark_6 : decode cX9_steadyMark 6 = .ok (.aload_n 0, 1) := by decide +kernel
theorem dX9_steadyMark_7 : decode cX9_steadyMark 7 = .ok (.iload_n 1, 1) := by decide +kernel
theorem dX9_steadyMark_8 : decode cX9_steadyMark 8 = .ok (.bipush 20, 2) := by decide +kernel
theorem dX9_steadyMark_10 : decode cX9_steadyMark 10 = .ok (.invokevirtual 248, 3) := by decide +kernel
theorem dX9_steadyMark_13 : decode cX9_steadyMark 13 = .ok (.aload_n 0, 1) := by decide +kernel
theorem dX9_steadyMark_14 : decode cX9_steadyMark 14 = .ok (.getfield 19, 3) := by decide +kernel
theorem dX9_steadyMark_17 : decode cX9_steadyMark 17 = .ok (.bipush 32, 2) := by decide +kernel
theorem dX9_steadyMark_19 : decode cX9_steadyMark 19 = .ok (.iload_n 1, 1) := by decide +kernel
theorem dX9_steadyMark_20 : decode cX9_steadyMark 20 = .ok (.iadd, 1) := by decide +kernel
theorem dX9_steadyMark_21 : decode cX9_steadyMark 21 = .ok (.iaload, 1) := by decide +kernel
theorem dX9_steadyMark_22 : decode cX9_steadyMark 22 = .ok (.iadd, 1) := by decide +kernel
theorem dX9_steadyMark_23 : decode cX9_steadyMark 23 = .ok (.ireturn, 1) := by decide +kernel
theorem dX9_oldSize_0 : decode cX9_oldSize 0 = .ok (.aload_n 0, 1) := by decide +kernel
theorem dX9_oldSize_1 : decode cX9_oldSize 1 = .ok (.bipush 13, 2) := by decide +kernel
theorem dX9_oldSize_3 : decode cX9_oldSize 3 = .ok (.invokevirtual 245, 3) := by decide +kernel
theorem dX9_oldSize_6 : decode cX9_oldSize 6 = .ok (.aload_n 0, 1) := by decide +kernel
theorem dX9_oldSize_7 : decode cX9_oldSize 7 = .ok (.iload_n 1, 1) := by decide +kernel
theorem dX9_oldSize_8 : decode cX9_oldSize 8 = .ok (.bipush 10, 2) := by decide +kernel
theorem dX9_oldSize_10 : decode cX9_oldSize 10 = .ok (.invokevirtual 248, 3) := by decide +kernel
theorem dX9_oldSize_13 : decode cX9_oldSize 13 = .ok (.bipush 100, 2) := by decide +kernel
theorem dX9_oldSize_15 : decode cX9_oldSize 15 = .ok (.isub, 1) := by decide +kernel
theorem dX9_oldSize_16 : decode cX9_oldSize 16 = .ok (.ireturn, 1) := by decide +kernel
theorem dX9_sizeOfOld_0 : decode cX9_sizeOfOld 0 = .ok (.aload_n 0, 1) := by decide +kernel
theorem dX9_sizeOfOld_1 : decode cX9_sizeOfOld 1 = .ok (.getfield 19, 3) := by decide +kernel
theorem dX9_sizeOfOld_4 : decode cX9_sizeOfOld 4 = .ok (.bipush 14, 2) := by decide +kernel
theorem dX9_sizeOfOld_6 : decode cX9_sizeOfOld 6 = .ok (.iload_n 1, 1) := by decide +kernel
theorem dX9_sizeOfOld_7 : decode cX9_sizeOfOld 7 = .ok (.iadd, 1) := by decide +kernel
theorem dX9_sizeOfOld_8 : decode cX9_sizeOfOld 8 = .ok (.iaload, 1) := by decide +kernel
theorem dX9_sizeOfOld_9 : decode cX9_sizeOfOld 9 = .ok (.iconst 5, 1) := by decide +kernel
theorem dX9_sizeOfOld_10 : decode cX9_sizeOfOld 10 = .ok (.if_icmp .ne 17, 3) := by decide +kernel
theorem dX9_sizeOfOld_13 : decode cX9_sizeOfOld 13 = .ok (.aload_n 0, 1) := by decide +kernel
theorem dX9_sizeOfOld_14 : decode cX9_sizeOfOld 14 = .ok (.bipush 14, 2) := by decide +kernel
theorem dX9_sizeOfOld_16 : decode cX9_sizeOfOld 16 = .ok (.invokevirtual 245, 3) := by decide +kernel
theorem dX9_sizeOfOld_19 : decode cX9_sizeOfOld 19 = .ok (.iconst 2, 1) := by decide +kernel
theorem dX9_sizeOfOld_20 : decode cX9_sizeOfOld 20 = .ok (.aload_n 0, 1) := by decide +kernel
theorem dX9_sizeOfOld_21 : decode cX9_sizeOfOld 21 = .ok (.iload_n 1, 1) := by decide +kernel
theorem dX9_sizeOfOld_22 : decode cX9_sizeOfOld 22 = .ok (.invokevirtual 251, 3) := by decide +kernel
theorem dX9_sizeOfOld_25 : decode cX9_sizeOfOld 25 = .ok (.imul, 1) := by decide +kernel
theorem dX9_sizeOfOld_26 : decode cX9_sizeOfOld 26 = .ok (.ireturn, 1) := by decide +kernel
theorem dX9_sizeOfOld_27 : decode cX9_sizeOfOld 27 = .ok (.aload_n 0, 1) := by decide +kernel
theorem dX9_sizeOfOld_28 : decode cX9_sizeOfOld 28 = .ok (.iload_n 1, 1) := by decide +kernel
theorem dX9_sizeOfOld_29 : decode cX9_sizeOfOld 29 = .ok (.invokevirtual 251, 3) := by decide +kernel
theorem dX9_sizeOfOld_32 : decode cX9_sizeOfOld 32 = .ok (.ireturn, 1) := by decide +kernel
theorem dX9_markOf_0 : decode cX9_markOf 0 = .ok (.aload_n 0, 1) := by decide +kernel
theorem dX9_markOf_1 : decode cX9_markOf 1 = .ok (.getfield 19, 3) := by decide +kernel
theorem dX9_markOf_4 : decode cX9_markOf 4 = .ok (.bipush 14, 2) := by decide +kernel
theorem dX9_markOf_6 : decode cX9_markOf 6 = .ok (.iload_n 1, 1) := by decide +kernel
theorem dX9_markOf_7 : decode cX9_markOf 7 = .ok (.iadd, 1) := by decide +kernel
theorem dX9_markOf_8 : decode cX9_markOf 8 = .ok (.iaload, 1) := by decide +kernel
theorem dX9_markOf_9 : decode cX9_markOf 9 = .ok (.istore_n 2, 1) := by decide +kernel
theorem dX9_markOf_10 : decode cX9_markOf 10 = .ok (.iload_n 2, 1) := by decide +kernel
theorem dX9_markOf_11 : decode cX9_markOf 11 = .ok (.iconst 2, 1) := by decide +kernel
theorem dX9_markOf_12 : decode cX9_markOf 12 = .ok (.if_icmp .ne 17, 3) := by decide +kernel
theorem dX9_markOf_15 : decode cX9_markOf 15 = .ok (.aload_n 0, 1) := by decide +kernel
theorem dX9_markOf_16 : decode cX9_markOf 16 = .ok (.bipush 24, 2) := by decide +kernel
theorem dX9_markOf_18 : decode cX9_markOf 18 = .ok (.invokevirtual 245, 3) := by decide +kernel
theorem dX9_markOf_21 : decode cX9_markOf 21 = .ok (.iconst 2, 1) := by decide +kernel
theorem dX9_markOf_22 : decode cX9_markOf 22 = .ok (.aload_n 0, 1) := by decide +kernel
theorem dX9_markOf_23 : decode cX9_markOf 23 = .ok (.iload_n 1, 1) := by decide +kernel
theorem dX9_markOf_24 : decode cX9_markOf 24 = .ok (.invokevirtual 254, 3) := by decide +kernel
theorem dX9_markOf_27 : decode cX9_markOf 27 = .ok (.imul, 1) := by decide +kernel
theorem dX9_markOf_28 : decode cX9_markOf 28 = .ok (.ireturn, 1) := by decide +kernel
theorem dX9_markOf_29 : decode cX9_markOf 29 = .ok (.iload_n 2, 1) := by decide +kernel
theorem dX9_markOf_30 : decode cX9_markOf 30 = .ok (.iconst 3, 1) := by decide +kernel
theorem dX9_markOf_31 : decode cX9_markOf 31 = .ok (.if_icmp .ne 19, 3) := by decide +kernel
theorem dX9_markOf_34 : decode cX9_markOf 34 = .ok (.aload_n 0, 1) := by decide +kernel
theorem dX9_markOf_35 : decode cX9_markOf 35 = .ok (.bipush 22, 2) := by decide +kernel
theorem dX9_markOf_37 : decode cX9_markOf 37 = .ok (.invokevirtual 245, 3) := by decide +kernel
theorem dX9_markOf_40 : decode cX9_markOf 40 = .ok (.aload_n 0, 1) := by decide +kernel
theorem dX9_markOf_41 : decode cX9_markOf 41 = .ok (.iload_n 1, 1) := by decide +kernel
theorem dX9_markOf_42 : decode cX9_markOf 42 = .ok (.invokevirtual 254, 3) := by decide +kernel
theorem dX9_markOf_45 : decode cX9_markOf 45 = .ok (.sipush 1000, 3) := by decide +kernel
theorem dX9_markOf_48 : decode cX9_markOf 48 = .ok (.isub, 1) := by decide +kernel
theorem dX9_markOf_49 : decode cX9_markOf 49 = .ok (.ireturn, 1) := by decide +kernel
theorem dX9_markOf_50 : decode cX9_markOf 50 = .ok (.iload_n 2, 1) := by decide +kernel
theorem dX9_markOf_51 : decode cX9_markOf 51 = .ok (.iconst 1, 1) := by decide +kernel
theorem dX9_markOf_52 : decode cX9_markOf 52 = .ok (.if_icmp .ne 9, 3) := by decide +kernel
theorem dX9_markOf_55 : decode cX9_markOf 55 = .ok (.aload_n 0, 1) := by decide +kernel
theorem dX9_markOf_56 : decode cX9_markOf 56 = .ok (.iload_n 1, 1) := by decide +kernel
theorem dX9_markOf_57 : decode cX9_markOf 57 = .ok (.invokevirtual 254, 3) := by decide +kernel
theorem dX9_markOf_60 : decode cX9_markOf 60 = .ok (.ireturn, 1) := by decide +kernel
theorem dX9_markOf_61 : decode cX9_markOf 61 = .ok (.aload_n 0, 1) := by decide +kernel
theorem dX9_markOf_62 : decode cX9_markOf 62 = .ok (.bipush 23, 2) := by decide +kernel
theorem dX9_markOf_64 : decode cX9_markOf 64 = .ok (.invokevirtual 245, 3) := by decide +kernel
theorem dX9_markOf_67 : decode cX9_markOf 67 = .ok (.aload_n 0, 1) := by decide +kernel
theorem dX9_markOf_68 : decode cX9_markOf 68 = .ok (.iload_n 1, 1) := by decide +kernel
theorem dX9_markOf_69 : decode cX9_markOf 69 = .ok (.bipush 20, 2) := by decide +kernel
theorem dX9_markOf_71 : decode cX9_markOf 71 = .ok (.invokevirtual 248, 3) := by decide +kernel
theorem dX9_markOf_74 : decode cX9_markOf 74 = .ok (.istore_n 3, 1) := by decide +kernel
theorem dX9_markOf_75 : decode cX9_markOf 75 = .ok (.iload_n 3, 1) := by decide +kernel
theorem dX9_markOf_76 : decode cX9_markOf 76 = .ok (.aload_n 0, 1) := by decide +kernel
theorem dX9_markOf_77 : decode cX9_markOf 77 = .ok (.iload_n 1, 1) := by decide +kernel
theorem dX9_markOf_78 : decode cX9_markOf 78 = .ok (.invokevirtual 257, 3) := by decide +kernel
theorem dX9_markOf_81 : decode cX9_markOf 81 = .ok (.isub, 1) := by decide +kernel
theorem dX9_markOf_82 : decode cX9_markOf 82 = .ok (.ireturn, 1) := by decide +kernel
theorem dX9_steadySize_0 : decode cX9_steadySize 0 = .ok (.aload_n 0, 1) := by decide +kernel
theorem dX9_steadySize_1 : decode cX9_steadySize 1 = .ok (.bipush 11, 2) := by decide +kernel
theorem dX9_steadySize_3 : decode cX9_steadySize 3 = .ok (.invokevirtual 245, 3) := by decide +kernel
theorem dX9_steadySize_6 : decode cX9_steadySize 6 = .ok (.aload_n 0, 1) := by decide +kernel
theorem dX9_steadySize_7 : decode cX9_steadySize 7 = .ok (.iload_n 1, 1) := by decide +kernel
theorem dX9_steadySize_8 : decode cX9_steadySize 8 = .ok (.bipush 10, 2) := by decide +kernel
theorem dX9_steadySize_10 : decode cX9_steadySize 10 = .ok (.invokevirtual 248, 3) := by decide +kernel
theorem dX9_steadySize_13 : decode cX9_steadySize 13 = .ok (.istore_n 2, 1) := by decide +kernel
theorem dX9_steadySize_14 : decode cX9_steadySize 14 = .ok (.iload_n 2, 1) := by decide +kernel
theorem dX9_steadySize_15 : decode cX9_steadySize 15 = .ok (.aload_n 0, 1) := by decide +kernel
theorem dX9_steadySize_16 : decode cX9_steadySize 16 = .ok (.iload_n 1, 1) := by decide +kernel
theorem dX9_steadySize_17 : decode cX9_steadySize 17 = .ok (.invokevirtual 260, 3) := by decide +kernel
theorem dX9_steadySize_20 : decode cX9_steadySize 20 = .ok (.iadd, 1) := by decide +kernel
theorem dX9_steadySize_21 : decode cX9_steadySize 21 = .ok (.ireturn, 1) := by decide +kernel
theorem dX9_sizeOf_0 : decode cX9_sizeOf 0 = .ok (.aload_n 0, 1) := by decide +kernel
theorem dX9_sizeOf_1 : decode cX9_sizeOf 1 = .ok (.getfield 19, 3) := by decide +kernel
theorem dX9_sizeOf_4 : decode cX9_sizeOf 4 = .ok (.bipush 14, 2) := by decide +kernel
theorem dX9_sizeOf_6 : decode cX9_sizeOf 6 = .ok (.iload_n 1, 1) := by decide +kernel
theorem dX9_sizeOf_7 : decode cX9_sizeOf 7 = .ok (.iadd, 1) := by decide +kernel
theorem dX9_sizeOf_8 : decode cX9_sizeOf 8 = .ok (.iaload, 1) := by decide +kernel
theorem dX9_sizeOf_9 : decode cX9_sizeOf 9 = .ok (.istore_n 2, 1) := by decide +kernel
theorem dX9_sizeOf_10 : decode cX9_sizeOf 10 = .ok (.iload_n 2, 1) := by decide +kernel
theorem dX9_sizeOf_11 : decode cX9_sizeOf 11 = .ok (.iconst 2, 1) := by decide +kernel
theorem dX9_sizeOf_12 : decode cX9_sizeOf 12 = .ok (.if_icmp .ne 16, 3) := by decide +kernel
theorem dX9_sizeOf_15 : decode cX9_sizeOf 15 = .ok (.aload_n 0, 1) := by decide +kernel
theorem dX9_sizeOf_16 : decode cX9_sizeOf 16 = .ok (.bipush 12, 2) := by decide +kernel
theorem dX9_sizeOf_18 : decode cX9_sizeOf 18 = .ok (.invokevirtual 245, 3) := by decide +kernel
theorem dX9_sizeOf_21 : decode cX9_sizeOf 21 = .ok (.aload_n 0, 1) := by decide +kernel
theorem dX9_sizeOf_22 : decode cX9_sizeOf 22 = .ok (.iload_n 1, 1) := by decide +kernel
theorem dX9_sizeOf_23 : decode cX9_sizeOf 23 = .ok (.invokevirtual 263, 3) := by decide +kernel
theorem dX9_sizeOf_26 : decode cX9_sizeOf 26 = .ok (.ineg, 1) := by decide +kernel
theorem dX9_sizeOf_27 : decode cX9_sizeOf 27 = .ok (.ireturn, 1) := by decide +kernel
theorem dX9_sizeOf_28 : decode cX9_sizeOf 28 = .ok (.iload_n 2, 1) := by decide +kernel
theorem dX9_sizeOf_29 : decode cX9_sizeOf 29 = .ok (.iconst 4, 1) := by decide +kernel
theorem dX9_sizeOf_30 : decode cX9_sizeOf 30 = .ok (.if_icmp .lt 11, 3) := by decide +kernel
theorem dX9_sizeOf_33 : decode cX9_sizeOf 33 = .ok (.aload_n 0, 1) := by decide +kernel
theorem dX9_sizeOf_34 : decode cX9_sizeOf 34 = .ok (.iload_n 1, 1) := by decide +kernel
theorem dX9_sizeOf_35 : decode cX9_sizeOf 35 = .ok (.invokevirtual 257, 3) := by decide +kernel
theorem dX9_sizeOf_38 : decode cX9_sizeOf 38 = .ok (.goto 8, 3) := by decide +kernel
theorem dX9_sizeOf_41 : decode cX9_sizeOf 41 = .ok (.aload_n 0, 1) := by decide +kernel
theorem dX9_sizeOf_42 : decode cX9_sizeOf 42 = .ok (.iload_n 1, 1) := by decide +kernel
theorem dX9_sizeOf_43 : decode cX9_sizeOf 43 = .ok (.invokevirtual 263, 3) := by decide +kernel
theorem dX9_sizeOf_46 : decode cX9_sizeOf 46 = .ok (.ireturn, 1) := by decide +kernel
theorem dX9_ask_0 : decode cX9_ask 0 = .ok (.aload_n 0, 1) := by decide +kernel
theorem dX9_ask_1 : decode cX9_ask 1 = .ok (.iload_n 1, 1) := by decide +kernel
theorem dX9_ask_2 : decode cX9_ask 2 = .ok (.invokevirtual 197, 3) := by decide +kernel
theorem dX9_ask_5 : decode cX9_ask 5 = .ok (.ifCond .eq 13, 3) := by decide +kernel
theorem dX9_ask_8 : decode cX9_ask 8 = .ok (.iload_n 2, 1) := by decide +kernel
theorem dX9_ask_9 : decode cX9_ask 9 = .ok (.i2l, 1) := by decide +kernel
theorem dX9_ask_10 : decode cX9_ask 10 = .ok (.lconst 0, 1) := by decide +kernel
theorem dX9_ask_11 : decode cX9_ask 11 = .ok (.lconst 1, 1) := by decide +kernel
theorem dX9_ask_12 : decode cX9_ask 12 = .ok (.invokestatic 66, 3) := by decide +kernel
theorem dX9_ask_15 : decode cX9_ask 15 = .ok (.ifCond .ne 6, 3) := by decide +kernel
theorem dX9_ask_18 : decode cX9_ask 18 = .ok (.ldc 76, 2) := by decide +kernel
theorem dX9_ask_20 : decode cX9_ask 20 = .ok (.ireturn, 1) := by decide +kernel
theorem dX9_ask_21 : decode cX9_ask 21 = .ok (.aload_n 0, 1) := by decide +kernel
theorem dX9_ask_22 : decode cX9_ask 22 = .ok (.iconst 0, 1) := by decide +kernel
theorem dX9_ask_23 : decode cX9_ask 23 = .ok (.putfield 242, 3) := by decide +kernel
theorem dX9_ask_26 : decode cX9_ask 26 = .ok (.iload_n 2, 1) := by decide +kernel
theorem dX9_ask_27 : decode cX9_ask 27 = .ok (.ifCond .ne 11, 3) := by decide +kernel
theorem dX9_ask_30 : decode cX9_ask 30 = .ok (.aload_n 0, 1) := by decide +kernel
theorem dX9_ask_31 : decode cX9_ask 31 = .ok (.iload_n 1, 1) := by decide +kernel
theorem dX9_ask_32 : decode cX9_ask 32 = .ok (.invokevirtual 266, 3) := by decide +kernel
theorem dX9_ask_35 : decode cX9_ask 35 = .ok (.goto 8, 3) := by decide +kernel
theorem dX9_ask_38 : decode cX9_ask 38 = .ok (.aload_n 0, 1) := by decide +kernel
theorem dX9_ask_39 : decode cX9_ask 39 = .ok (.iload_n 1, 1) := by decide +kernel
theorem dX9_ask_40 : decode cX9_ask 40 = .ok (.invokevirtual 260, 3) := by decide +kernel
theorem dX9_ask_43 : decode cX9_ask 43 = .ok (.ireturn, 1) := by decide +kernel
theorem dX9_trace_0 : decode cX9_trace 0 = .ok (.iload_n 1, 1) := by decide +kernel
theorem dX9_trace_1 : decode cX9_trace 1 = .ok (.i2l, 1) := by decide +kernel
theorem dX9_trace_2 : decode cX9_trace 2 = .ok (.lconst 0, 1) := by decide +kernel
theorem dX9_trace_3 : decode cX9_trace 3 = .ok (.aload_n 0, 1) := by decide +kernel
theorem dX9_trace_4 : decode cX9_trace 4 = .ok (.getfield 242, 3) := by decide +kernel
theorem dX9_trace_7 : decode cX9_trace 7 = .ok (.iconst 1, 1) := by decide +kernel
theorem dX9_trace_8 : decode cX9_trace 8 = .ok (.isub, 1) := by decide +kernel
theorem dX9_trace_9 : decode cX9_trace 9 = .ok (.i2l, 1) := by decide +kernel
theorem dX9_trace_10 : decode cX9_trace 10 = .ok (.invokestatic 66, 3) := by decide +kernel
theorem dX9_trace_13 : decode cX9_trace 13 = .ok (.ifCond .eq 12, 3) := by decide +kernel
theorem dX9_trace_16 : decode cX9_trace 16 = .ok (.aload_n 0, 1) := by decide +kernel
theorem dX9_trace_17 : decode cX9_trace 17 = .ok (.getfield 56, 3) := by decide +kernel
theorem dX9_trace_20 : decode cX9_trace 20 = .ok (.iload_n 1, 1) := by decide +kernel
theorem dX9_trace_21 : decode cX9_trace 21 = .ok (.iaload, 1) := by decide +kernel
theorem dX9_trace_22 : decode cX9_trace 22 = .ok (.goto 5, 3) := by decide +kernel
theorem dX9_trace_25 : decode cX9_trace 25 = .ok (.ldc 200, 2) := by decide +kernel
theorem dX9_trace_27 : decode cX9_trace 27 = .ok (.ireturn, 1) := by decide +kernel
theorem dX9_count_0 : decode cX9_count 0 = .ok (.iconst 0, 1) := by decide +kernel
theorem dX9_count_1 : decode cX9_count 1 = .ok (.istore_n 2, 1) := by decide +kernel
theorem dX9_count_2 : decode cX9_count 2 = .ok (.iconst 0, 1) := by decide +kernel
theorem dX9_count_3 : decode cX9_count 3 = .ok (.istore_n 3, 1) := by decide +kernel
theorem dX9_count_4 : decode cX9_count 4 = .ok (.iload_n 3, 1) := by decide +kernel
theorem dX9_count_5 : decode cX9_count 5 = .ok (.bipush 8, 2) := by decide +kernel
theorem dX9_count_7 : decode cX9_count 7 = .ok (.if_icmp .ge 26, 3) := by decide +kernel
theorem dX9_count_10 : decode cX9_count 10 = .ok (.iload_n 2, 1) := by decide +kernel
theorem dX9_count_11 : decode cX9_count 11 = .ok (.aload_n 0, 1) := by decide +kernel
theorem dX9_count_12 : decode cX9_count 12 = .ok (.getfield 13, 3) := by decide +kernel
theorem dX9_count_15 : decode cX9_count 15 = .ok (.iload_n 3, 1) := by decide +kernel
theorem dX9_count_16 : decode cX9_count 16 = .ok (.iaload, 1) := by decide +kernel
theorem dX9_count_17 : decode cX9_count 17 = .ok (.ifCond .lt 7, 3) := by decide +kernel
theorem dX9_count_20 : decode cX9_count 20 = .ok (.iconst 1, 1) := by decide +kernel
theorem dX9_count_21 : decode cX9_count 21 = .ok (.goto 4, 3) := by decide +kernel
theorem dX9_count_24 : decode cX9_count 24 = .ok (.iconst 0, 1) := by decide +kernel
theorem dX9_count_25 : decode cX9_count 25 = .ok (.iadd, 1) := by decide +kernel
theorem dX9_count_26 : decode cX9_count 26 = .ok (.istore_n 2, 1) := by decide +kernel
theorem dX9_count_27 : decode cX9_count 27 = .ok (.iinc 3 1, 3) := by decide +kernel
theorem dX9_count_30 : decode cX9_count 30 = .ok (.goto (-26), 3) := by decide +kernel
theorem dX9_count_33 : decode cX9_count 33 = .ok (.iload_n 1, 1) := by decide +kernel
theorem dX9_count_34 : decode cX9_count 34 = .ok (.tableswitch 110 0 8 #[50, 52, 60, 68, 76, 84, 92, 100, 105], 50) := by decide +kernel
theorem dX9_count_84 : decode cX9_count 84 = .ok (.iload_n 2, 1) := by decide +kernel
theorem dX9_count_85 : decode cX9_count 85 = .ok (.ireturn, 1) := by decide +kernel
theorem dX9_count_86 : decode cX9_count 86 = .ok (.aload_n 0, 1) := by decide +kernel
theorem dX9_count_87 : decode cX9_count 87 = .ok (.getfield 19, 3) := by decide +kernel
theorem dX9_count_90 : decode cX9_count 90 = .ok (.bipush 8, 2) := by decide +kernel
theorem dX9_count_92 : decode cX9_count 92 = .ok (.iaload, 1) := by decide +kernel
theorem dX9_count_93 : decode cX9_count 93 = .ok (.ireturn, 1) := by decide +kernel
theorem dX9_count_94 : decode cX9_count 94 = .ok (.aload_n 0, 1) := by decide +kernel
theorem dX9_count_95 : decode cX9_count 95 = .ok (.getfield 19, 3) := by decide +kernel
theorem dX9_count_98 : decode cX9_count 98 = .ok (.bipush 13, 2) := by decide +kernel
theorem dX9_count_100 : decode cX9_count 100 = .ok (.iaload, 1) := by decide +kernel
theorem dX9_count_101 : decode cX9_count 101 = .ok (.ireturn, 1) := by decide +kernel
theorem dX9_count_102 : decode cX9_count 102 = .ok (.aload_n 0, 1) := by decide +kernel
theorem dX9_count_103 : decode cX9_count 103 = .ok (.getfield 19, 3) := by decide +kernel
theorem dX9_count_106 : decode cX9_count 106 = .ok (.bipush 9, 2) := by decide +kernel
theorem dX9_count_108 : decode cX9_count 108 = .ok (.iaload, 1) := by decide +kernel
theorem dX9_count_109 : decode cX9_count 109 = .ok (.ireturn, 1) := by decide +kernel
theorem dX9_count_110 : decode cX9_count 110 = .ok (.aload_n 0, 1) := by decide +kernel
theorem dX9_count_111 : decode cX9_count 111 = .ok (.getfield 19, 3) := by decide +kernel
theorem dX9_count_114 : decode cX9_count 114 = .ok (.bipush 10, 2) := by decide +kernel
theorem dX9_count_116 : decode cX9_count 116 = .ok (.iaload, 1) := by decide +kernel
theorem dX9_count_117 : decode cX9_count 117 = .ok (.ireturn, 1) := by decide +kernel
theorem dX9_count_118 : decode cX9_count 118 = .ok (.aload_n 0, 1) := by decide +kernel
theorem dX9_count_119 : decode cX9_count 119 = .ok (.getfield 19, 3) := by decide +kernel
theorem dX9_count_122 : decode cX9_count 122 = .ok (.bipush 11, 2) := by decide +kernel
theorem dX9_count_124 : decode cX9_count 124 = .ok (.iaload, 1) := by decide +kernel
theorem dX9_count_125 : decode cX9_count 125 = .ok (.ireturn, 1) := by decide +kernel
theorem dX9_count_126 : decode cX9_count 126 = .ok (.aload_n 0, 1) := by decide +kernel
theorem dX9_count_127 : decode cX9_count 127 = .ok (.getfield 19, 3) := by decide +kernel
theorem dX9_count_130 : decode cX9_count 130 = .ok (.bipush 12, 2) := by decide +kernel
theorem dX9_count_132 : decode cX9_count 132 = .ok (.iaload, 1) := by decide +kernel
theorem dX9_count_133 : decode cX9_count 133 = .ok (.ireturn, 1) := by decide +kernel
theorem dX9_count_134 : decode cX9_count 134 = .ok (.aload_n 0, 1) := by decide +kernel
theorem dX9_count_135 : decode cX9_count 135 = .ok (.getfield 158, 3) := by decide +kernel
theorem dX9_count_138 : decode cX9_count 138 = .ok (.ireturn, 1) := by decide +kernel
theorem dX9_count_139 : decode cX9_count 139 = .ok (.aload_n 0, 1) := by decide +kernel
theorem dX9_count_140 : decode cX9_count 140 = .ok (.getfield 90, 3) := by decide +kernel
theorem dX9_count_143 : decode cX9_count 143 = .ok (.ireturn, 1) := by decide +kernel
theorem dX9_count_144 : decode cX9_count 144 = .ok (.ldc 76, 2) := by decide +kernel
theorem dX9_count_146 : decode cX9_count 146 = .ok (.ireturn, 1) := by decide +kernel
theorem dX9_status_0 : decode cX9_status 0 = .ok (.aload_n 0, 1) := by decide +kernel
theorem dX9_status_1 : decode cX9_status 1 = .ok (.getfield 59, 3) := by decide +kernel
theorem dX9_status_4 : decode cX9_status 4 = .ok (.ireturn, 1) := by decide +kernel
theorem dJ9_max_7cf53_0 : decode cJ9_max_7cf53 0 = .ok (.iload_n 0, 1) := by decide +kernel
theorem dJ9_max_7cf53_1 : decode cJ9_max_7cf53 1 = .ok (.iload_n 1, 1) := by decide +kernel
theorem dJ9_max_7cf53_2 : decode cJ9_max_7cf53 2 = .ok (.if_icmp .lt 7, 3) := by decide +kernel
theorem dJ9_max_7cf53_5 : decode cJ9_max_7cf53 5 = .ok (.iload_n 0, 1) := by decide +kernel
theorem dJ9_max_7cf53_6 : decode cJ9_max_7cf53 6 = .ok (.goto 4, 3) := by decide +kernel
theorem dJ9_max_7cf53_9 : decode cJ9_max_7cf53 9 = .ok (.iload_n 1, 1) := by decide +kernel
theorem dJ9_max_7cf53_10 : decode cJ9_max_7cf53 10 = .ok (.ireturn, 1) := by decide +kernel
theorem dJ9_min_7cf53_0 : decode cJ9_min_7cf53 0 = .ok (.iload_n 0, 1) := by decide +kernel
theorem dJ9_min_7cf53_1 : decode cJ9_min_7cf53 1 = .ok (.iload_n 1, 1) := by decide +kernel
theorem dJ9_min_7cf53_2 : decode cJ9_min_7cf53 2 = .ok (.if_icmp .gt 7, 3) := by decide +kernel
theorem dJ9_min_7cf53_5 : decode cJ9_min_7cf53 5 = .ok (.iload_n 0, 1) := by decide +kernel
theorem dJ9_min_7cf53_6 : decode cJ9_min_7cf53 6 = .ok (.goto 4, 3) := by decide +kernel
theorem dJ9_min_7cf53_9 : decode cJ9_min_7cf53 9 = .ok (.iload_n 1, 1) := by decide +kernel
theorem dJ9_min_7cf53_10 : decode cJ9_min_7cf53 10 = .ok (.ireturn, 1) := by decide +kernel
theorem dL_law_0 : decode cL_law 0 = .ok (.new 7, 3) := by decide +kernel
theorem dL_law_3 : decode cL_law 3 = .ok (.dup, 1) := by decide +kernel
theorem dL_law_4 : decode cL_law 4 = .ok (.invokespecial 9, 3) := by decide +kernel
theorem dL_law_7 : decode cL_law 7 = .ok (.astore_n 1, 1) := by decide +kernel
theorem dL_law_8 : decode cL_law 8 = .ok (.new 10, 3) := by decide +kernel
theorem dL_law_11 : decode cL_law 11 = .ok (.dup, 1) := by decide +kernel
theorem dL_law_12 : decode cL_law 12 = .ok (.invokespecial 12, 3) := by decide +kernel
theorem dL_law_15 : decode cL_law 15 = .ok (.astore_n 2, 1) := by decide +kernel
theorem dL_law_16 : decode cL_law 16 = .ok (.iconst 0, 1) := by decide +kernel
theorem dL_law_17 : decode cL_law 17 = .ok (.istore_n 3, 1) := by decide +kernel
theorem dL_law_18 : decode cL_law 18 = .ok (.iload_n 3, 1) := by decide +kernel
theorem dL_law_19 : decode cL_law 19 = .ok (.aload_n 0, 1) := by decide +kernel
theorem dL_law_20 : decode cL_law 20 = .ok (.arraylength, 1) := by decide +kernel
theorem dL_law_21 : decode cL_law 21 = .ok (.bipush 6, 2) := by decide +kernel
theorem dL_law_23 : decode cL_law 23 = .ok (.isub, 1) := by decide +kernel
theorem dL_law_24 : decode cL_law 24 = .ok (.if_icmp .gt 977, 3) := by decide +kernel
theorem dL_law_27 : decode cL_law 27 = .ok (.aload_n 0, 1) := by decide +kernel
theorem dL_law_28 : decode cL_law 28 = .ok (.iload_n 3, 1) := by decide +kernel
theorem dL_law_29 : decode cL_law 29 = .ok (.iaload, 1) := by decide +kernel
theorem dL_law_30 : decode cL_law 30 = .ok (.bipush 31, 2) := by decide +kernel
theorem dL_law_32 : decode cL_law 32 = .ok (.iand, 1) := by decide +kernel
theorem dL_law_33 : decode cL_law 33 = .ok (.tableswitch 962 0 30 #[139, 182, 225, 288, 311, 334, 347, 360, 373, 406, 439, 452, 485, 508, 531, 564, 577, 600, 623, 646, 669, 692, 705, 768, 791, 814, 837, 870, 903, 926, 949], 139) := by decide +kernel
theorem dL_law_172 : decode cL_law 172 = .ok (.aload_n 1, 1) := by decide +kernel
theorem dL_law_173 : decode cL_law 173 = .ok (.aload_n 0, 1) := by decide +kernel
theorem dL_law_174 : decode cL_law 174 = .ok (.iload_n 3, 1) := by decide +kernel
theorem dL_law_175 : decode cL_law 175 = .ok (.iconst 1, 1) := by decide +kernel
theorem dL_law_176 : decode cL_law 176 = .ok (.iadd, 1) := by decide +kernel
theorem dL_law_177 : decode cL_law 177 = .ok (.iaload, 1) := by decide +kernel
theorem dL_law_178 : decode cL_law 178 = .ok (.aload_n 0, 1) := by decide +kernel
theorem dL_law_179 : decode cL_law 179 = .ok (.iload_n 3, 1) := by decide +kernel
theorem dL_law_180 : decode cL_law 180 = .ok (.iconst 2, 1) := by decide +kernel
theorem dL_law_181 : decode cL_law 181 = .ok (.iadd, 1) := by decide +kernel
theorem dL_law_182 : decode cL_law 182 = .ok (.iaload, 1) := by decide +kernel
theorem dL_law_183 : decode cL_law 183 = .ok (.aload_n 0, 1) := by decide +kernel
theorem dL_law_184 : decode cL_law 184 = .ok (.iload_n 3, 1) := by decide +kernel
theorem dL_law_185 : decode cL_law 185 = .ok (.iconst 3, 1) := by decide +kernel
theorem dL_law_186 : decode cL_law 186 = .ok (.iadd, 1) := by decide +kernel
theorem dL_law_187 : decode cL_law 187 = .ok (.iaload, 1) := by decide +kernel
theorem dL_law_188 : decode cL_law 188 = .ok (.invokevirtual 13, 3) := by decide +kernel
theorem dL_law_191 : decode cL_law 191 = .ok (.aload_n 2, 1) := by decide +kernel
theorem dL_law_192 : decode cL_law 192 = .ok (.aload_n 0, 1) := by decide +kernel
theorem dL_law_193 : decode cL_law 193 = .ok (.iload_n 3, 1) := by decide +kernel
theorem dL_law_194 : decode cL_law 194 = .ok (.iconst 1, 1) := by decide +kernel
theorem dL_law_195 : decode cL_law 195 = .ok (.iadd, 1) := by decide +kernel
theorem dL_law_196 : decode cL_law 196 = .ok (.iaload, 1) := by decide +kernel
theorem dL_law_197 : decode cL_law 197 = .ok (.aload_n 0, 1) := by decide +kernel
theorem dL_law_198 : decode cL_law 198 = .ok (.iload_n 3, 1) := by decide +kernel
theorem dL_law_199 : decode cL_law 199 = .ok (.iconst 2, 1) := by decide +kernel
theorem dL_law_200 : decode cL_law 200 = .ok (.iadd, 1) := by decide +kernel
theorem dL_law_201 : decode cL_law 201 = .ok (.iaload, 1) := by decide +kernel
theorem dL_law_202 : decode cL_law 202 = .ok (.aload_n 0, 1) := by decide +kernel
theorem dL_law_203 : decode cL_law 203 = .ok (.iload_n 3, 1) := by decide +kernel
theorem dL_law_204 : decode cL_law 204 = .ok (.iconst 3, 1) := by decide +kernel
theorem dL_law_205 : decode cL_law 205 = .ok (.iadd, 1) := by decide +kernel
theorem dL_law_206 : decode cL_law 206 = .ok (.iaload, 1) := by decide +kernel
theorem dL_law_207 : decode cL_law 207 = .ok (.invokevirtual 17, 3) := by decide +kernel
theorem dL_law_210 : decode cL_law 210 = .ok (.if_icmp .eq 785, 3) := by decide +kernel
theorem dL_law_213 : decode cL_law 213 = .ok (.iconst 0, 1) := by decide +kernel
theorem dL_law_214 : decode cL_law 214 = .ok (.ireturn, 1) := by decide +kernel
theorem dL_law_215 : decode cL_law 215 = .ok (.aload_n 1, 1) := by decide +kernel
theorem dL_law_216 : decode cL_law 216 = .ok (.aload_n 0, 1) := by decide +kernel
theorem dL_law_217 : decode cL_law 217 = .ok (.iload_n 3, 1) := by decide +kernel
theorem dL_law_218 : decode cL_law 218 = .ok (.iconst 1, 1) := by decide +kernel
theorem dL_law_219 : decode cL_law 219 = .ok (.iadd, 1) := by decide +kernel
theorem dL_law_220 : decode cL_law 220 = .ok (.iaload, 1) := by decide +kernel
theorem dL_law_221 : decode cL_law 221 = .ok (.aload_n 0, 1) := by decide +kernel
theorem dL_law_222 : decode cL_law 222 = .ok (.iload_n 3, 1) := by decide +kernel
theorem dL_law_223 : decode cL_law 223 = .ok (.iconst 2, 1) := by decide +kernel
theorem dL_law_224 : decode cL_law 224 = .ok (.iadd, 1) := by decide +kernel
theorem dL_law_225 : decode cL_law 225 = .ok (.iaload, 1) := by decide +kernel
theorem dL_law_226 : decode cL_law 226 = .ok (.aload_n 0, 1) := by decide +kernel
theorem dL_law_227 : decode cL_law 227 = .ok (.iload_n 3, 1) := by decide +kernel
theorem dL_law_228 : decode cL_law 228 = .ok (.iconst 3, 1) := by decide +kernel
theorem dL_law_229 : decode cL_law 229 = .ok (.iadd, 1) := by decide +kernel
theorem dL_law_230 : decode cL_law 230 = .ok (.iaload, 1) := by decide +kernel
theorem dL_law_231 : decode cL_law 231 = .ok (.invokevirtual 18, 3) := by decide +kernel
theorem dL_law_234 : decode cL_law 234 = .ok (.aload_n 2, 1) := by decide +kernel
theorem dL_law_235 : decode cL_law 235 = .ok (.aload_n 0, 1) := by decide +kernel
theorem dL_law_236 : decode cL_law 236 = .ok (.iload_n 3, 1) := by decide +kernel
theorem dL_law_237 : decode cL_law 237 = .ok (.iconst 1, 1) := by decide +kernel
theorem dL_law_238 : decode cL_law 238 = .ok (.iadd, 1) := by decide +kernel
theorem dL_law_239 : decode cL_law 239 = .ok (.iaload, 1) := by decide +kernel
theorem dL_law_240 : decode cL_law 240 = .ok (.aload_n 0, 1) := by decide +kernel
theorem dL_law_241 : decode cL_law 241 = .ok (.iload_n 3, 1) := by decide +kernel
theorem dL_law_242 : decode cL_law 242 = .ok (.iconst 2, 1) := by decide +kernel
theorem dL_law_243 : decode cL_law 243 = .ok (.iadd, 1) := by decide +kernel
theorem dL_law_244 : decode cL_law 244 = .ok (.iaload, 1) := by decide +kernel
theorem dL_law_245 : decode cL_law 245 = .ok (.aload_n 0, 1) := by decide +kernel
theorem dL_law_246 : decode cL_law 246 = .ok (.iload_n 3, 1) := by decide +kernel
theorem dL_law_247 : decode cL_law 247 = .ok (.iconst 3, 1) := by decide +kernel
theorem dL_law_248 : decode cL_law 248 = .ok (.iadd, 1) := by decide +kernel
theorem dL_law_249 : decode cL_law 249 = .ok (.iaload, 1) := by decide +kernel
theorem dL_law_250 : decode cL_law 250 = .ok (.invokevirtual 21, 3) := by decide +kernel
theorem dL_law_253 : decode cL_law 253 = .ok (.if_icmp .eq 742, 3) := by decide +kernel
theorem dL_law_256 : decode cL_law 256 = .ok (.iconst 0, 1) := by decide +kernel
theorem dL_law_257 : decode cL_law 257 = .ok (.ireturn, 1) := by decide +kernel
theorem dL_law_258 : decode cL_law 258 = .ok (.aload_n 1, 1) := by decide +kernel
theorem dL_law_259 : decode cL_law 259 = .ok (.aload_n 0, 1) := by decide +kernel
theorem dL_law_260 : decode cL_law 260 = .ok (.iload_n 3, 1) := by decide +kernel
theorem dL_law_261 : decode cL_law 261 = .ok (.iconst 1, 1) := by decide +kernel
theorem dL_law_262 : decode cL_law 262 = .ok (.iadd, 1) := by decide +kernel
theorem dL_law_263 : decode cL_law 263 = .ok (.iaload, 1) := by decide +kernel
theorem dL_law_264 : decode cL_law 264 = .ok (.aload_n 0, 1) := by decide +kernel
theorem dL_law_265 : decode cL_law 265 = .ok (.iload_n 3, 1) := by decide +kernel
theorem dL_law_266 : decode cL_law 266 = .ok (.iconst 2, 1) := by decide +kernel
theorem dL_law_267 : decode cL_law 267 = .ok (.iadd, 1) := by decide +kernel
theorem dL_law_268 : decode cL_law 268 = .ok (.iaload, 1) := by decide +kernel
theorem dL_law_269 : decode cL_law 269 = .ok (.aload_n 0, 1) := by decide +kernel
theorem dL_law_270 : decode cL_law 270 = .ok (.iload_n 3, 1) := by decide +kernel
theorem dL_law_271 : decode cL_law 271 = .ok (.iconst 3, 1) := by decide +kernel
theorem dL_law_272 : decode cL_law 272 = .ok (.iadd, 1) := by decide +kernel
theorem dL_law_273 : decode cL_law 273 = .ok (.iaload, 1) := by decide +kernel
theorem dL_law_274 : decode cL_law 274 = .ok (.aload_n 0, 1) := by decide +kernel
theorem dL_law_275 : decode cL_law 275 = .ok (.iload_n 3, 1) := by decide +kernel
theorem dL_law_276 : decode cL_law 276 = .ok (.iconst 4, 1) := by decide +kernel
theorem dL_law_277 : decode cL_law 277 = .ok (.iadd, 1) := by decide +kernel
theorem dL_law_278 : decode cL_law 278 = .ok (.iaload, 1) := by decide +kernel
theorem dL_law_279 : decode cL_law 279 = .ok (.aload_n 0, 1) := by decide +kernel
theorem dL_law_280 : decode cL_law 280 = .ok (.iload_n 3, 1) := by decide +kernel
theorem dL_law_281 : decode cL_law 281 = .ok (.iconst 5, 1) := by decide +kernel
theorem dL_law_282 : decode cL_law 282 = .ok (.iadd, 1) := by decide +kernel
theorem dL_law_283 : decode cL_law 283 = .ok (.iaload, 1) := by decide +kernel
theorem dL_law_284 : decode cL_law 284 = .ok (.invokevirtual 22, 3) := by decide +kernel
theorem dL_law_287 : decode cL_law 287 = .ok (.aload_n 2, 1) := by decide +kernel
theorem dL_law_288 : decode cL_law 288 = .ok (.aload_n 0, 1) := by decide +kernel
theorem dL_law_289 : decode cL_law 289 = .ok (.iload_n 3, 1) := by decide +kernel
theorem dL_law_290 : decode cL_law 290 = .ok (.iconst 1, 1) := by decide +kernel
theorem dL_law_291 : decode cL_law 291 = .ok (.iadd, 1) := by decide +kernel
theorem dL_law_292 : decode cL_law 292 = .ok (.iaload, 1) := by decide +kernel
theorem dL_law_293 : decode cL_law 293 = .ok (.aload_n 0, 1) := by decide +kernel
theorem dL_law_294 : decode cL_law 294 = .ok (.iload_n 3, 1) := by decide +kernel
theorem dL_law_295 : decode cL_law 295 = .ok (.iconst 2, 1) := by decide +kernel
theorem dL_law_296 : decode cL_law 296 = .ok (.iadd, 1) := by decide +kernel
theorem dL_law_297 : decode cL_law 297 = .ok (.iaload, 1) := by decide +kernel
theorem dL_law_298 : decode cL_law 298 = .ok (.aload_n 0, 1) := by decide +kernel
theorem dL_law_299 : decode cL_law 299 = .ok (.iload_n 3, 1) := by decide +kernel
theorem dL_law_300 : decode cL_law 300 = .ok (.iconst 3, 1) := by decide +kernel
theorem dL_law_301 : decode cL_law 301 = .ok (.iadd, 1) := by decide +kernel
theorem dL_law_302 : decode cL_law 302 = .ok (.iaload, 1) := by decide +kernel
theorem dL_law_303 : decode cL_law 303 = .ok (.aload_n 0, 1) := by decide +kernel
theorem dL_law_304 : decode cL_law 304 = .ok (.iload_n 3, 1) := by decide +kernel
theorem dL_law_305 : decode cL_law 305 = .ok (.iconst 4, 1) := by decide +kernel
theorem dL_law_306 : decode cL_law 306 = .ok (.iadd, 1) := by decide +kernel
theorem dL_law_307 : decode cL_law 307 = .ok (.iaload, 1) := by decide +kernel
theorem dL_law_308 : decode cL_law 308 = .ok (.aload_n 0, 1) := by decide +kernel
theorem dL_law_309 : decode cL_law 309 = .ok (.iload_n 3, 1) := by decide +kernel
theorem dL_law_310 : decode cL_law 310 = .ok (.iconst 5, 1) := by decide +kernel
theorem dL_law_311 : decode cL_law 311 = .ok (.iadd, 1) := by decide +kernel
theorem dL_law_312 : decode cL_law 312 = .ok (.iaload, 1) := by decide +kernel
theorem dL_law_313 : decode cL_law 313 = .ok (.invokevirtual 26, 3) := by decide +kernel
theorem dL_law_316 : decode cL_law 316 = .ok (.if_icmp .eq 679, 3) := by decide +kernel
theorem dL_law_319 : decode cL_law 319 = .ok (.iconst 0, 1) := by decide +kernel
theorem dL_law_320 : decode cL_law 320 = .ok (.ireturn, 1) := by decide +kernel
theorem dL_law_321 : decode cL_law 321 = .ok (.aload_n 1, 1) := by decide +kernel
theorem dL_law_322 : decode cL_law 322 = .ok (.aload_n 0, 1) := by decide +kernel
theorem dL_law_323 : decode cL_law 323 = .ok (.iload_n 3, 1) := by decide +kernel
theorem dL_law_324 : decode cL_law 324 = .ok (.iconst 1, 1) := by decide +kernel
theorem dL_law_325 : decode cL_law 325 = .ok (.iadd, 1) := by decide +kernel
theorem dL_law_326 : decode cL_law 326 = .ok (.iaload, 1) := by decide +kernel
theorem dL_law_327 : decode cL_law 327 = .ok (.invokevirtual 27, 3) := by decide +kernel
theorem dL_law_330 : decode cL_law 330 = .ok (.aload_n 2, 1) := by decide +kernel
theorem dL_law_331 : decode cL_law 331 = .ok (.aload_n 0, 1) := by decide +kernel
theorem dL_law_332 : decode cL_law 332 = .ok (.iload_n 3, 1) := by decide +kernel
theorem dL_law_333 : decode cL_law 333 = .ok (.iconst 1, 1) := by decide +kernel
theorem dL_law_334 : decode cL_law 334 = .ok (.iadd, 1) := by decide +kernel
theorem dL_law_335 : decode cL_law 335 = .ok (.iaload, 1) := by decide +kernel
theorem dL_law_336 : decode cL_law 336 = .ok (.invokevirtual 31, 3) := by decide +kernel
theorem dL_law_339 : decode cL_law 339 = .ok (.if_icmp .eq 656, 3) := by decide +kernel
theorem dL_law_342 : decode cL_law 342 = .ok (.iconst 0, 1) := by decide +kernel
theorem dL_law_343 : decode cL_law 343 = .ok (.ireturn, 1) := by decide +kernel
theorem dL_law_344 : decode cL_law 344 = .ok (.aload_n 1, 1) := by decide +kernel
theorem dL_law_345 : decode cL_law 345 = .ok (.aload_n 0, 1) := by decide +kernel
theorem dL_law_346 : decode cL_law 346 = .ok (.iload_n 3, 1) := by decide +kernel
theorem dL_law_347 : decode cL_law 347 = .ok (.iconst 1, 1) := by decide +kernel
theorem dL_law_348 : decode cL_law 348 = .ok (.iadd, 1) := by decide +kernel
theorem dL_law_349 : decode cL_law 349 = .ok (.iaload, 1) := by decide +kernel
theorem dL_law_350 : decode cL_law 350 = .ok (.invokevirtual 32, 3) := by decide +kernel
theorem dL_law_353 : decode cL_law 353 = .ok (.aload_n 2, 1) := by decide +kernel
theorem dL_law_354 : decode cL_law 354 = .ok (.aload_n 0, 1) := by decide +kernel
theorem dL_law_355 : decode cL_law 355 = .ok (.iload_n 3, 1) := by decide +kernel
theorem dL_law_356 : decode cL_law 356 = .ok (.iconst 1, 1) := by decide +kernel
theorem dL_law_357 : decode cL_law 357 = .ok (.iadd, 1) := by decide +kernel
theorem dL_law_358 : decode cL_law 358 = .ok (.iaload, 1) := by decide +kernel
theorem dL_law_359 : decode cL_law 359 = .ok (.invokevirtual 35, 3) := by decide +kernel
theorem dL_law_362 : decode cL_law 362 = .ok (.if_icmp .eq 633, 3) := by decide +kernel
theorem dL_law_365 : decode cL_law 365 = .ok (.iconst 0, 1) := by decide +kernel
theorem dL_law_366 : decode cL_law 366 = .ok (.ireturn, 1) := by decide +kernel
theorem dL_law_367 : decode cL_law 367 = .ok (.aload_n 1, 1) := by decide +kernel
theorem dL_law_368 : decode cL_law 368 = .ok (.invokevirtual 36, 3) := by decide +kernel
theorem dL_law_371 : decode cL_law 371 = .ok (.aload_n 2, 1) := by decide +kernel
theorem dL_law_372 : decode cL_law 372 = .ok (.invokevirtual 40, 3) := by decide +kernel
theorem dL_law_375 : decode cL_law 375 = .ok (.if_icmp .eq 620, 3) := by decide +kernel
theorem dL_law_378 : decode cL_law 378 = .ok (.iconst 0, 1) := by decide +kernel
theorem dL_law_379 : decode cL_law 379 = .ok (.ireturn, 1) := by decide +kernel
theorem dL_law_380 : decode cL_law 380 = .ok (.aload_n 1, 1) := by decide +kernel
theorem dL_law_381 : decode cL_law 381 = .ok (.invokevirtual 41, 3) := by decide +kernel
theorem dL_law_384 : decode cL_law 384 = .ok (.aload_n 2, 1) := by decide +kernel
theorem dL_law_385 : decode cL_law 385 = .ok (.invokevirtual 44, 3) := by decide +kernel
theorem dL_law_388 : decode cL_law 388 = .ok (.if_icmp .eq 607, 3) := by decide +kernel
theorem dL_law_391 : decode cL_law 391 = .ok (.iconst 0, 1) := by decide +kernel
theorem dL_law_392 : decode cL_law 392 = .ok (.ireturn, 1) := by decide +kernel
theorem dL_law_393 : decode cL_law 393 = .ok (.aload_n 1, 1) := by decide +kernel
theorem dL_law_394 : decode cL_law 394 = .ok (.invokevirtual 45, 3) := by decide +kernel
theorem dL_law_397 : decode cL_law 397 = .ok (.aload_n 2, 1) := by decide +kernel
theorem dL_law_398 : decode cL_law 398 = .ok (.invokevirtual 48, 3) := by decide +kernel
theorem dL_law_401 : decode cL_law 401 = .ok (.if_icmp .eq 594, 3) := by decide +kernel
theorem dL_law_404 : decode cL_law 404 = .ok (.iconst 0, 1) := by decide +kernel
theorem dL_law_405 : decode cL_law 405 = .ok (.ireturn, 1) := by decide +kernel
theorem dL_law_406 : decode cL_law 406 = .ok (.aload_n 1, 1) := by decide +kernel
theorem dL_law_407 : decode cL_law 407 = .ok (.aload_n 0, 1) := by decide +kernel
theorem dL_law_408 : decode cL_law 408 = .ok (.iload_n 3, 1) := by decide +kernel
theorem dL_law_409 : decode cL_law 409 = .ok (.iconst 1, 1) := by decide +kernel
theorem dL_law_410 : decode cL_law 410 = .ok (.iadd, 1) := by decide +kernel
theorem dL_law_411 : decode cL_law 411 = .ok (.iaload, 1) := by decide +kernel
theorem dL_law_412 : decode cL_law 412 = .ok (.aload_n 0, 1) := by decide +kernel
theorem dL_law_413 : decode cL_law 413 = .ok (.iload_n 3, 1) := by decide +kernel
theorem dL_law_414 : decode cL_law 414 = .ok (.iconst 2, 1) := by decide +kernel
theorem dL_law_415 : decode cL_law 415 = .ok (.iadd, 1) := by decide +kernel
theorem dL_law_416 : decode cL_law 416 = .ok (.iaload, 1) := by decide +kernel
theorem dL_law_417 : decode cL_law 417 = .ok (.invokevirtual 49, 3) := by decide +kernel
theorem dL_law_420 : decode cL_law 420 = .ok (.aload_n 2, 1) := by decide +kernel
theorem dL_law_421 : decode cL_law 421 = .ok (.aload_n 0, 1) := by decide +kernel
theorem dL_law_422 : decode cL_law 422 = .ok (.iload_n 3, 1) := by decide +kernel
theorem dL_law_423 : decode cL_law 423 = .ok (.iconst 1, 1) := by decide +kernel
theorem dL_law_424 : decode cL_law 424 = .ok (.iadd, 1) := by decide +kernel
theorem dL_law_425 : decode cL_law 425 = .ok (.iaload, 1) := by decide +kernel
theorem dL_law_426 : decode cL_law 426 = .ok (.aload_n 0, 1) := by decide +kernel
theorem dL_law_427 : decode cL_law 427 = .ok (.iload_n 3, 1) := by decide +kernel
theorem dL_law_428 : decode cL_law 428 = .ok (.iconst 2, 1) := by decide +kernel
theorem dL_law_429 : decode cL_law 429 = .ok (.iadd, 1) := by decide +kernel
theorem dL_law_430 : decode cL_law 430 = .ok (.iaload, 1) := by decide +kernel
theorem dL_law_431 : decode cL_law 431 = .ok (.invokevirtual 53, 3) := by decide +kernel
theorem dL_law_434 : decode cL_law 434 = .ok (.if_icmp .eq 561, 3) := by decide +kernel
theorem dL_law_437 : decode cL_law 437 = .ok (.iconst 0, 1) := by decide +kernel
theorem dL_law_438 : decode cL_law 438 = .ok (.ireturn, 1) := by decide +kernel
theorem dL_law_439 : decode cL_law 439 = .ok (.aload_n 1, 1) := by decide +kernel
theorem dL_law_440 : decode cL_law 440 = .ok (.aload_n 0, 1) := by decide +kernel
theorem dL_law_441 : decode cL_law 441 = .ok (.iload_n 3, 1) := by decide +kernel
theorem dL_law_442 : decode cL_law 442 = .ok (.iconst 1, 1) := by decide +kernel
theorem dL_law_443 : decode cL_law 443 = .ok (.iadd, 1) := by decide +kernel
theorem dL_law_444 : decode cL_law 444 = .ok (.iaload, 1) := by decide +kernel
theorem dL_law_445 : decode cL_law 445 = .ok (.aload_n 0, 1) := by decide +kernel
theorem dL_law_446 : decode cL_law 446 = .ok (.iload_n 3, 1) := by decide +kernel
theorem dL_law_447 : decode cL_law 447 = .ok (.iconst 2, 1) := by decide +kernel
theorem dL_law_448 : decode cL_law 448 = .ok (.iadd, 1) := by decide +kernel
theorem dL_law_449 : decode cL_law 449 = .ok (.iaload, 1) := by decide +kernel
theorem dL_law_450 : decode cL_law 450 = .ok (.invokevirtual 54, 3) := by decide +kernel
theorem dL_law_453 : decode cL_law 453 = .ok (.aload_n 2, 1) := by decide +kernel
theorem dL_law_454 : decode cL_law 454 = .ok (.aload_n 0, 1) := by decide +kernel
theorem dL_law_455 : decode cL_law 455 = .ok (.iload_n 3, 1) := by decide +kernel
theorem dL_law_456 : decode cL_law 456 = .ok (.iconst 1, 1) := by decide +kernel
theorem dL_law_457 : decode cL_law 457 = .ok (.iadd, 1) := by decide +kernel
theorem dL_law_458 : decode cL_law 458 = .ok (.iaload, 1) := by decide +kernel
theorem dL_law_459 : decode cL_law 459 = .ok (.aload_n 0, 1) := by decide +kernel
theorem dL_law_460 : decode cL_law 460 = .ok (.iload_n 3, 1) := by decide +kernel
theorem dL_law_461 : decode cL_law 461 = .ok (.iconst 2, 1) := by decide +kernel
theorem dL_law_462 : decode cL_law 462 = .ok (.iadd, 1) := by decide +kernel
theorem dL_law_463 : decode cL_law 463 = .ok (.iaload, 1) := by decide +kernel
theorem dL_law_464 : decode cL_law 464 = .ok (.invokevirtual 57, 3) := by decide +kernel
theorem dL_law_467 : decode cL_law 467 = .ok (.if_icmp .eq 528, 3) := by decide +kernel
theorem dL_law_470 : decode cL_law 470 = .ok (.iconst 0, 1) := by decide +kernel
theorem dL_law_471 : decode cL_law 471 = .ok (.ireturn, 1) := by decide +kernel
theorem dL_law_472 : decode cL_law 472 = .ok (.aload_n 1, 1) := by decide +kernel
theorem dL_law_473 : decode cL_law 473 = .ok (.invokevirtual 58, 3) := by decide +kernel
theorem dL_law_476 : decode cL_law 476 = .ok (.aload_n 2, 1) := by decide +kernel
theorem dL_law_477 : decode cL_law 477 = .ok (.invokevirtual 61, 3) := by decide +kernel
theorem dL_law_480 : decode cL_law 480 = .ok (.if_icmp .eq 515, 3) := by decide +kernel
theorem dL_law_483 : decode cL_law 483 = .ok (.iconst 0, 1) := by decide +kernel
theorem dL_law_484 : decode cL_law 484 = .ok (.ireturn, 1) := by decide +kernel
theorem dL_law_485 : decode cL_law 485 = .ok (.aload_n 1, 1) := by decide +kernel
theorem dL_law_486 : decode cL_law 486 = .ok (.aload_n 0, 1) := by decide +kernel
theorem dL_law_487 : decode cL_law 487 = .ok (.iload_n 3, 1) := by decide +kernel
theorem dL_law_488 : decode cL_law 488 = .ok (.iconst 1, 1) := by decide +kernel
theorem dL_law_489 : decode cL_law 489 = .ok (.iadd, 1) := by decide +kernel
theorem dL_law_490 : decode cL_law 490 = .ok (.iaload, 1) := by decide +kernel
theorem dL_law_491 : decode cL_law 491 = .ok (.aload_n 0, 1) := by decide +kernel
theorem dL_law_492 : decode cL_law 492 = .ok (.iload_n 3, 1) := by decide +kernel
theorem dL_law_493 : decode cL_law 493 = .ok (.iconst 2, 1) := by decide +kernel
theorem dL_law_494 : decode cL_law 494 = .ok (.iadd, 1) := by decide +kernel
theorem dL_law_495 : decode cL_law 495 = .ok (.iaload, 1) := by decide +kernel
theorem dL_law_496 : decode cL_law 496 = .ok (.invokevirtual 62, 3) := by decide +kernel
theorem dL_law_499 : decode cL_law 499 = .ok (.aload_n 2, 1) := by decide +kernel
theorem dL_law_500 : decode cL_law 500 = .ok (.aload_n 0, 1) := by decide +kernel
theorem dL_law_501 : decode cL_law 501 = .ok (.iload_n 3, 1) := by decide +kernel
theorem dL_law_502 : decode cL_law 502 = .ok (.iconst 1, 1) := by decide +kernel
theorem dL_law_503 : decode cL_law 503 = .ok (.iadd, 1) := by decide +kernel
theorem dL_law_504 : decode cL_law 504 = .ok (.iaload, 1) := by decide +kernel
theorem dL_law_505 : decode cL_law 505 = .ok (.aload_n 0, 1) := by decide +kernel
theorem dL_law_506 : decode cL_law 506 = .ok (.iload_n 3, 1) := by decide +kernel
theorem dL_law_507 : decode cL_law 507 = .ok (.iconst 2, 1) := by decide +kernel
theorem dL_law_508 : decode cL_law 508 = .ok (.iadd, 1) := by decide +kernel
theorem dL_law_509 : decode cL_law 509 = .ok (.iaload, 1) := by decide +kernel
theorem dL_law_510 : decode cL_law 510 = .ok (.invokevirtual 65, 3) := by decide +kernel
theorem dL_law_513 : decode cL_law 513 = .ok (.if_icmp .eq 482, 3) := by decide +kernel
theorem dL_law_516 : decode cL_law 516 = .ok (.iconst 0, 1) := by decide +kernel
theorem dL_law_517 : decode cL_law 517 = .ok (.ireturn, 1) := by decide +kernel
theorem dL_law_518 : decode cL_law 518 = .ok (.aload_n 1, 1) := by decide +kernel
theorem dL_law_519 : decode cL_law 519 = .ok (.aload_n 0, 1) := by decide +kernel
theorem dL_law_520 : decode cL_law 520 = .ok (.iload_n 3, 1) := by decide +kernel
theorem dL_law_521 : decode cL_law 521 = .ok (.iconst 1, 1) := by decide +kernel
theorem dL_law_522 : decode cL_law 522 = .ok (.iadd, 1) := by decide +kernel
theorem dL_law_523 : decode cL_law 523 = .ok (.iaload, 1) := by decide +kernel
theorem dL_law_524 : decode cL_law 524 = .ok (.invokevirtual 66, 3) := by decide +kernel
theorem dL_law_527 : decode cL_law 527 = .ok (.aload_n 2, 1) := by decide +kernel
theorem dL_law_528 : decode cL_law 528 = .ok (.aload_n 0, 1) := by decide +kernel
theorem dL_law_529 : decode cL_law 529 = .ok (.iload_n 3, 1) := by decide +kernel
theorem dL_law_530 : decode cL_law 530 = .ok (.iconst 1, 1) := by decide +kernel
theorem dL_law_531 : decode cL_law 531 = .ok (.iadd, 1) := by decide +kernel
theorem dL_law_532 : decode cL_law 532 = .ok (.iaload, 1) := by decide +kernel
theorem dL_law_533 : decode cL_law 533 = .ok (.invokevirtual 69, 3) := by decide +kernel
theorem dL_law_536 : decode cL_law 536 = .ok (.if_icmp .eq 459, 3) := by decide +kernel
theorem dL_law_539 : decode cL_law 539 = .ok (.iconst 0, 1) := by decide +kernel
theorem dL_law_540 : decode cL_law 540 = .ok (.ireturn, 1) := by decide +kernel
theorem dL_law_541 : decode cL_law 541 = .ok (.aload_n 1, 1) := by decide +kernel
theorem dL_law_542 : decode cL_law 542 = .ok (.aload_n 0, 1) := by decide +kernel
theorem dL_law_543 : decode cL_law 543 = .ok (.iload_n 3, 1) := by decide +kernel
theorem dL_law_544 : decode cL_law 544 = .ok (.iconst 1, 1) := by decide +kernel
theorem dL_law_545 : decode cL_law 545 = .ok (.iadd, 1) := by decide +kernel
theorem dL_law_546 : decode cL_law 546 = .ok (.iaload, 1) := by decide +kernel
theorem dL_law_547 : decode cL_law 547 = .ok (.invokevirtual 70, 3) := by decide +kernel
theorem dL_law_550 : decode cL_law 550 = .ok (.aload_n 2, 1) := by decide +kernel
theorem dL_law_551 : decode cL_law 551 = .ok (.aload_n 0, 1) := by decide +kernel
theorem dL_law_552 : decode cL_law 552 = .ok (.iload_n 3, 1) := by decide +kernel
theorem dL_law_553 : decode cL_law 553 = .ok (.iconst 1, 1) := by decide +kernel
theorem dL_law_554 : decode cL_law 554 = .ok (.iadd, 1) := by decide +kernel
theorem dL_law_555 : decode cL_law 555 = .ok (.iaload, 1) := by decide +kernel
theorem dL_law_556 : decode cL_law 556 = .ok (.invokevirtual 73, 3) := by decide +kernel
theorem dL_law_559 : decode cL_law 559 = .ok (.if_icmp .eq 436, 3) := by decide +kernel
theorem dL_law_562 : decode cL_law 562 = .ok (.iconst 0, 1) := by decide +kernel
theorem dL_law_563 : decode cL_law 563 = .ok (.ireturn, 1) := by decide +kernel
theorem dL_law_564 : decode cL_law 564 = .ok (.aload_n 1, 1) := by decide +kernel
theorem dL_law_565 : decode cL_law 565 = .ok (.aload_n 0, 1) := by decide +kernel
theorem dL_law_566 : decode cL_law 566 = .ok (.iload_n 3, 1) := by decide +kernel
theorem dL_law_567 : decode cL_law 567 = .ok (.iconst 1, 1) := by decide +kernel
theorem dL_law_568 : decode cL_law 568 = .ok (.iadd, 1) := by decide +kernel
theorem dL_law_569 : decode cL_law 569 = .ok (.iaload, 1) := by decide +kernel
theorem dL_law_570 : decode cL_law 570 = .ok (.aload_n 0, 1) := by decide +kernel
theorem dL_law_571 : decode cL_law 571 = .ok (.iload_n 3, 1) := by decide +kernel
theorem dL_law_572 : decode cL_law 572 = .ok (.iconst 2, 1) := by decide +kernel
theorem dL_law_573 : decode cL_law 573 = .ok (.iadd, 1) := by decide +kernel
theorem dL_law_574 : decode cL_law 574 = .ok (.iaload, 1) := by decide +kernel
theorem dL_law_575 : decode cL_law 575 = .ok (.invokevirtual 74, 3) := by decide +kernel
theorem dL_law_578 : decode cL_law 578 = .ok (.aload_n 2, 1) := by decide +kernel
theorem dL_law_579 : decode cL_law 579 = .ok (.aload_n 0, 1) := by decide +kernel
theorem dL_law_580 : decode cL_law 580 = .ok (.iload_n 3, 1) := by decide +kernel
theorem dL_law_581 : decode cL_law 581 = .ok (.iconst 1, 1) := by decide +kernel
theorem dL_law_582 : decode cL_law 582 = .ok (.iadd, 1) := by decide +kernel
theorem dL_law_583 : decode cL_law 583 = .ok (.iaload, 1) := by decide +kernel
theorem dL_law_584 : decode cL_law 584 = .ok (.aload_n 0, 1) := by decide +kernel
theorem dL_law_585 : decode cL_law 585 = .ok (.iload_n 3, 1) := by decide +kernel
theorem dL_law_586 : decode cL_law 586 = .ok (.iconst 2, 1) := by decide +kernel
theorem dL_law_587 : decode cL_law 587 = .ok (.iadd, 1) := by decide +kernel
theorem dL_law_588 : decode cL_law 588 = .ok (.iaload, 1) := by decide +kernel
theorem dL_law_589 : decode cL_law 589 = .ok (.invokevirtual 77, 3) := by decide +kernel
theorem dL_law_592 : decode cL_law 592 = .ok (.if_icmp .eq 403, 3) := by decide +kernel
theorem dL_law_595 : decode cL_law 595 = .ok (.iconst 0, 1) := by decide +kernel
theorem dL_law_596 : decode cL_law 596 = .ok (.ireturn, 1) := by decide +kernel
theorem dL_law_597 : decode cL_law 597 = .ok (.aload_n 1, 1) := by decide +kernel
theorem dL_law_598 : decode cL_law 598 = .ok (.invokevirtual 78, 3) := by decide +kernel
theorem dL_law_601 : decode cL_law 601 = .ok (.aload_n 2, 1) := by decide +kernel
theorem dL_law_602 : decode cL_law 602 = .ok (.invokevirtual 81, 3) := by decide +kernel
theorem dL_law_605 : decode cL_law 605 = .ok (.if_icmp .eq 390, 3) := by decide +kernel
theorem dL_law_608 : decode cL_law 608 = .ok (.iconst 0, 1) := by decide +kernel
theorem dL_law_609 : decode cL_law 609 = .ok (.ireturn, 1) := by decide +kernel
theorem dL_law_610 : decode cL_law 610 = .ok (.aload_n 1, 1) := by decide +kernel
theorem dL_law_611 : decode cL_law 611 = .ok (.aload_n 0, 1) := by decide +kernel
theorem dL_law_612 : decode cL_law 612 = .ok (.iload_n 3, 1) := by decide +kernel
theorem dL_law_613 : decode cL_law 613 = .ok (.iconst 1, 1) := by decide +kernel
theorem dL_law_614 : decode cL_law 614 = .ok (.iadd, 1) := by decide +kernel
theorem dL_law_615 : decode cL_law 615 = .ok (.iaload, 1) := by decide +kernel
theorem dL_law_616 : decode cL_law 616 = .ok (.invokevirtual 82, 3) := by decide +kernel
theorem dL_law_619 : decode cL_law 619 = .ok (.aload_n 2, 1) := by decide +kernel
theorem dL_law_620 : decode cL_law 620 = .ok (.aload_n 0, 1) := by decide +kernel
theorem dL_law_621 : decode cL_law 621 = .ok (.iload_n 3, 1) := by decide +kernel
theorem dL_law_622 : decode cL_law 622 = .ok (.iconst 1, 1) := by decide +kernel
theorem dL_law_623 : decode cL_law 623 = .ok (.iadd, 1) := by decide +kernel
theorem dL_law_624 : decode cL_law 624 = .ok (.iaload, 1) := by decide +kernel
theorem dL_law_625 : decode cL_law 625 = .ok (.invokevirtual 85, 3) := by decide +kernel
theorem dL_law_628 : decode cL_law 628 = .ok (.if_icmp .eq 367, 3) := by decide +kernel
theorem dL_law_631 : decode cL_law 631 = .ok (.iconst 0, 1) := by decide +kernel
theorem dL_law_632 : decode cL_law 632 = .ok (.ireturn, 1) := by decide +kernel
theorem dL_law_633 : decode cL_law 633 = .ok (.aload_n 1, 1) := by decide +kernel
theorem dL_law_634 : decode cL_law 634 = .ok (.aload_n 0, 1) := by decide +kernel
theorem dL_law_635 : decode cL_law 635 = .ok (.iload_n 3, 1) := by decide +kernel
theorem dL_law_636 : decode cL_law 636 = .ok (.iconst 1, 1) := by decide +kernel
theorem dL_law_637 : decode cL_law 637 = .ok (.iadd, 1) := by decide +kernel
theorem dL_law_638 : decode cL_law 638 = .ok (.iaload, 1) := by decide +kernel
theorem dL_law_639 : decode cL_law 639 = .ok (.invokevirtual 86, 3) := by decide +kernel
theorem dL_law_642 : decode cL_law 642 = .ok (.aload_n 2, 1) := by decide +kernel
theorem dL_law_643 : decode cL_law 643 = .ok (.aload_n 0, 1) := by decide +kernel
theorem dL_law_644 : decode cL_law 644 = .ok (.iload_n 3, 1) := by decide +kernel
theorem dL_law_645 : decode cL_law 645 = .ok (.iconst 1, 1) := by decide +kernel
theorem dL_law_646 : decode cL_law 646 = .ok (.iadd, 1) := by decide +kernel
theorem dL_law_647 : decode cL_law 647 = .ok (.iaload, 1) := by decide +kernel
theorem dL_law_648 : decode cL_law 648 = .ok (.invokevirtual 89, 3) := by decide +kernel
theorem dL_law_651 : decode cL_law 651 = .ok (.if_icmp .eq 344, 3) := by decide +kernel
theorem dL_law_654 : decode cL_law 654 = .ok (.iconst 0, 1) := by decide +kernel
theorem dL_law_655 : decode cL_law 655 = .ok (.ireturn, 1) := by decide +kernel
theorem dL_law_656 : decode cL_law 656 = .ok (.aload_n 1, 1) := by decide +kernel
theorem dL_law_657 : decode cL_law 657 = .ok (.aload_n 0, 1) := by decide +kernel
theorem dL_law_658 : decode cL_law 658 = .ok (.iload_n 3, 1) := by decide +kernel
theorem dL_law_659 : decode cL_law 659 = .ok (.iconst 1, 1) := by decide +kernel
theorem dL_law_660 : decode cL_law 660 = .ok (.iadd, 1) := by decide +kernel
theorem dL_law_661 : decode cL_law 661 = .ok (.iaload, 1) := by decide +kernel
theorem dL_law_662 : decode cL_law 662 = .ok (.invokevirtual 90, 3) := by decide +kernel
theorem dL_law_665 : decode cL_law 665 = .ok (.aload_n 2, 1) := by decide +kernel
theorem dL_law_666 : decode cL_law 666 = .ok (.aload_n 0, 1) := by decide +kernel
theorem dL_law_667 : decode cL_law 667 = .ok (.iload_n 3, 1) := by decide +kernel
theorem dL_law_668 : decode cL_law 668 = .ok (.iconst 1, 1) := by decide +kernel
theorem dL_law_669 : decode cL_law 669 = .ok (.iadd, 1) := by decide +kernel
theorem dL_law_670 : decode cL_law 670 = .ok (.iaload, 1) := by decide +kernel
theorem dL_law_671 : decode cL_law 671 = .ok (.invokevirtual 93, 3) := by decide +kernel
theorem dL_law_674 : decode cL_law 674 = .ok (.if_icmp .eq 321, 3) := by decide +kernel
theorem dL_law_677 : decode cL_law 677 = .ok (.iconst 0, 1) := by decide +kernel
theorem dL_law_678 : decode cL_law 678 = .ok (.ireturn, 1) := by decide +kernel
theorem dL_law_679 : decode cL_law 679 = .ok (.aload_n 1, 1) := by decide +kernel
theorem dL_law_680 : decode cL_law 680 = .ok (.aload_n 0, 1) := by decide +kernel
theorem dL_law_681 : decode cL_law 681 = .ok (.iload_n 3, 1) := by decide +kernel
theorem dL_law_682 : decode cL_law 682 = .ok (.iconst 1, 1) := by decide +kernel
theorem dL_law_683 : decode cL_law 683 = .ok (.iadd, 1) := by decide +kernel
theorem dL_law_684 : decode cL_law 684 = .ok (.iaload, 1) := by decide +kernel
theorem dL_law_685 : decode cL_law 685 = .ok (.invokevirtual 94, 3) := by decide +kernel
theorem dL_law_688 : decode cL_law 688 = .ok (.aload_n 2, 1) := by decide +kernel
theorem dL_law_689 : decode cL_law 689 = .ok (.aload_n 0, 1) := by decide +kernel
theorem dL_law_690 : decode cL_law 690 = .ok (.iload_n 3, 1) := by decide +kernel
theorem dL_law_691 : decode cL_law 691 = .ok (.iconst 1, 1) := by decide +kernel
theorem dL_law_692 : decode cL_law 692 = .ok (.iadd, 1) := by decide +kernel
theorem dL_law_693 : decode cL_law 693 = .ok (.iaload, 1) := by decide +kernel
theorem dL_law_694 : decode cL_law 694 = .ok (.invokevirtual 97, 3) := by decide +kernel
theorem dL_law_697 : decode cL_law 697 = .ok (.if_icmp .eq 298, 3) := by decide +kernel
theorem dL_law_700 : decode cL_law 700 = .ok (.iconst 0, 1) := by decide +kernel
theorem dL_law_701 : decode cL_law 701 = .ok (.ireturn, 1) := by decide +kernel
theorem dL_law_702 : decode cL_law 702 = .ok (.aload_n 1, 1) := by decide +kernel
theorem dL_law_703 : decode cL_law 703 = .ok (.aload_n 0, 1) := by decide +kernel
theorem dL_law_704 : decode cL_law 704 = .ok (.iload_n 3, 1) := by decide +kernel
theorem dL_law_705 : decode cL_law 705 = .ok (.iconst 1, 1) := by decide +kernel
theorem dL_law_706 : decode cL_law 706 = .ok (.iadd, 1) := by decide +kernel
theorem dL_law_707 : decode cL_law 707 = .ok (.iaload, 1) := by decide +kernel
theorem dL_law_708 : decode cL_law 708 = .ok (.invokevirtual 98, 3) := by decide +kernel
theorem dL_law_711 : decode cL_law 711 = .ok (.aload_n 2, 1) := by decide +kernel
theorem dL_law_712 : decode cL_law 712 = .ok (.aload_n 0, 1) := by decide +kernel
theorem dL_law_713 : decode cL_law 713 = .ok (.iload_n 3, 1) := by decide +kernel
theorem dL_law_714 : decode cL_law 714 = .ok (.iconst 1, 1) := by decide +kernel
theorem dL_law_715 : decode cL_law 715 = .ok (.iadd, 1) := by decide +kernel
theorem dL_law_716 : decode cL_law 716 = .ok (.iaload, 1) := by decide +kernel
theorem dL_law_717 : decode cL_law 717 = .ok (.invokevirtual 101, 3) := by decide +kernel
theorem dL_law_720 : decode cL_law 720 = .ok (.if_icmp .eq 275, 3) := by decide +kernel
theorem dL_law_723 : decode cL_law 723 = .ok (.iconst 0, 1) := by decide +kernel
theorem dL_law_724 : decode cL_law 724 = .ok (.ireturn, 1) := by decide +kernel
theorem dL_law_725 : decode cL_law 725 = .ok (.aload_n 1, 1) := by decide +kernel
theorem dL_law_726 : decode cL_law 726 = .ok (.invokevirtual 102, 3) := by decide +kernel
theorem dL_law_729 : decode cL_law 729 = .ok (.aload_n 2, 1) := by decide +kernel
theorem dL_law_730 : decode cL_law 730 = .ok (.invokevirtual 105, 3) := by decide +kernel
theorem dL_law_733 : decode cL_law 733 = .ok (.if_icmp .eq 262, 3) := by decide +kernel
theorem dL_law_736 : decode cL_law 736 = .ok (.iconst 0, 1) := by decide +kernel
theorem dL_law_737 : decode cL_law 737 = .ok (.ireturn, 1) := by decide +kernel
theorem dL_law_738 : decode cL_law 738 = .ok (.aload_n 1, 1) := by decide +kernel
theorem dL_law_739 : decode cL_law 739 = .ok (.aload_n 0, 1) := by decide +kernel
theorem dL_law_740 : decode cL_law 740 = .ok (.iload_n 3, 1) := by decide +kernel
theorem dL_law_741 : decode cL_law 741 = .ok (.iconst 1, 1) := by decide +kernel
theorem dL_law_742 : decode cL_law 742 = .ok (.iadd, 1) := by decide +kernel
theorem dL_law_743 : decode cL_law 743 = .ok (.iaload, 1) := by decide +kernel
theorem dL_law_744 : decode cL_law 744 = .ok (.aload_n 0, 1) := by decide +kernel
theorem dL_law_745 : decode cL_law 745 = .ok (.iload_n 3, 1) := by decide +kernel
theorem dL_law_746 : decode cL_law 746 = .ok (.iconst 2, 1) := by decide +kernel
theorem dL_law_747 : decode cL_law 747 = .ok (.iadd, 1) := by decide +kernel
theorem dL_law_748 : decode cL_law 748 = .ok (.iaload, 1) := by decide +kernel
theorem dL_law_749 : decode cL_law 749 = .ok (.aload_n 0, 1) := by decide +kernel
theorem dL_law_750 : decode cL_law 750 = .ok (.iload_n 3, 1) := by decide +kernel
theorem dL_law_751 : decode cL_law 751 = .ok (.iconst 3, 1) := by decide +kernel
theorem dL_law_752 : decode cL_law 752 = .ok (.iadd, 1) := by decide +kernel
theorem dL_law_753 : decode cL_law 753 = .ok (.iaload, 1) := by decide +kernel
theorem dL_law_754 : decode cL_law 754 = .ok (.aload_n 0, 1) := by decide +kernel
theorem dL_law_755 : decode cL_law 755 = .ok (.iload_n 3, 1) := by decide +kernel
theorem dL_law_756 : decode cL_law 756 = .ok (.iconst 4, 1) := by decide +kernel
theorem dL_law_757 : decode cL_law 757 = .ok (.iadd, 1) := by decide +kernel
theorem dL_law_758 : decode cL_law 758 = .ok (.iaload, 1) := by decide +kernel
theorem dL_law_759 : decode cL_law 759 = .ok (.aload_n 0, 1) := by decide +kernel
theorem dL_law_760 : decode cL_law 760 = .ok (.iload_n 3, 1) := by decide +kernel
theorem dL_law_761 : decode cL_law 761 = .ok (.iconst 5, 1) := by decide +kernel
theorem dL_law_762 : decode cL_law 762 = .ok (.iadd, 1) := by decide +kernel
theorem dL_law_763 : decode cL_law 763 = .ok (.iaload, 1) := by decide +kernel
theorem dL_law_764 : decode cL_law 764 = .ok (.invokevirtual 106, 3) := by decide +kernel
theorem dL_law_767 : decode cL_law 767 = .ok (.aload_n 2, 1) := by decide +kernel
theorem dL_law_768 : decode cL_law 768 = .ok (.aload_n 0, 1) := by decide +kernel
theorem dL_law_769 : decode cL_law 769 = .ok (.iload_n 3, 1) := by decide +kernel
theorem dL_law_770 : decode cL_law 770 = .ok (.iconst 1, 1) := by decide +kernel
theorem dL_law_771 : decode cL_law 771 = .ok (.iadd, 1) := by decide +kernel
theorem dL_law_772 : decode cL_law 772 = .ok (.iaload, 1) := by decide +kernel
theorem dL_law_773 : decode cL_law 773 = .ok (.aload_n 0, 1) := by decide +kernel
theorem dL_law_774 : decode cL_law 774 = .ok (.iload_n 3, 1) := by decide +kernel
theorem dL_law_775 : decode cL_law 775 = .ok (.iconst 2, 1) := by decide +kernel
theorem dL_law_776 : decode cL_law 776 = .ok (.iadd, 1) := by decide +kernel
theorem dL_law_777 : decode cL_law 777 = .ok (.iaload, 1) := by decide +kernel
theorem dL_law_778 : decode cL_law 778 = .ok (.aload_n 0, 1) := by decide +kernel
theorem dL_law_779 : decode cL_law 779 = .ok (.iload_n 3, 1) := by decide +kernel
theorem dL_law_780 : decode cL_law 780 = .ok (.iconst 3, 1) := by decide +kernel
theorem dL_law_781 : decode cL_law 781 = .ok (.iadd, 1) := by decide +kernel
theorem dL_law_782 : decode cL_law 782 = .ok (.iaload, 1) := by decide +kernel
theorem dL_law_783 : decode cL_law 783 = .ok (.aload_n 0, 1) := by decide +kernel
theorem dL_law_784 : decode cL_law 784 = .ok (.iload_n 3, 1) := by decide +kernel
theorem dL_law_785 : decode cL_law 785 = .ok (.iconst 4, 1) := by decide +kernel
theorem dL_law_786 : decode cL_law 786 = .ok (.iadd, 1) := by decide +kernel
theorem dL_law_787 : decode cL_law 787 = .ok (.iaload, 1) := by decide +kernel
theorem dL_law_788 : decode cL_law 788 = .ok (.aload_n 0, 1) := by decide +kernel
theorem dL_law_789 : decode cL_law 789 = .ok (.iload_n 3, 1) := by decide +kernel
theorem dL_law_790 : decode cL_law 790 = .ok (.iconst 5, 1) := by decide +kernel
theorem dL_law_791 : decode cL_law 791 = .ok (.iadd, 1) := by decide +kernel
theorem dL_law_792 : decode cL_law 792 = .ok (.iaload, 1) := by decide +kernel
theorem dL_law_793 : decode cL_law 793 = .ok (.invokevirtual 109, 3) := by decide +kernel
theorem dL_law_796 : decode cL_law 796 = .ok (.if_icmp .eq 199, 3) := by decide +kernel
theorem dL_law_799 : decode cL_law 799 = .ok (.iconst 0, 1) := by decide +kernel
theorem dL_law_800 : decode cL_law 800 = .ok (.ireturn, 1) := by decide +kernel
theorem dL_law_801 : decode cL_law 801 = .ok (.aload_n 1, 1) := by decide +kernel
theorem dL_law_802 : decode cL_law 802 = .ok (.aload_n 0, 1) := by decide +kernel
theorem dL_law_803 : decode cL_law 803 = .ok (.iload_n 3, 1) := by decide +kernel
theorem dL_law_804 : decode cL_law 804 = .ok (.iconst 1, 1) := by decide +kernel
theorem dL_law_805 : decode cL_law 805 = .ok (.iadd, 1) := by decide +kernel
theorem dL_law_806 : decode cL_law 806 = .ok (.iaload, 1) := by decide +kernel
theorem dL_law_807 : decode cL_law 807 = .ok (.invokevirtual 110, 3) := by decide +kernel
theorem dL_law_810 : decode cL_law 810 = .ok (.aload_n 2, 1) := by decide +kernel
theorem dL_law_811 : decode cL_law 811 = .ok (.aload_n 0, 1) := by decide +kernel
theorem dL_law_812 : decode cL_law 812 = .ok (.iload_n 3, 1) := by decide +kernel
theorem dL_law_813 : decode cL_law 813 = .ok (.iconst 1, 1) := by decide +kernel
theorem dL_law_814 : decode cL_law 814 = .ok (.iadd, 1) := by decide +kernel
theorem dL_law_815 : decode cL_law 815 = .ok (.iaload, 1) := by decide +kernel
theorem dL_law_816 : decode cL_law 816 = .ok (.invokevirtual 113, 3) := by decide +kernel
theorem dL_law_819 : decode cL_law 819 = .ok (.if_icmp .eq 176, 3) := by decide +kernel
theorem dL_law_822 : decode cL_law 822 = .ok (.iconst 0, 1) := by decide +kernel
theorem dL_law_823 : decode cL_law 823 = .ok (.ireturn, 1) := by decide +kernel
theorem dL_law_824 : decode cL_law 824 = .ok (.aload_n 1, 1) := by decide +kernel
theorem dL_law_825 : decode cL_law 825 = .ok (.aload_n 0, 1) := by decide +kernel
theorem dL_law_826 : decode cL_law 826 = .ok (.iload_n 3, 1) := by decide +kernel
theorem dL_law_827 : decode cL_law 827 = .ok (.iconst 1, 1) := by decide +kernel
theorem dL_law_828 : decode cL_law 828 = .ok (.iadd, 1) := by decide +kernel
theorem dL_law_829 : decode cL_law 829 = .ok (.iaload, 1) := by decide +kernel
theorem dL_law_830 : decode cL_law 830 = .ok (.invokevirtual 114, 3) := by decide +kernel
theorem dL_law_833 : decode cL_law 833 = .ok (.aload_n 2, 1) := by decide +kernel
theorem dL_law_834 : decode cL_law 834 = .ok (.aload_n 0, 1) := by decide +kernel
theorem dL_law_835 : decode cL_law 835 = .ok (.iload_n 3, 1) := by decide +kernel
theorem dL_law_836 : decode cL_law 836 = .ok (.iconst 1, 1) := by decide +kernel
theorem dL_law_837 : decode cL_law 837 = .ok (.iadd, 1) := by decide +kernel
theorem dL_law_838 : decode cL_law 838 = .ok (.iaload, 1) := by decide +kernel
theorem dL_law_839 : decode cL_law 839 = .ok (.invokevirtual 117, 3) := by decide +kernel
theorem dL_law_842 : decode cL_law 842 = .ok (.if_icmp .eq 153, 3) := by decide +kernel
theorem dL_law_845 : decode cL_law 845 = .ok (.iconst 0, 1) := by decide +kernel
theorem dL_law_846 : decode cL_law 846 = .ok (.ireturn, 1) := by decide +kernel
theorem dL_law_847 : decode cL_law 847 = .ok (.aload_n 1, 1) := by decide +kernel
theorem dL_law_848 : decode cL_law 848 = .ok (.aload_n 0, 1) := by decide +kernel
theorem dL_law_849 : decode cL_law 849 = .ok (.iload_n 3, 1) := by decide +kernel
theorem dL_law_850 : decode cL_law 850 = .ok (.iconst 1, 1) := by decide +kernel
theorem dL_law_851 : decode cL_law 851 = .ok (.iadd, 1) := by decide +kernel
theorem dL_law_852 : decode cL_law 852 = .ok (.iaload, 1) := by decide +kernel
theorem dL_law_853 : decode cL_law 853 = .ok (.invokevirtual 118, 3) := by decide +kernel
theorem dL_law_856 : decode cL_law 856 = .ok (.aload_n 2, 1) := by decide +kernel
theorem dL_law_857 : decode cL_law 857 = .ok (.aload_n 0, 1) := by decide +kernel
theorem dL_law_858 : decode cL_law 858 = .ok (.iload_n 3, 1) := by decide +kernel
theorem dL_law_859 : decode cL_law 859 = .ok (.iconst 1, 1) := by decide +kernel
theorem dL_law_860 : decode cL_law 860 = .ok (.iadd, 1) := by decide +kernel
theorem dL_law_861 : decode cL_law 861 = .ok (.iaload, 1) := by decide +kernel
theorem dL_law_862 : decode cL_law 862 = .ok (.invokevirtual 121, 3) := by decide +kernel
theorem dL_law_865 : decode cL_law 865 = .ok (.if_icmp .eq 130, 3) := by decide +kernel
theorem dL_law_868 : decode cL_law 868 = .ok (.iconst 0, 1) := by decide +kernel
theorem dL_law_869 : decode cL_law 869 = .ok (.ireturn, 1) := by decide +kernel
theorem dL_law_870 : decode cL_law 870 = .ok (.aload_n 1, 1) := by decide +kernel
theorem dL_law_871 : decode cL_law 871 = .ok (.aload_n 0, 1) := by decide +kernel
theorem dL_law_872 : decode cL_law 872 = .ok (.iload_n 3, 1) := by decide +kernel
theorem dL_law_873 : decode cL_law 873 = .ok (.iconst 1, 1) := by decide +kernel
theorem dL_law_874 : decode cL_law 874 = .ok (.iadd, 1) := by decide +kernel
theorem dL_law_875 : decode cL_law 875 = .ok (.iaload, 1) := by decide +kernel
theorem dL_law_876 : decode cL_law 876 = .ok (.aload_n 0, 1) := by decide +kernel
theorem dL_law_877 : decode cL_law 877 = .ok (.iload_n 3, 1) := by decide +kernel
theorem dL_law_878 : decode cL_law 878 = .ok (.iconst 2, 1) := by decide +kernel
theorem dL_law_879 : decode cL_law 879 = .ok (.iadd, 1) := by decide +kernel
theorem dL_law_880 : decode cL_law 880 = .ok (.iaload, 1) := by decide +kernel
theorem dL_law_881 : decode cL_law 881 = .ok (.invokevirtual 122, 3) := by decide +kernel
theorem dL_law_884 : decode cL_law 884 = .ok (.aload_n 2, 1) := by decide +kernel
theorem dL_law_885 : decode cL_law 885 = .ok (.aload_n 0, 1) := by decide +kernel
theorem dL_law_886 : decode cL_law 886 = .ok (.iload_n 3, 1) := by decide +kernel
theorem dL_law_887 : decode cL_law 887 = .ok (.iconst 1, 1) := by decide +kernel
theorem dL_law_888 : decode cL_law 888 = .ok (.iadd, 1) := by decide +kernel
theorem dL_law_889 : decode cL_law 889 = .ok (.iaload, 1) := by decide +kernel
theorem dL_law_890 : decode cL_law 890 = .ok (.aload_n 0, 1) := by decide +kernel
theorem dL_law_891 : decode cL_law 891 = .ok (.iload_n 3, 1) := by decide +kernel
theorem dL_law_892 : decode cL_law 892 = .ok (.iconst 2, 1) := by decide +kernel
theorem dL_law_893 : decode cL_law 893 = .ok (.iadd, 1) := by decide +kernel
theorem dL_law_894 : decode cL_law 894 = .ok (.iaload, 1) := by decide +kernel
theorem dL_law_895 : decode cL_law 895 = .ok (.invokevirtual 125, 3) := by decide +kernel
theorem dL_law_898 : decode cL_law 898 = .ok (.if_icmp .eq 97, 3) := by decide +kernel
theorem dL_law_901 : decode cL_law 901 = .ok (.iconst 0, 1) := by decide +kernel
theorem dL_law_902 : decode cL_law 902 = .ok (.ireturn, 1) := by decide +kernel
theorem dL_law_903 : decode cL_law 903 = .ok (.aload_n 1, 1) := by decide +kernel
theorem dL_law_904 : decode cL_law 904 = .ok (.aload_n 0, 1) := by decide +kernel
theorem dL_law_905 : decode cL_law 905 = .ok (.iload_n 3, 1) := by decide +kernel
theorem dL_law_906 : decode cL_law 906 = .ok (.iconst 1, 1) := by decide +kernel
theorem dL_law_907 : decode cL_law 907 = .ok (.iadd, 1) := by decide +kernel
theorem dL_law_908 : decode cL_law 908 = .ok (.iaload, 1) := by decide +kernel
theorem dL_law_909 : decode cL_law 909 = .ok (.aload_n 0, 1) := by decide +kernel
theorem dL_law_910 : decode cL_law 910 = .ok (.iload_n 3, 1) := by decide +kernel
theorem dL_law_911 : decode cL_law 911 = .ok (.iconst 2, 1) := by decide +kernel
theorem dL_law_912 : decode cL_law 912 = .ok (.iadd, 1) := by decide +kernel
theorem dL_law_913 : decode cL_law 913 = .ok (.iaload, 1) := by decide +kernel
theorem dL_law_914 : decode cL_law 914 = .ok (.invokevirtual 126, 3) := by decide +kernel
theorem dL_law_917 : decode cL_law 917 = .ok (.aload_n 2, 1) := by decide +kernel
theorem dL_law_918 : decode cL_law 918 = .ok (.aload_n 0, 1) := by decide +kernel
theorem dL_law_919 : decode cL_law 919 = .ok (.iload_n 3, 1) := by decide +kernel
theorem dL_law_920 : decode cL_law 920 = .ok (.iconst 1, 1) := by decide +kernel
theorem dL_law_921 : decode cL_law 921 = .ok (.iadd, 1) := by decide +kernel
theorem dL_law_922 : decode cL_law 922 = .ok (.iaload, 1) := by decide +kernel
theorem dL_law_923 : decode cL_law 923 = .ok (.aload_n 0, 1) := by decide +kernel
theorem dL_law_924 : decode cL_law 924 = .ok (.iload_n 3, 1) := by decide +kernel
theorem dL_law_925 : decode cL_law 925 = .ok (.iconst 2, 1) := by decide +kernel
theorem dL_law_926 : decode cL_law 926 = .ok (.iadd, 1) := by decide +kernel
theorem dL_law_927 : decode cL_law 927 = .ok (.iaload, 1) := by decide +kernel
theorem dL_law_928 : decode cL_law 928 = .ok (.invokevirtual 129, 3) := by decide +kernel
theorem dL_law_931 : decode cL_law 931 = .ok (.if_icmp .eq 64, 3) := by decide +kernel
theorem dL_law_934 : decode cL_law 934 = .ok (.iconst 0, 1) := by decide +kernel
theorem dL_law_935 : decode cL_law 935 = .ok (.ireturn, 1) := by decide +kernel
theorem dL_law_936 : decode cL_law 936 = .ok (.aload_n 1, 1) := by decide +kernel
theorem dL_law_937 : decode cL_law 937 = .ok (.aload_n 0, 1) := by decide +kernel
theorem dL_law_938 : decode cL_law 938 = .ok (.iload_n 3, 1) := by decide +kernel
theorem dL_law_939 : decode cL_law 939 = .ok (.iconst 1, 1) := by decide +kernel
theorem dL_law_940 : decode cL_law 940 = .ok (.iadd, 1) := by decide +kernel
theorem dL_law_941 : decode cL_law 941 = .ok (.iaload, 1) := by decide +kernel
theorem dL_law_942 : decode cL_law 942 = .ok (.invokevirtual 130, 3) := by decide +kernel
theorem dL_law_945 : decode cL_law 945 = .ok (.aload_n 2, 1) := by decide +kernel
theorem dL_law_946 : decode cL_law 946 = .ok (.aload_n 0, 1) := by decide +kernel
theorem dL_law_947 : decode cL_law 947 = .ok (.iload_n 3, 1) := by decide +kernel
theorem dL_law_948 : decode cL_law 948 = .ok (.iconst 1, 1) := by decide +kernel
theorem dL_law_949 : decode cL_law 949 = .ok (.iadd, 1) := by decide +kernel
theorem dL_law_950 : decode cL_law 950 = .ok (.iaload, 1) := by decide +kernel
theorem dL_law_951 : decode cL_law 951 = .ok (.invokevirtual 133, 3) := by decide +kernel
theorem dL_law_954 : decode cL_law 954 = .ok (.if_icmp .eq 41, 3) := by decide +kernel
theorem dL_law_957 : decode cL_law 957 = .ok (.iconst 0, 1) := by decide +kernel
theorem dL_law_958 : decode cL_law 958 = .ok (.ireturn, 1) := by decide +kernel
theorem dL_law_959 : decode cL_law 959 = .ok (.aload_n 1, 1) := by decide +kernel
theorem dL_law_960 : decode cL_law 960 = .ok (.aload_n 0, 1) := by decide +kernel
theorem dL_law_961 : decode cL_law 961 = .ok (.iload_n 3, 1) := by decide +kernel
theorem dL_law_962 : decode cL_law 962 = .ok (.iconst 1, 1) := by decide +kernel
theorem dL_law_963 : decode cL_law 963 = .ok (.iadd, 1) := by decide +kernel
theorem dL_law_964 : decode cL_law 964 = .ok (.iaload, 1) := by decide +kernel
theorem dL_law_965 : decode cL_law 965 = .ok (.invokevirtual 134, 3) := by decide +kernel
theorem dL_law_968 : decode cL_law 968 = .ok (.aload_n 2, 1) := by decide +kernel
theorem dL_law_969 : decode cL_law 969 = .ok (.aload_n 0, 1) := by decide +kernel
theorem dL_law_970 : decode cL_law 970 = .ok (.iload_n 3, 1) := by decide +kernel
theorem dL_law_971 : decode cL_law 971 = .ok (.iconst 1, 1) := by decide +kernel
theorem dL_law_972 : decode cL_law 972 = .ok (.iadd, 1) := by decide +kernel
theorem dL_law_973 : decode cL_law 973 = .ok (.iaload, 1) := by decide +kernel
theorem dL_law_974 : decode cL_law 974 = .ok (.invokevirtual 137, 3) := by decide +kernel
theorem dL_law_977 : decode cL_law 977 = .ok (.if_icmp .eq 18, 3) := by decide +kernel
theorem dL_law_980 : decode cL_law 980 = .ok (.iconst 0, 1) := by decide +kernel
theorem dL_law_981 : decode cL_law 981 = .ok (.ireturn, 1) := by decide +kernel
theorem dL_law_982 : decode cL_law 982 = .ok (.aload_n 1, 1) := by decide +kernel
theorem dL_law_983 : decode cL_law 983 = .ok (.invokevirtual 138, 3) := by decide +kernel
theorem dL_law_986 : decode cL_law 986 = .ok (.aload_n 2, 1) := by decide +kernel
theorem dL_law_987 : decode cL_law 987 = .ok (.invokevirtual 141, 3) := by decide +kernel
theorem dL_law_990 : decode cL_law 990 = .ok (.if_icmp .eq 5, 3) := by decide +kernel
theorem dL_law_993 : decode cL_law 993 = .ok (.iconst 0, 1) := by decide +kernel
theorem dL_law_994 : decode cL_law 994 = .ok (.ireturn, 1) := by decide +kernel
theorem dL_law_995 : decode cL_law 995 = .ok (.iinc 3 6, 3) := by decide +kernel
theorem dL_law_998 : decode cL_law 998 = .ok (.goto (-980), 3) := by decide +kernel
theorem dL_law_1001 : decode cL_law 1001 = .ok (.iconst 1, 1) := by decide +kernel
theorem dL_law_1002 : decode cL_law 1002 = .ok (.ireturn, 1) := by decide +kernel
end
section
/-! THE LAYER: a world of numbered cells behind a base; one judgement for a frame in it -/
abbrev XT : Type := Program × Launch × Env × Room × State × MethodId × Array Value × List Frame × Method × Code
abbrev GG : Type := Nat × va_G × (Nat → ClassId) × (Nat → Nat)
abbrev MD : Type := String × MethodName × ByteArray × Nat × Option FieldType
abbrev SH : Type := Nat → Nat × Nat × (Nat → Option Nat)
abbrev MM : Type := Nat → Nat → Int32
def vz_isNest : Cond → Bool
  | .fieldLinkNest _ _ _ _ _ _ => true
  | .methodLinkNest _ _ _ _ => true
  | _ => false
def gw : List Cond := lw_tbl.filter goodWord
def nw : List Cond := lw_tbl.filter vz_isNest
theorem gw_at {i : Nat} {w : Cond} (h : lw_tbl[i]? = some w) (hg : goodWord w = true) : w ∈ gw := List.mem_filter.mpr ⟨List.mem_of_getElem? h, hg⟩
theorem nw_at {i : Nat} {w : Cond} (h : lw_tbl[i]? = some w) (hg : vz_isNest w = true) : w ∈ nw := List.mem_filter.mpr ⟨List.mem_of_getElem? h, hg⟩
theorem gw_good {w : Cond} (h : w ∈ gw) : goodWord w = true := (List.mem_filter.mp h).2
/-- the array classes: int, boolean, rows, walkers, ways -/
def tysG (G : GG) : List (ClassId × FieldType) := [(G.2.2.1 0, .int), (G.2.2.1 1, .boolean), (G.2.2.1 2, .object RX5), (G.2.2.1 3, .object RX6), (G.2.2.1 4, .object RX7)]
/-- the three static tables of the asker -/
def vz_tab : Nat → Nat → Int32 := fun t j => match t with
  | 0 => [-1, 0, 1, 1, 0, 4].getD j 0
  | 1 => [10, 11, 12, 0, 13, 14].getD j 0
  | _ => [20, 21, 24, 22, 23, 0].getD j 0
def vz_tabN : Nat → String := fun t => match t with
  | 0 => "KIND_ABOVE"
  | 1 => "SIZE_BODIES"
  | _ => "MARK_BODIES"
def zsG (G : GG) (U : State) (H : Heap) : Prop := ∀ t, t < 3 → va_Z RX1 (vz_tabN t) "[I" (.ref (G.2.2.2 t)) (fun q => G.1 ≤ q) U H ∧ va_T .int (G.2.2.2 t) 6 (fun j => .int (vz_tab t j)) (fun q => G.1 ≤ q) U H
def kkG (G : GG) (U : State) : Prop := va_K G.2.1 vwCl (tysG G) U ∧ ∀ w ∈ nw, va_Nw w U
def nfl (ci : Nat) : Nat := [3, 2, 7, 3, 9, 4, 7, 8, 9, 28].getD ci 0
def rft (ci j : Nat) : Bool := ([[0], [0], [0, 1, 2, 3, 4], [0], [0], [0], [], [0, 1], [0, 1, 2, 3, 4, 5, 6, 7], [0, 1, 2, 5, 6, 7, 15, 17, 19, 20, 21, 22, 23, 24, 25, 26]].getD ci []).contains j
def fso (G : GG) (ci : Nat) (tg : Nat → Option Nat) (fk : Nat → Int32) : List Value := (List.range (nfl ci)).map (fun j => if rft ci j = true then va_rf ((tg j).map (fun t => G.1 + t)) else .int (fk j))
def cel (G : GG) (q : Nat × Nat × (Nat → Option Nat)) (fk : Nat → Int32) : va_E :=
  if q.1 < 10 then .inr (q.1, fso G q.1 q.2.2 fk)
  else if q.1 < 12 then .inl (G.2.2.1 (q.1 - 10), q.2.1, .inl fk)
  else .inl (G.2.2.1 (q.1 - 10), q.2.1, .inr (.inr (.inr (.inr (fun j => (q.2.2 j).map (fun t => G.1 + t))))))
def wl (G : GG) (N : Nat) (sh : SH) (f : MM) : va_W := (List.range N).map (fun k => (G.1 + k, cel G (sh k) (f k)))
def u2 (f : MM) (k j : Nat) (v : Int32) : MM := fun a b => if a = k ∧ b = j then v else f a b
theorem wl_at {G : GG} {N : Nat} {sh : SH} {f : MM} {k : Nat} (h : k < N) : (wl G N sh f)[k]? = some (G.1 + k, cel G (sh k) (f k)) := by
  simp [wl, h]
theorem wl_inv {G : GG} {N : Nat} {sh : SH} {f : MM} {k : Nat} {q : Nat × va_E} (h : (wl G N sh f)[k]? = some q) : k < N ∧ q = (G.1 + k, cel G (sh k) (f k)) := by
  unfold wl at h
  rw [List.getElem?_map] at h
  cases hr : (List.range N)[k]? with
  | none => rw [hr] at h; cases h
  | some i =>
    rw [hr] at h
    obtain ⟨h1, h2⟩ := List.getElem?_eq_some_iff.mp hr
    rw [List.getElem_range] at h2
    subst h2
    simp only [List.length_range] at h1
    exact ⟨h1, (Option.some.inj h).symm⟩
theorem wl_D {G : GG} {N : Nat} {sh : SH} {f : MM} : va_D (fun q => G.1 ≤ q) (wl G N sh f) := by
  refine ⟨fun i j p q hi hj hpq => ?_, fun k q hk => ?_⟩
  · obtain ⟨-, rfl⟩ := wl_inv hi
    obtain ⟨-, rfl⟩ := wl_inv hj
    have : G.1 + i = G.1 + j := hpq
    omega
  · obtain ⟨-, rfl⟩ := wl_inv hk
    exact Nat.le_add_right _ _
theorem wl_set {G : GG} {N : Nat} {sh : SH} {f : MM} {k : Nat} (q : Nat × Nat × (Nat → Option Nat)) (fk : Nat → Int32) : (wl G N sh f).set k (G.1 + k, cel G q fk) = wl G N (va_up sh k q) (va_up f k fk) := by
  apply List.ext_getElem?
  intro i
  by_cases hi : i < N
  · rw [wl_at hi]
    by_cases hk : k = i
    · subst hk
      rw [List.getElem?_set_self (by simp [wl, hi])]
      simp [va_up]
    · rw [List.getElem?_set_ne hk, wl_at hi]
      simp [va_up, Ne.symm hk]
  · rw [List.getElem?_eq_none (by simp [wl]; omega), List.getElem?_eq_none (by simp [wl]; omega)]
theorem wl_setf {G : GG} {N : Nat} {sh : SH} {f : MM} {k : Nat} (fk : Nat → Int32) : (wl G N sh f).set k (G.1 + k, cel G (sh k) fk) = wl G N sh (va_up f k fk) := by
  rw [wl_set]
  congr 1
  funext i
  by_cases h : i = k
  · subst h; simp [va_up]
  · simp [va_up, h]
theorem va_up_u2 {f : MM} {k j : Nat} {v : Int32} : va_up f k (fun b => if b = j then v else f k b) = u2 f k j v := by
  funext a b
  by_cases h : a = k
  · subst h; simp [va_up, u2]
  · simp [va_up, u2, h]
theorem wl_push {G : GG} {N : Nat} {sh : SH} {f : MM} (q : Nat × Nat × (Nat → Option Nat)) (fk : Nat → Int32) : wl G N sh f ++ [(G.1 + N, cel G q fk)] = wl G (N + 1) (va_up sh N q) (va_up f N fk) := by
  unfold wl
  rw [List.range_succ, List.map_append]
  congr 1
  · apply List.map_congr_left
    intro k hk
    have : k ≠ N := Nat.ne_of_lt (List.mem_range.mp hk)
    simp [va_up, this]
  · simp [va_up]
/-- the locals that are known -/
def hasL (arr : Array Slot) (n : Nat) (ls : List (Option Value)) : Prop := arr.size = n ∧ lv_wf arr ∧ ∀ (i : Nat) (v : Value), ls[i]? = some (some v) → arr[i]? = some (.val v)
theorem hasL.at {arr : Array Slot} {n i : Nat} {ls : List (Option Value)} {v : Value} (h : hasL arr n ls) (hl : ls[i]? = some (some v)) : arr[i]? = some (.val v) := h.2.2 i v hl
def noC2 : List (Option Value) → Bool
  | [] => true
  | none :: t => noC2 t
  | some v :: t => v.category == 1 && noC2 t
theorem noC2_at : ∀ {ls : List (Option Value)}, noC2 ls = true → ∀ {i : Nat} {v : Value}, ls[i]? = some (some v) → v.category = 1
  | [], _, i, v, h => by simp at h
  | none :: t, hn, 0, v, h => by simp at h
  | none :: t, hn, i + 1, v, h => noC2_at (ls := t) hn (by simpa using h)
  | some w :: t, hn, 0, v, h => by
    simp only [noC2, Bool.and_eq_true, beq_iff_eq] at hn
    simp at h
    rw [← h]; exact hn.1
  | some w :: t, hn, i + 1, v, h => by
    simp only [noC2, Bool.and_eq_true, beq_iff_eq] at hn
    exact noC2_at (ls := t) hn.2 (by simpa using h)
theorem hasL.store {arr : Array Slot} {n i : Nat} {ls : List (Option Value)} {v : Value} (h : hasL arr n ls) (hi : i < n) (hc : v.category = 1) (hn : noC2 ls = true) : ∃ arr', storeLocals arr i v = some arr' ∧ hasL arr' n (ls.set i (some v)) := by
  obtain ⟨arr', e, h1⟩ := lv_store1 (l := []) ⟨h.1, h.2.1, fun q hq => by cases hq⟩ hi hc
  refine ⟨arr', e, h1.1, h1.2.1, fun j w hj => ?_⟩
  by_cases hij : i = j
  · subst hij
    have hlt : i < ls.length := by
      rcases Nat.lt_or_ge i ls.length with q | q
      · exact q
      · rw [List.getElem?_eq_none (by simpa using q)] at hj; cases hj
    rw [List.getElem?_set_self hlt] at hj
    cases hj
    exact h1.2.2 _ List.mem_cons_self
  · rw [List.getElem?_set_ne hij] at hj
    obtain ⟨arr2, e2, h2⟩ := lv_store1 (l := [(j, w)]) ⟨h.1, h.2.1, fun q hq => by rw [List.mem_singleton.mp hq]; exact h.at hj⟩ hi hc
    rw [e] at e2
    cases e2
    refine h2.2.2 (j, w) (List.mem_cons_of_mem _ (List.mem_filter.mpr ⟨List.mem_singleton.mpr rfl, ?_⟩))
    have hw := noC2_at hn hj
    simp [Ne.symm hij, hw]
theorem hasL.entry (vs : List Value) {n : Nat} (h : vs.length ≤ n) (hc : noC2 (vs.map some) = true) : hasL ((lg_sl vs ++ List.replicate (n - (lg_sl vs).length) Slot.unset).toArray) n (vs.map some ++ List.replicate (n - vs.length) none) := by
  have key : ∀ ws : List Value, noC2 (ws.map some) = true → lg_sl ws = ws.map Slot.val := by
    intro ws
    induction ws with
    | nil => intro _; rfl
    | cons w t ih =>
      intro hw
      simp only [List.map_cons, noC2, Bool.and_eq_true, beq_iff_eq] at hw
      have h2 := ih hw.2
      simp only [lg_sl] at h2 ⊢
      simp [hw.1, h2]
  have h0 := lv_entry vs (n := n) (by rw [key vs hc, List.length_map]; exact h)
  refine ⟨h0.1, h0.2.1, fun i v hv => ?_⟩
  rw [key vs hc]
  by_cases hi : i < vs.length
  · rw [List.getElem?_append_left (by simpa using hi), List.getElem?_map] at hv
    rw [List.getElem?_toArray, List.getElem?_append_left (by simpa using hi), List.getElem?_map]
    cases hvs : vs[i]? with
    | none => rw [hvs] at hv; cases hv
    | some w => rw [hvs] at hv; simp at hv; rw [hv]; rfl
  · rw [List.getElem?_append_right (by simpa using hi)] at hv
    rw [List.getElem?_replicate] at hv
    split at hv <;> cases hv
/-- the words that a method's contract stands on -/
abbrev wsM (M : MD) : List Cond := Cond.code M.2.1 M.2.2.1 M.2.2.2.1 M.2.2.2.2 :: gw
def rmL (lv mc ms : Nat) : Room := { frames := lv, cells := mc, slots := ms, locals := 64 * lv + 64 }
/-- what holds all through a method -/
def Cx (X : XT) (G : GG) (M : MD) (lv mc ms N0 : Nat) : Prop :=
  X.1.tables.exec = Jvm.exec ∧ X.2.2.2.2.2.2.2.2.2.code = M.2.2.1 ∧ X.2.2.2.2.2.2.2.2.2.maxLocals = M.2.2.2.1 ∧ X.2.2.2.2.1.vm.findClass M.1 = some X.2.2.2.2.2.1.cls ∧ (∀ w ∈ gw, w.before X.2.2.2.2.2.2.1 X.2.2.2.2.1 = true) ∧ kkG G X.2.2.2.2.1 ∧ zsG G X.2.2.2.2.1 X.2.2.2.2.1.heap ∧ X.2.2.2.2.2.2.2.2.1.locks = false ∧ X.2.2.2.2.2.2.2.2.1.sig.returnType = M.2.2.2.2 ∧ X.2.2.2.2.2.2.2.2.1.name = M.2.1.name ∧ X.2.2.2.1 = rmL lv mc ms ∧ X.2.2.2.2.1.heap.size = G.1 + N0
/-- the machine, at this frame and in this world, comes to Q -/
def Vw (X : XT) (G : GG) (nL : Nat) (cs sl : Nat) (Q : State → Prop) (N : Nat) (sh : SH) (f : MM) (pc : Nat) (ls : List (Option Value)) (st : List Value) : Prop :=
  ∀ (H : Heap) (locs : List Loc) (arr : Array Slot), va_P G.2.1 vwCl (wl G N sh f) H → H.size = G.1 + N → va_S (fun q => G.1 ≤ q) X.2.2.2.2.1.heap H locs → hasL arr nL ls →
    W X.1 X.2.1 X.2.2.1 X.2.2.2.1 X.2.2.2.2.1 X.2.2.2.2.2.1 X.2.2.2.2.2.2.1 X.2.2.2.2.2.2.2.1 X.2.2.2.2.2.2.2.2.1 X.2.2.2.2.2.2.2.2.2 H locs cs sl Q (F0 X.2.2.2.2.2.1 pc arr st)
abbrev PoT : Type := Option Value → Nat → SH → MM → Prop
def Qcm (G : GG) (post : PoT) : Array Value → State → Outcome → State → Prop := fun _ st oc t =>
  (∃ (r : Option Value) (N : Nat) (sh : SH) (f : MM), oc = .returned r ∧ post r N sh f ∧ va_P G.2.1 vwCl (wl G N sh f) t.heap ∧ t.heap.size = G.1 + N) ∧ va_F (fun q => G.1 ≤ q) st t
def Pcm (G : GG) (av : List Value) (N : Nat) (sh : SH) (f : MM) : Array Value → State → Prop := va_Pc av (fun U => va_P G.2.1 vwCl (wl G N sh f) U.heap ∧ U.heap.size = G.1 + N ∧ kkG G U ∧ zsG G U U.heap)
def Ct (G : GG) (M : MD) (lv mc ms : Nat) (av : List Value) (N : Nat) (sh : SH) (f : MM) (post : PoT) : Prop :=
  ∀ l : Launch, Met l M.2.1 (wsM M) (rmL lv mc ms) (Pcm G av N sh f) (Qcm G post) mc ms (fun q => G.1 ≤ q)
def QQ (X : XT) (G : GG) (post : PoT) (mc ms : Nat) : State → Prop := MQ X.2.2.2.2.2.2.2.1 (Qcm G post) X.2.2.2.2.2.2.1 X.2.2.2.2.1 mc ms (fun q => G.1 ≤ q)
theorem Ct.of {G : GG} {M : MD} {lv mc ms : Nat} {av : List Value} {N : Nat} {sh : SH} {f : MM} {post : PoT} (ls : List (Option Value)) (hls : av.map some ++ List.replicate (M.2.2.2.1 - av.length) none = ls) (hy : plainName M.2.1.cls = true) (ho : M.2.1.cls = M.1) (hn : av.length ≤ M.2.2.2.1) (hc : noC2 (av.map some) = true)
    (body : ∀ X : XT, Cx X G M lv mc ms N → Vw X G M.2.2.2.1 0 0 (QQ X G post mc ms) N sh f 0 ls []) : Ct G M lv mc ms av N sh f post := by
  intro l
  refine Met.ofW (cc := M.2.2.1) (maxL := M.2.2.2.1) (ret := M.2.2.2.2) hy rfl ?_
  intro p e s m args below meth c s₁ B hml hv
  obtain ⟨rfl, hP, hsz, hk, hz⟩ := hv
  have hts := atoms_spec (ws := wsM M) B.pre
  have hown : s.vm.findClass M.1 = some m.cls := by rw [← ho]; exact findClass_of_methodNamed B.named
  have hb := body (p, l, e, rmL lv mc ms, s, m, av.toArray, below, meth, c) ⟨B.exec, B.bytes, hml, hown, fun w hw => hts w (List.mem_cons_of_mem _ hw), hk, hz, B.notSynchronized, B.returns, (name_of_methodNamed B.named B.method).1, rfl, hsz⟩
  rw [lg_entry_eq]
  refine hb s.heap [] _ hP hsz va_S.rf ?_
  rw [← hls]
  exact hasL.entry av hn hc
end
section
/-! ROWS: an instruction each, over the layer -/
section RW1
variable {X : XT} {G : GG} {M : MD} {lv mc ms N0 : Nat} {cs sl : Nat} {Q : State → Prop} {N : Nat} {sh : SH} {f : MM} {pc : Nat} {ls : List (Option Value)} {st : List Value}
theorem r_iconst (C : Cx X G M lv mc ms N0) {n : Int} (v : Int32) (hd : decode M.2.2.1 pc = .ok (.iconst n, 1)) (hv : Int32.ofInt n = v) (K : Vw X G M.2.2.2.1 cs sl Q N sh f (pc + 1) ls (.int v :: st)) : Vw X G M.2.2.2.1 cs sl Q N sh f pc ls st :=
  fun H locs arr hP hz hS hl => lv_iconst C.1 C.2.1 hd hv (K H locs arr hP hz hS hl)
theorem r_bipush (C : Cx X G M lv mc ms N0) {n : Int} (v : Int32) (hd : decode M.2.2.1 pc = .ok (.bipush n, 2)) (hv : (Int8.ofInt n).toInt32 = v) (K : Vw X G M.2.2.2.1 cs sl Q N sh f (pc + 2) ls (.int v :: st)) : Vw X G M.2.2.2.1 cs sl Q N sh f pc ls st :=
  fun H locs arr hP hz hS hl => lv_bipush C.1 C.2.1 hd hv (K H locs arr hP hz hS hl)
theorem r_sipush (C : Cx X G M lv mc ms N0) {n : Int} (v : Int32) (hd : decode M.2.2.1 pc = .ok (.sipush n, 3)) (hv : (Int16.ofInt n).toInt32 = v) (K : Vw X G M.2.2.2.1 cs sl Q N sh f (pc + 3) ls (.int v :: st)) : Vw X G M.2.2.2.1 cs sl Q N sh f pc ls st :=
  fun H locs arr hP hz hS hl => lv_sipush C.1 C.2.1 hd hv (K H locs arr hP hz hS hl)
theorem r_ldc (C : Cx X G M lv mc ms N0) {idx : Nat} (v : Int32) (hw : Cond.constant M.1 idx v ∈ gw) (hd : decode M.2.2.1 pc = .ok (.ldc idx, 2)) (K : Vw X G M.2.2.2.1 cs sl Q N sh f (pc + 2) ls (.int v :: st)) : Vw X G M.2.2.2.1 cs sl Q N sh f pc ls st :=
  fun H locs arr hP hz hS hl => lv_ldc C.1 C.2.1 C.2.2.2.1 (C.2.2.2.2.1 _ hw) hd (K H locs arr hP hz hS hl)
theorem r_lconst (C : Cx X G M lv mc ms N0) {n : Fin 2} (v : Int64) (hd : decode M.2.2.1 pc = .ok (.lconst n, 1)) (hv : Int64.ofNat (n : Nat) = v) (K : Vw X G M.2.2.2.1 cs sl Q N sh f (pc + 1) ls (.long v :: st)) : Vw X G M.2.2.2.1 cs sl Q N sh f pc ls st :=
  fun H locs arr hP hz hS hl => lv_lconst C.1 C.2.1 hd hv (K H locs arr hP hz hS hl)
theorem r_ldc2 (C : Cx X G M lv mc ms N0) {idx : Nat} (v : Int64) (hw : Cond.constantLong M.1 idx v ∈ gw) (hd : decode M.2.2.1 pc = .ok (.ldc2_w idx, 3)) (K : Vw X G M.2.2.2.1 cs sl Q N sh f (pc + 3) ls (.long v :: st)) : Vw X G M.2.2.2.1 cs sl Q N sh f pc ls st :=
  fun H locs arr hP hz hS hl => W.ldc2 C.1 C.2.1 C.2.2.2.1 (C.2.2.2.2.1 _ hw) rfl hd (K H locs arr hP hz hS hl)
theorem r_iload_n (C : Cx X G M lv mc ms N0) {k : Fin 4} {x : Int32} (hd : decode M.2.2.1 pc = .ok (.iload_n k, 1)) (h : ls[(k : Nat)]? = some (some (.int x))) (K : Vw X G M.2.2.2.1 cs sl Q N sh f (pc + 1) ls (.int x :: st)) : Vw X G M.2.2.2.1 cs sl Q N sh f pc ls st :=
  fun H locs arr hP hz hS hl => lv_iload_n C.1 C.2.1 hd rfl (hl.at h) (K H locs arr hP hz hS hl)
theorem r_iload (C : Cx X G M lv mc ms N0) {i : Nat} {x : Int32} (hd : decode M.2.2.1 pc = .ok (.iload i, 2)) (h : ls[i]? = some (some (.int x))) (K : Vw X G M.2.2.2.1 cs sl Q N sh f (pc + 2) ls (.int x :: st)) : Vw X G M.2.2.2.1 cs sl Q N sh f pc ls st :=
  fun H locs arr hP hz hS hl => lv_iload C.1 C.2.1 hd (hl.at h) (K H locs arr hP hz hS hl)
theorem r_aload_n (C : Cx X G M lv mc ms N0) {k : Fin 4} {x : Nat} (hd : decode M.2.2.1 pc = .ok (.aload_n k, 1)) (h : ls[(k : Nat)]? = some (some (.ref x))) (K : Vw X G M.2.2.2.1 cs sl Q N sh f (pc + 1) ls (.ref x :: st)) : Vw X G M.2.2.2.1 cs sl Q N sh f pc ls st :=
  fun H locs arr hP hz hS hl => lv_aload_n C.1 C.2.1 hd rfl (hl.at h) (K H locs arr hP hz hS hl)
theorem r_aload (C : Cx X G M lv mc ms N0) {i : Nat} {x : Nat} (hd : decode M.2.2.1 pc = .ok (.aload i, 2)) (h : ls[i]? = some (some (.ref x))) (K : Vw X G M.2.2.2.1 cs sl Q N sh f (pc + 2) ls (.ref x :: st)) : Vw X G M.2.2.2.1 cs sl Q N sh f pc ls st :=
  fun H locs arr hP hz hS hl => lv_aload C.1 C.2.1 hd (hl.at h) (K H locs arr hP hz hS hl)
theorem r_st {X : XT} {nL pc2 : Nat} {i : Nat} {v : Value} (hi : i < nL) (hc : v.category = 1) (hn : noC2 ls = true)
    (go : ∀ (H : Heap) (locs : List Loc) (arr arr' : Array Slot), storeLocals arr i v = some arr' → W X.1 X.2.1 X.2.2.1 X.2.2.2.1 X.2.2.2.2.1 X.2.2.2.2.2.1 X.2.2.2.2.2.2.1 X.2.2.2.2.2.2.2.1 X.2.2.2.2.2.2.2.2.1 X.2.2.2.2.2.2.2.2.2 H locs cs sl Q (F0 X.2.2.2.2.2.1 pc2 arr' st) → W X.1 X.2.1 X.2.2.1 X.2.2.2.1 X.2.2.2.2.1 X.2.2.2.2.2.1 X.2.2.2.2.2.2.1 X.2.2.2.2.2.2.2.1 X.2.2.2.2.2.2.2.2.1 X.2.2.2.2.2.2.2.2.2 H locs cs sl Q (F0 X.2.2.2.2.2.1 pc arr (v :: st)))
    (K : Vw X G nL cs sl Q N sh f pc2 (ls.set i (some v)) st) : Vw X G nL cs sl Q N sh f pc ls (v :: st) := by
  intro H locs arr hP hz hS hl
  obtain ⟨arr', e, h1⟩ := hl.store hi hc hn
  exact go H locs arr arr' e (K H locs arr' hP hz hS h1)
end RW1
section RW2
variable {X : XT} {G : GG} {M : MD} {lv mc ms N0 : Nat} {cs sl : Nat} {Q : State → Prop} {N : Nat} {sh : SH} {f : MM} {pc : Nat} {ls : List (Option Value)} {st : List Value}
theorem r_istore_n (C : Cx X G M lv mc ms N0) {k : Fin 4} {x : Int32} (hd : decode M.2.2.1 pc = .ok (.istore_n k, 1)) (hi : (k : Nat) < M.2.2.2.1) (hn : noC2 ls = true) (K : Vw X G M.2.2.2.1 cs sl Q N sh f (pc + 1) (ls.set (k : Nat) (some (.int x))) st) : Vw X G M.2.2.2.1 cs sl Q N sh f pc ls (.int x :: st) := by
  refine r_st hi rfl hn (fun H locs arr arr' e k0 => ?_) K
  intro T hT XX
  obtain ⟨t, a, b⟩ := k0 T hT XX
  refine ⟨t, ?_, b⟩
  have hx := C.1
  have hb := C.2.1
  jvm_step XX.here [XX.here.top, ↓top_set XX.here.top, hx, hb, hd, e]
  exact a
theorem r_istore (C : Cx X G M lv mc ms N0) {i : Nat} {x : Int32} (hd : decode M.2.2.1 pc = .ok (.istore i, 2)) (hi : i < M.2.2.2.1) (hn : noC2 ls = true) (K : Vw X G M.2.2.2.1 cs sl Q N sh f (pc + 2) (ls.set i (some (.int x))) st) : Vw X G M.2.2.2.1 cs sl Q N sh f pc ls (.int x :: st) := by
  refine r_st hi rfl hn (fun H locs arr arr' e k0 => ?_) K
  intro T hT XX
  obtain ⟨t, a, b⟩ := k0 T hT XX
  refine ⟨t, ?_, b⟩
  have hx := C.1
  have hb := C.2.1
  jvm_step XX.here [XX.here.top, ↓top_set XX.here.top, hx, hb, hd, e]
  exact a
theorem r_astore_n (C : Cx X G M lv mc ms N0) {k : Fin 4} {x : Nat} (hd : decode M.2.2.1 pc = .ok (.astore_n k, 1)) (hi : (k : Nat) < M.2.2.2.1) (hn : noC2 ls = true) (K : Vw X G M.2.2.2.1 cs sl Q N sh f (pc + 1) (ls.set (k : Nat) (some (.ref x))) st) : Vw X G M.2.2.2.1 cs sl Q N sh f pc ls (.ref x :: st) := by
  refine r_st hi rfl hn (fun H locs arr arr' e k0 => ?_) K
  intro T hT XX
  obtain ⟨t, a, b⟩ := k0 T hT XX
  refine ⟨t, ?_, b⟩
  have hx := C.1
  have hb := C.2.1
  jvm_step XX.here [XX.here.top, ↓top_set XX.here.top, hx, hb, hd, e, Value.isRef]
  exact a
theorem r_astore (C : Cx X G M lv mc ms N0) {i : Nat} {x : Nat} (hd : decode M.2.2.1 pc = .ok (.astore i, 2)) (hi : i < M.2.2.2.1) (hn : noC2 ls = true) (K : Vw X G M.2.2.2.1 cs sl Q N sh f (pc + 2) (ls.set i (some (.ref x))) st) : Vw X G M.2.2.2.1 cs sl Q N sh f pc ls (.ref x :: st) := by
  refine r_st hi rfl hn (fun H locs arr arr' e k0 => ?_) K
  intro T hT XX
  obtain ⟨t, a, b⟩ := k0 T hT XX
  refine ⟨t, ?_, b⟩
  have hx := C.1
  have hb := C.2.1
  jvm_step XX.here [XX.here.top, ↓top_set XX.here.top, hx, hb, hd, e, Value.isRef]
  exact a
theorem r_iinc (C : Cx X G M lv mc ms N0) {i : Nat} {n : Int} {x : Int32} (v : Int32) (hd : decode M.2.2.1 pc = .ok (.iinc i n, 3)) (h : ls[i]? = some (some (.int x))) (hv : x + Int32.ofInt n = v) (hi : i < M.2.2.2.1) (hn : noC2 ls = true) (K : Vw X G M.2.2.2.1 cs sl Q N sh f (pc + 3) (ls.set i (some (.int v))) st) : Vw X G M.2.2.2.1 cs sl Q N sh f pc ls st := by
  intro H locs arr hP hz hS hl
  subst hv
  have hg := hl.at h
  obtain ⟨arr', e, h1⟩ := hl.store (v := .int (x + Int32.ofInt n)) hi rfl hn
  intro T hT XX
  obtain ⟨t, a, b⟩ := K H locs arr' hP hz hS h1 T hT XX
  refine ⟨t, ?_, b⟩
  have hx := C.1
  have hb := C.2.1
  jvm_step XX.here [XX.here.top, ↓top_set XX.here.top, hx, hb, hd, hg, e]
  exact a
end RW2
section RW3
variable {X : XT} {G : GG} {M : MD} {lv mc ms N0 : Nat} {cs sl : Nat} {Q : State → Prop} {N : Nat} {sh : SH} {f : MM} {pc : Nat} {ls : List (Option Value)} {st : List Value}
theorem r_iadd (C : Cx X G M lv mc ms N0) {x y : Int32} (hd : decode M.2.2.1 pc = .ok (.iadd, 1)) (K : Vw X G M.2.2.2.1 cs sl Q N sh f (pc + 1) ls (.int (x + y) :: st)) : Vw X G M.2.2.2.1 cs sl Q N sh f pc ls (.int y :: .int x :: st) :=
  fun H locs arr hP hz hS hl => lv_iadd C.1 C.2.1 hd (K H locs arr hP hz hS hl)
theorem r_isub (C : Cx X G M lv mc ms N0) {x y : Int32} (hd : decode M.2.2.1 pc = .ok (.isub, 1)) (K : Vw X G M.2.2.2.1 cs sl Q N sh f (pc + 1) ls (.int (x - y) :: st)) : Vw X G M.2.2.2.1 cs sl Q N sh f pc ls (.int y :: .int x :: st) :=
  fun H locs arr hP hz hS hl => lv_isub C.1 C.2.1 hd (K H locs arr hP hz hS hl)
theorem r_imul (C : Cx X G M lv mc ms N0) {x y : Int32} (hd : decode M.2.2.1 pc = .ok (.imul, 1)) (K : Vw X G M.2.2.2.1 cs sl Q N sh f (pc + 1) ls (.int (x * y) :: st)) : Vw X G M.2.2.2.1 cs sl Q N sh f pc ls (.int y :: .int x :: st) :=
  fun H locs arr hP hz hS hl => lv_imul C.1 C.2.1 hd (K H locs arr hP hz hS hl)
theorem r_iand (C : Cx X G M lv mc ms N0) {x y : Int32} (hd : decode M.2.2.1 pc = .ok (.iand, 1)) (K : Vw X G M.2.2.2.1 cs sl Q N sh f (pc + 1) ls (.int (x &&& y) :: st)) : Vw X G M.2.2.2.1 cs sl Q N sh f pc ls (.int y :: .int x :: st) :=
  fun H locs arr hP hz hS hl => lv_iand C.1 C.2.1 hd (K H locs arr hP hz hS hl)
theorem r_ixor (C : Cx X G M lv mc ms N0) {x y : Int32} (hd : decode M.2.2.1 pc = .ok (.ixor, 1)) (K : Vw X G M.2.2.2.1 cs sl Q N sh f (pc + 1) ls (.int (x ^^^ y) :: st)) : Vw X G M.2.2.2.1 cs sl Q N sh f pc ls (.int y :: .int x :: st) :=
  fun H locs arr hP hz hS hl => lv_ixor C.1 C.2.1 hd (K H locs arr hP hz hS hl)
theorem r_ior (C : Cx X G M lv mc ms N0) {x y : Int32} (hd : decode M.2.2.1 pc = .ok (.ior, 1)) (K : Vw X G M.2.2.2.1 cs sl Q N sh f (pc + 1) ls (.int (x ||| y) :: st)) : Vw X G M.2.2.2.1 cs sl Q N sh f pc ls (.int y :: .int x :: st) :=
  fun H locs arr hP hz hS hl => lv_ior C.1 C.2.1 hd (K H locs arr hP hz hS hl)
theorem r_ishl (C : Cx X G M lv mc ms N0) {x y : Int32} (hd : decode M.2.2.1 pc = .ok (.ishl, 1)) (K : Vw X G M.2.2.2.1 cs sl Q N sh f (pc + 1) ls (.int (x <<< (y &&& 31)) :: st)) : Vw X G M.2.2.2.1 cs sl Q N sh f pc ls (.int y :: .int x :: st) :=
  fun H locs arr hP hz hS hl => lv_ishl C.1 C.2.1 hd (K H locs arr hP hz hS hl)
theorem r_ishr (C : Cx X G M lv mc ms N0) {x y : Int32} (hd : decode M.2.2.1 pc = .ok (.ishr, 1)) (K : Vw X G M.2.2.2.1 cs sl Q N sh f (pc + 1) ls (.int (x >>> (y &&& 31)) :: st)) : Vw X G M.2.2.2.1 cs sl Q N sh f pc ls (.int y :: .int x :: st) :=
  fun H locs arr hP hz hS hl => lv_ishr C.1 C.2.1 hd (K H locs arr hP hz hS hl)
theorem r_idiv (C : Cx X G M lv mc ms N0) {x y : Int32} (hd : decode M.2.2.1 pc = .ok (.idiv, 1)) (hne : ¬ y = 0) (K : Vw X G M.2.2.2.1 cs sl Q N sh f (pc + 1) ls (.int (x / y) :: st)) : Vw X G M.2.2.2.1 cs sl Q N sh f pc ls (.int y :: .int x :: st) :=
  fun H locs arr hP hz hS hl => lv_idiv C.1 C.2.1 hd hne (K H locs arr hP hz hS hl)
theorem r_irem (C : Cx X G M lv mc ms N0) {x y : Int32} (hd : decode M.2.2.1 pc = .ok (.irem, 1)) (hne : ¬ y = 0) (K : Vw X G M.2.2.2.1 cs sl Q N sh f (pc + 1) ls (.int (x - x / y * y) :: st)) : Vw X G M.2.2.2.1 cs sl Q N sh f pc ls (.int y :: .int x :: st) :=
  fun H locs arr hP hz hS hl => lv_irem C.1 C.2.1 hd hne (K H locs arr hP hz hS hl)
theorem r_ineg (C : Cx X G M lv mc ms N0) {x : Int32} (hd : decode M.2.2.1 pc = .ok (.ineg, 1)) (K : Vw X G M.2.2.2.1 cs sl Q N sh f (pc + 1) ls (.int (-x) :: st)) : Vw X G M.2.2.2.1 cs sl Q N sh f pc ls (.int x :: st) :=
  fun H locs arr hP hz hS hl => lv_ineg C.1 C.2.1 hd (K H locs arr hP hz hS hl)
theorem r_i2l (C : Cx X G M lv mc ms N0) {x : Int32} (hd : decode M.2.2.1 pc = .ok (.i2l, 1)) (K : Vw X G M.2.2.2.1 cs sl Q N sh f (pc + 1) ls (.long x.toInt64 :: st)) : Vw X G M.2.2.2.1 cs sl Q N sh f pc ls (.int x :: st) :=
  fun H locs arr hP hz hS hl => lv_i2l C.1 C.2.1 hd rfl (K H locs arr hP hz hS hl)
theorem r_i2b (C : Cx X G M lv mc ms N0) {x : Int32} (hd : decode M.2.2.1 pc = .ok (.i2b, 1)) (K : Vw X G M.2.2.2.1 cs sl Q N sh f (pc + 1) ls (.int x.toInt8.toInt32 :: st)) : Vw X G M.2.2.2.1 cs sl Q N sh f pc ls (.int x :: st) :=
  fun H locs arr hP hz hS hl => lv_i2b C.1 C.2.1 hd rfl (K H locs arr hP hz hS hl)
theorem r_i2s (C : Cx X G M lv mc ms N0) {x : Int32} (hd : decode M.2.2.1 pc = .ok (.i2s, 1)) (K : Vw X G M.2.2.2.1 cs sl Q N sh f (pc + 1) ls (.int x.toInt16.toInt32 :: st)) : Vw X G M.2.2.2.1 cs sl Q N sh f pc ls (.int x :: st) :=
  fun H locs arr hP hz hS hl => lv_i2s C.1 C.2.1 hd rfl (K H locs arr hP hz hS hl)
theorem r_lsub (C : Cx X G M lv mc ms N0) {x y : Int64} (hd : decode M.2.2.1 pc = .ok (.lsub, 1)) (K : Vw X G M.2.2.2.1 cs sl Q N sh f (pc + 1) ls (.long (x - y) :: st)) : Vw X G M.2.2.2.1 cs sl Q N sh f pc ls (.long y :: .long x :: st) :=
  fun H locs arr hP hz hS hl => lv_lsub C.1 C.2.1 hd (K H locs arr hP hz hS hl)
theorem r_dup (C : Cx X G M lv mc ms N0) {va : Value} (hd : decode M.2.2.1 pc = .ok (.dup, 1)) (hva : va.category = 1) (K : Vw X G M.2.2.2.1 cs sl Q N sh f (pc + 1) ls (va :: va :: st)) : Vw X G M.2.2.2.1 cs sl Q N sh f pc ls (va :: st) :=
  fun H locs arr hP hz hS hl => lv_dup C.1 C.2.1 hd hva (K H locs arr hP hz hS hl)
theorem r_pop (C : Cx X G M lv mc ms N0) {va : Value} (hd : decode M.2.2.1 pc = .ok (.pop, 1)) (hva : va.category = 1) (K : Vw X G M.2.2.2.1 cs sl Q N sh f (pc + 1) ls (st)) : Vw X G M.2.2.2.1 cs sl Q N sh f pc ls (va :: st) :=
  fun H locs arr hP hz hS hl => lv_pop C.1 C.2.1 hd hva (K H locs arr hP hz hS hl)
theorem r_dup2 (C : Cx X G M lv mc ms N0) {va vb : Value} (hd : decode M.2.2.1 pc = .ok (.dup2, 1)) (hva : va.category = 1) (hvb : vb.category = 1) (K : Vw X G M.2.2.2.1 cs sl Q N sh f (pc + 1) ls (va :: vb :: va :: vb :: st)) : Vw X G M.2.2.2.1 cs sl Q N sh f pc ls (va :: vb :: st) :=
  fun H locs arr hP hz hS hl => lv_dup2_11 C.1 C.2.1 hd hva hvb (K H locs arr hP hz hS hl)
theorem r_dup_x1 (C : Cx X G M lv mc ms N0) {va vb : Value} (hd : decode M.2.2.1 pc = .ok (.dup_x1, 1)) (hva : va.category = 1) (hvb : vb.category = 1) (K : Vw X G M.2.2.2.1 cs sl Q N sh f (pc + 1) ls (va :: vb :: va :: st)) : Vw X G M.2.2.2.1 cs sl Q N sh f pc ls (va :: vb :: st) :=
  fun H locs arr hP hz hS hl => lv_dup_x1 C.1 C.2.1 hd hva hvb (K H locs arr hP hz hS hl)
theorem r_dup_x2 (C : Cx X G M lv mc ms N0) {va vb vd : Value} (hd : decode M.2.2.1 pc = .ok (.dup_x2, 1)) (hva : va.category = 1) (hvb : vb.category = 1) (hvd : vd.category = 1) (K : Vw X G M.2.2.2.1 cs sl Q N sh f (pc + 1) ls (va :: vb :: vd :: va :: st)) : Vw X G M.2.2.2.1 cs sl Q N sh f pc ls (va :: vb :: vd :: st) :=
  fun H locs arr hP hz hS hl => lv_dup_x2 C.1 C.2.1 hd hva hvb hvd (K H locs arr hP hz hS hl)
theorem r_if_eq (C : Cx X G M lv mc ms N0) {x : Int32} {off : Int} (tgt : Nat) (hd : decode M.2.2.1 pc = .ok (.ifCond .eq off, 3)) (ht : (pc : Int) + off = (tgt : Int)) (Kt : x = 0 → Vw X G M.2.2.2.1 cs sl Q N sh f tgt ls st) (Kf : ¬ x = 0 → Vw X G M.2.2.2.1 cs sl Q N sh f (pc + 3) ls st) : Vw X G M.2.2.2.1 cs sl Q N sh f pc ls (.int x :: st) :=
  fun H locs arr hP hz hS hl => lv_if_eq C.1 C.2.1 hd ht (fun h => Kt h H locs arr hP hz hS hl) (fun h => Kf h H locs arr hP hz hS hl)
theorem r_icmp_eq (C : Cx X G M lv mc ms N0) {x y : Int32} {off : Int} (tgt : Nat) (hd : decode M.2.2.1 pc = .ok (.if_icmp .eq off, 3)) (ht : (pc : Int) + off = (tgt : Int)) (Kt : x = y → Vw X G M.2.2.2.1 cs sl Q N sh f tgt ls st) (Kf : ¬ x = y → Vw X G M.2.2.2.1 cs sl Q N sh f (pc + 3) ls st) : Vw X G M.2.2.2.1 cs sl Q N sh f pc ls (.int y :: .int x :: st) :=
  fun H locs arr hP hz hS hl => lv_icmp_eq C.1 C.2.1 hd ht (fun h => Kt h H locs arr hP hz hS hl) (fun h => Kf h H locs arr hP hz hS hl)
theorem r_if_ne (C : Cx X G M lv mc ms N0) {x : Int32} {off : Int} (tgt : Nat) (hd : decode M.2.2.1 pc = .ok (.ifCond .ne off, 3)) (ht : (pc : Int) + off = (tgt : Int)) (Kt : ¬ x = 0 → Vw X G M.2.2.2.1 cs sl Q N sh f tgt ls st) (Kf : x = 0 → Vw X G M.2.2.2.1 cs sl Q N sh f (pc + 3) ls st) : Vw X G M.2.2.2.1 cs sl Q N sh f pc ls (.int x :: st) :=
  fun H locs arr hP hz hS hl => lv_if_ne C.1 C.2.1 hd ht (fun h => Kt h H locs arr hP hz hS hl) (fun h => Kf h H locs arr hP hz hS hl)
theorem r_icmp_ne (C : Cx X G M lv mc ms N0) {x y : Int32} {off : Int} (tgt : Nat) (hd : decode M.2.2.1 pc = .ok (.if_icmp .ne off, 3)) (ht : (pc : Int) + off = (tgt : Int)) (Kt : ¬ x = y → Vw X G M.2.2.2.1 cs sl Q N sh f tgt ls st) (Kf : x = y → Vw X G M.2.2.2.1 cs sl Q N sh f (pc + 3) ls st) : Vw X G M.2.2.2.1 cs sl Q N sh f pc ls (.int y :: .int x :: st) :=
  fun H locs arr hP hz hS hl => lv_icmp_ne C.1 C.2.1 hd ht (fun h => Kt h H locs arr hP hz hS hl) (fun h => Kf h H locs arr hP hz hS hl)
theorem r_if_lt (C : Cx X G M lv mc ms N0) {x : Int32} {off : Int} (tgt : Nat) (hd : decode M.2.2.1 pc = .ok (.ifCond .lt off, 3)) (ht : (pc : Int) + off = (tgt : Int)) (Kt : x < 0 → Vw X G M.2.2.2.1 cs sl Q N sh f tgt ls st) (Kf : ¬ x < 0 → Vw X G M.2.2.2.1 cs sl Q N sh f (pc + 3) ls st) : Vw X G M.2.2.2.1 cs sl Q N sh f pc ls (.int x :: st) :=
  fun H locs arr hP hz hS hl => lv_if_lt C.1 C.2.1 hd ht (fun h => Kt h H locs arr hP hz hS hl) (fun h => Kf h H locs arr hP hz hS hl)
theorem r_icmp_lt (C : Cx X G M lv mc ms N0) {x y : Int32} {off : Int} (tgt : Nat) (hd : decode M.2.2.1 pc = .ok (.if_icmp .lt off, 3)) (ht : (pc : Int) + off = (tgt : Int)) (Kt : x < y → Vw X G M.2.2.2.1 cs sl Q N sh f tgt ls st) (Kf : ¬ x < y → Vw X G M.2.2.2.1 cs sl Q N sh f (pc + 3) ls st) : Vw X G M.2.2.2.1 cs sl Q N sh f pc ls (.int y :: .int x :: st) :=
  fun H locs arr hP hz hS hl => lv_icmp_lt C.1 C.2.1 hd ht (fun h => Kt h H locs arr hP hz hS hl) (fun h => Kf h H locs arr hP hz hS hl)
theorem r_if_ge (C : Cx X G M lv mc ms N0) {x : Int32} {off : Int} (tgt : Nat) (hd : decode M.2.2.1 pc = .ok (.ifCond .ge off, 3)) (ht : (pc : Int) + off = (tgt : Int)) (Kt : 0 ≤ x → Vw X G M.2.2.2.1 cs sl Q N sh f tgt ls st) (Kf : ¬ 0 ≤ x → Vw X G M.2.2.2.1 cs sl Q N sh f (pc + 3) ls st) : Vw X G M.2.2.2.1 cs sl Q N sh f pc ls (.int x :: st) :=
  fun H locs arr hP hz hS hl => lv_if_ge C.1 C.2.1 hd ht (fun h => Kt h H locs arr hP hz hS hl) (fun h => Kf h H locs arr hP hz hS hl)
theorem r_icmp_ge (C : Cx X G M lv mc ms N0) {x y : Int32} {off : Int} (tgt : Nat) (hd : decode M.2.2.1 pc = .ok (.if_icmp .ge off, 3)) (ht : (pc : Int) + off = (tgt : Int)) (Kt : y ≤ x → Vw X G M.2.2.2.1 cs sl Q N sh f tgt ls st) (Kf : ¬ y ≤ x → Vw X G M.2.2.2.1 cs sl Q N sh f (pc + 3) ls st) : Vw X G M.2.2.2.1 cs sl Q N sh f pc ls (.int y :: .int x :: st) :=
  fun H locs arr hP hz hS hl => lv_icmp_ge C.1 C.2.1 hd ht (fun h => Kt h H locs arr hP hz hS hl) (fun h => Kf h H locs arr hP hz hS hl)
theorem r_if_gt (C : Cx X G M lv mc ms N0) {x : Int32} {off : Int} (tgt : Nat) (hd : decode M.2.2.1 pc = .ok (.ifCond .gt off, 3)) (ht : (pc : Int) + off = (tgt : Int)) (Kt : 0 < x → Vw X G M.2.2.2.1 cs sl Q N sh f tgt ls st) (Kf : ¬ 0 < x → Vw X G M.2.2.2.1 cs sl Q N sh f (pc + 3) ls st) : Vw X G M.2.2.2.1 cs sl Q N sh f pc ls (.int x :: st) :=
  fun H locs arr hP hz hS hl => lv_if_gt C.1 C.2.1 hd ht (fun h => Kt h H locs arr hP hz hS hl) (fun h => Kf h H locs arr hP hz hS hl)
theorem r_icmp_gt (C : Cx X G M lv mc ms N0) {x y : Int32} {off : Int} (tgt : Nat) (hd : decode M.2.2.1 pc = .ok (.if_icmp .gt off, 3)) (ht : (pc : Int) + off = (tgt : Int)) (Kt : y < x → Vw X G M.2.2.2.1 cs sl Q N sh f tgt ls st) (Kf : ¬ y < x → Vw X G M.2.2.2.1 cs sl Q N sh f (pc + 3) ls st) : Vw X G M.2.2.2.1 cs sl Q N sh f pc ls (.int y :: .int x :: st) :=
  fun H locs arr hP hz hS hl => lv_icmp_gt C.1 C.2.1 hd ht (fun h => Kt h H locs arr hP hz hS hl) (fun h => Kf h H locs arr hP hz hS hl)
theorem r_if_le (C : Cx X G M lv mc ms N0) {x : Int32} {off : Int} (tgt : Nat) (hd : decode M.2.2.1 pc = .ok (.ifCond .le off, 3)) (ht : (pc : Int) + off = (tgt : Int)) (Kt : x ≤ 0 → Vw X G M.2.2.2.1 cs sl Q N sh f tgt ls st) (Kf : ¬ x ≤ 0 → Vw X G M.2.2.2.1 cs sl Q N sh f (pc + 3) ls st) : Vw X G M.2.2.2.1 cs sl Q N sh f pc ls (.int x :: st) :=
  fun H locs arr hP hz hS hl => lv_if_le C.1 C.2.1 hd ht (fun h => Kt h H locs arr hP hz hS hl) (fun h => Kf h H locs arr hP hz hS hl)
theorem r_icmp_le (C : Cx X G M lv mc ms N0) {x y : Int32} {off : Int} (tgt : Nat) (hd : decode M.2.2.1 pc = .ok (.if_icmp .le off, 3)) (ht : (pc : Int) + off = (tgt : Int)) (Kt : x ≤ y → Vw X G M.2.2.2.1 cs sl Q N sh f tgt ls st) (Kf : ¬ x ≤ y → Vw X G M.2.2.2.1 cs sl Q N sh f (pc + 3) ls st) : Vw X G M.2.2.2.1 cs sl Q N sh f pc ls (.int y :: .int x :: st) :=
  fun H locs arr hP hz hS hl => lv_icmp_le C.1 C.2.1 hd ht (fun h => Kt h H locs arr hP hz hS hl) (fun h => Kf h H locs arr hP hz hS hl)
theorem r_goto (C : Cx X G M lv mc ms N0) {off : Int} (tgt : Nat) (hd : decode M.2.2.1 pc = .ok (.goto off, 3)) (ht : (pc : Int) + off = (tgt : Int)) (K : Vw X G M.2.2.2.1 cs sl Q N sh f tgt ls st) : Vw X G M.2.2.2.1 cs sl Q N sh f pc ls st :=
  fun H locs arr hP hz hS hl => lv_goto C.1 C.2.1 hd ht (K H locs arr hP hz hS hl)
theorem r_ifnonnull (C : Cx X G M lv mc ms N0) {x : Nat} {off : Int} (tgt : Nat) (hd : decode M.2.2.1 pc = .ok (.ifnonnull off, 3)) (ht : (pc : Int) + off = (tgt : Int)) (K : Vw X G M.2.2.2.1 cs sl Q N sh f tgt ls st) : Vw X G M.2.2.2.1 cs sl Q N sh f pc ls (.ref x :: st) :=
  fun H locs arr hP hz hS hl => lv_ifnonnull C.1 C.2.1 hd ht (K H locs arr hP hz hS hl)
theorem r_ifnonnullN (C : Cx X G M lv mc ms N0) {off : Int} (hd : decode M.2.2.1 pc = .ok (.ifnonnull off, 3)) (K : Vw X G M.2.2.2.1 cs sl Q N sh f (pc + 3) ls st) : Vw X G M.2.2.2.1 cs sl Q N sh f pc ls (.null :: st) :=
  fun H locs arr hP hz hS hl => lv_ifnonnullN C.1 C.2.1 hd (K H locs arr hP hz hS hl)
theorem r_tableIn (C : Cx X G M lv mc ms N0) {dflt lo hi : Int} {offs : Array Int} {len : Nat} {x : Int32} {off : Int} (tgt : Nat) (hd : decode M.2.2.1 pc = .ok (.tableswitch dflt lo hi offs, len)) (h1 : ¬ x.toInt < lo) (h2 : ¬ hi < x.toInt) (ho : offs[(x.toInt - lo).toNat]? = some off) (ht : (pc : Int) + off = (tgt : Int)) (K : Vw X G M.2.2.2.1 cs sl Q N sh f tgt ls st) : Vw X G M.2.2.2.1 cs sl Q N sh f pc ls (.int x :: st) :=
  fun H locs arr hP hz hS hl => lv_tableIn C.1 C.2.1 hd h1 h2 ho ht (K H locs arr hP hz hS hl)
theorem r_tableOut (C : Cx X G M lv mc ms N0) {dflt lo hi : Int} {offs : Array Int} {len : Nat} {x : Int32} (tgt : Nat) (hd : decode M.2.2.1 pc = .ok (.tableswitch dflt lo hi offs, len)) (h : x.toInt < lo ∨ hi < x.toInt) (ht : (pc : Int) + dflt = (tgt : Int)) (K : Vw X G M.2.2.2.1 cs sl Q N sh f tgt ls st) : Vw X G M.2.2.2.1 cs sl Q N sh f pc ls (.int x :: st) :=
  fun H locs arr hP hz hS hl => lv_tableOut C.1 C.2.1 hd h ht (K H locs arr hP hz hS hl)
theorem r_top {x : Int32} (K : ∀ y : Int32, y = x → Vw X G M.2.2.2.1 cs sl Q N sh f pc ls (.int y :: st)) : Vw X G M.2.2.2.1 cs sl Q N sh f pc ls (.int x :: st) := K x rfl
end RW3
end
section
/-! ROWS of the heap -/
def Fl (own : String) (idx ci j : Nat) : Prop := ∃ (C : String) (T : u_T), vwCl[ci]? = some (C, T, nfl ci) ∧ j < nfl ci ∧ (T j).1 = C ∧ (∀ w ∈ u_ws C T (nfl ci), w ∈ gw) ∧ (Cond.fieldLink own idx C (T j).2.1 (T j).2.2.1 ∈ gw ∨ ∃ host, Cond.fieldLinkNest own idx C (T j).2.1 (T j).2.2.1 host ∈ nw)
/-- a field's type, and whether it is final -/
def Ft (ci j : Nat) (ty : FieldType) (fin : Bool) : Prop := ∃ (C : String) (T : u_T) (ty0 : Nat → FieldType), vwCl[ci]? = some (C, T, nfl ci) ∧ (∀ k, k < nfl ci → parseFieldDescriptor (T k).2.2.1 = some (ty0 k)) ∧ (∀ a, a < nfl ci → ∀ b, b < nfl ci → a ≠ b → (T a).2.1 ≠ (T b).2.1) ∧ ty0 j = ty ∧ (T j).2.2.2 = fin
theorem cl_lt {ci : Nat} {q : vw_C} (h : vwCl[ci]? = some q) : ci < 10 := (List.getElem?_eq_some_iff.mp h).1
theorem cel_o {G : GG} {q : Nat × Nat × (Nat → Option Nat)} {fk : Nat → Int32} {ci : Nat} (h : q.1 = ci) (hl : ci < 10) : cel G q fk = .inr (ci, fso G ci q.2.2 fk) := by
  subst h; simp [cel, hl]
theorem cel_i {G : GG} {q : Nat × Nat × (Nat → Option Nat)} {fk : Nat → Int32} (h : q.1 = 10) : cel G q fk = .inl (G.2.2.1 0, q.2.1, .inl fk) := by
  simp [cel, h]
theorem cel_z {G : GG} {q : Nat × Nat × (Nat → Option Nat)} {fk : Nat → Int32} (h : q.1 = 11) : cel G q fk = .inl (G.2.2.1 1, q.2.1, .inl fk) := by
  simp [cel, h]
theorem cel_r {G : GG} {q : Nat × Nat × (Nat → Option Nat)} {fk : Nat → Int32} {b : Nat} (h : q.1 = b + 12) : cel G q fk = .inl (G.2.2.1 (b + 2), q.2.1, .inr (.inr (.inr (.inr (fun j => (q.2.2 j).map (fun t => G.1 + t)))))) := by
  have h1 : ¬ b + 12 < 10 := by omega
  have h2 : ¬ b + 12 < 12 := by omega
  simp [cel, h, h1, h2]
theorem fso_len {G : GG} {ci : Nat} {tg : Nat → Option Nat} {fk : Nat → Int32} : (fso G ci tg fk).length = nfl ci := by simp [fso]
theorem fso_at {G : GG} {ci j : Nat} {tg : Nat → Option Nat} {fk : Nat → Int32} (h : j < nfl ci) : (fso G ci tg fk)[j]? = some (if rft ci j = true then va_rf ((tg j).map (fun t => G.1 + t)) else .int (fk j)) := by
  simp [fso, h]
theorem fso_seti {G : GG} {ci j : Nat} {tg : Nat → Option Nat} {fk : Nat → Int32} {v : Int32} (hr : rft ci j = false) : (fso G ci tg fk).set j (.int v) = fso G ci tg (fun b => if b = j then v else fk b) := by
  apply List.ext_getElem?
  intro i
  by_cases hi : i < nfl ci
  · rw [fso_at hi]
    by_cases hj : j = i
    · subst hj
      rw [List.getElem?_set_self (by rw [fso_len]; exact hi)]
      simp [hr]
    · rw [List.getElem?_set_ne hj, fso_at hi]
      simp [Ne.symm hj]
  · rw [List.getElem?_eq_none (by rw [List.length_set, fso_len]; omega), List.getElem?_eq_none (by rw [fso_len]; omega)]
theorem fso_setr {G : GG} {ci j t : Nat} {tg : Nat → Option Nat} {fk : Nat → Int32} (hr : rft ci j = true) : (fso G ci tg fk).set j (.ref (G.1 + t)) = fso G ci (va_up tg j (some t)) fk := by
  apply List.ext_getElem?
  intro i
  by_cases hi : i < nfl ci
  · rw [fso_at hi]
    by_cases hj : j = i
    · subst hj
      rw [List.getElem?_set_self (by rw [fso_len]; exact hi)]
      simp [hr, va_up, va_rf]
    · rw [List.getElem?_set_ne hj, fso_at hi]
      simp [va_up, Ne.symm hj]
  · rw [List.getElem?_eq_none (by rw [List.length_set, fso_len]; omega), List.getElem?_eq_none (by rw [fso_len]; omega)]
section RH1
variable {X : XT} {G : GG} {M : MD} {lv mc ms N0 : Nat} {cs sl : Nat} {Q : State → Prop} {N : Nat} {sh : SH} {f : MM} {pc : Nat} {ls : List (Option Value)} {st : List Value}
theorem r_getV (C : Cx X G M lv mc ms N0) {idx ci j k : Nat} {v : Value} (hf : Fl M.1 idx ci j) (hd : decode M.2.2.1 pc = .ok (.getfield idx, 3)) (hk : k < N) (hc : (sh k).1 = ci) (hv : (if rft ci j = true then va_rf (((sh k).2.2 j).map (fun t => G.1 + t)) else .int (f k j)) = v) (K : Vw X G M.2.2.2.1 cs sl Q N sh f (pc + 3) ls (v :: st)) : Vw X G M.2.2.2.1 cs sl Q N sh f pc ls (.ref (G.1 + k) :: st) := by
  intro H locs arr hP hz hS hl
  obtain ⟨hx, hb, -, hown, hts, ⟨hK, hN⟩, -⟩ := C
  obtain ⟨Cn, T, h1, h2, h3, h4, h5⟩ := hf
  have he : (wl G N sh f)[k]? = some (G.1 + k, .inr (ci, fso G ci (sh k).2.2 (f k))) := by rw [wl_at hk, cel_o hc (cl_lt h1)]
  have hfs : (fso G ci (sh k).2.2 (f k))[j]? = some v := by rw [fso_at h2, hv]
  rcases h5 with h5 | ⟨host, h5⟩
  · exact va_get (D := G.2.1) (ci := ci) (v := v) (C := Cn) (T := T) (N := nfl ci) hx hb hts h4 hown hK hP k he h1 j h2 (hts _ h5) (by rw [h3]; exact fun _ h => h) hfs hd (K H locs arr hP hz hS hl)
  · exact va_getN (D := G.2.1) (ci := ci) (v := v) (C := Cn) (T := T) (N := nfl ci) hx hb hts h4 hown hK hP k he h1 j h2 (va_Nw.use rfl (hN _ h5)) (by rw [h3]; exact fun _ h => h) hfs hd (K H locs arr hP hz hS hl)
theorem r_get (C : Cx X G M lv mc ms N0) {idx ci j k : Nat} (hf : Fl M.1 idx ci j) (hd : decode M.2.2.1 pc = .ok (.getfield idx, 3)) (hk : k < N ∧ (sh k).1 = ci) (hr : rft ci j = false) (K : Vw X G M.2.2.2.1 cs sl Q N sh f (pc + 3) ls (.int (f k j) :: st)) : Vw X G M.2.2.2.1 cs sl Q N sh f pc ls (.ref (G.1 + k) :: st) :=
  r_getV C hf hd hk.1 hk.2 (by simp [hr]) K
theorem r_getr (C : Cx X G M lv mc ms N0) {idx ci j k t : Nat} (hf : Fl M.1 idx ci j) (hd : decode M.2.2.1 pc = .ok (.getfield idx, 3)) (hk : k < N ∧ (sh k).1 = ci) (hr : rft ci j = true) (ht : (sh k).2.2 j = some t) (K : Vw X G M.2.2.2.1 cs sl Q N sh f (pc + 3) ls (.ref (G.1 + t) :: st)) : Vw X G M.2.2.2.1 cs sl Q N sh f pc ls (.ref (G.1 + k) :: st) :=
  r_getV C hf hd hk.1 hk.2 (by simp [hr, ht, va_rf]) K
theorem r_putV (C : Cx X G M lv mc ms N0) {idx ci j k : Nat} {v : Value} {ty : FieldType} {q : Nat × Nat × (Nat → Option Nat)} {fk : Nat → Int32} (hf : Fl M.1 idx ci j) (hft : Ft ci j ty false) (hd : decode M.2.2.1 pc = .ok (.putfield idx, 3)) (hk : k < N) (hc : (sh k).1 = ci) (hq : q.1 = ci) (hn : narrow ty v = v) (hfit : fits ty v = true) (hset : (fso G ci (sh k).2.2 (f k)).set j v = fso G ci q.2.2 fk)
    (K : Vw X G M.2.2.2.1 cs sl Q N (va_up sh k q) (va_up f k fk) (pc + 3) ls st) : Vw X G M.2.2.2.1 cs sl Q N sh f pc ls (v :: .ref (G.1 + k) :: st) := by
  intro H locs arr hP hz hS hl
  obtain ⟨hx, hb, -, hown, hts, ⟨hK, hNw⟩, -⟩ := C
  obtain ⟨Cn, T, h1, h2, h3, h4, h5⟩ := hf
  obtain ⟨Cn', T', ty0, g1, hty, hnm, gt, gf⟩ := hft
  have e0 := Option.some.inj (g1.symm.trans h1)
  simp only [Prod.mk.injEq] at e0
  obtain ⟨rfl, rfl, -⟩ := e0
  have he : (wl G N sh f)[k]? = some (G.1 + k, .inr (ci, fso G ci (sh k).2.2 (f k))) := by rw [wl_at hk, cel_o hc (cl_lt h1)]
  have hD : va_D (fun q => G.1 ≤ q) (wl G N sh f) := wl_D
  have hap := va_apart (own := M.1) hts h4 ty0 hty hnm hK h1
  obtain ⟨r, r1, cell, q1, q2, q3, q4⟩ := hP k _ he
  have hr : r = (Cn', T', nfl ci) := Option.some.inj (r1.symm.trans h1)
  subst hr
  obtain ⟨hSl, hfc, kC, hkC, hkind⟩ := hK.1 ci _ h1
  obtain ⟨cf, kf, fi, fd, hi, hsl⟩ := hSl j h2
  have hlay := hts _ (h4 _ (u_in_lay h2))
  unfold u_lay at hlay
  rw [if_neg (by rw [gf]; decide)] at hlay
  have hst := (u_facts hfc hkC (u_lays hts h4 h2) hi).1
  have h6 := u_store hfc hkC hkind hlay hi (by rw [hty j h2, gt]) hn hfit
  have fin : ∀ H' : Heap, H'[G.1 + k]? = some (cell.setSlot fd.slot v) → H'.size = H.size → (∀ q, q ≠ G.1 + k → H'[q]? = H[q]?) → W X.1 X.2.1 X.2.2.1 X.2.2.2.1 X.2.2.2.2.1 X.2.2.2.2.2.1 X.2.2.2.2.2.2.1 X.2.2.2.2.2.2.2.1 X.2.2.2.2.2.2.2.2.1 X.2.2.2.2.2.2.2.2.2 H' (locs ++ [⟨G.1 + k, fd.slot⟩]) cs sl Q (F0 X.2.2.2.2.2.1 (pc + 3) arr st) := by
    intro H' e1 e2 e3
    refine K H' _ arr ?_ (e2.trans hz) (hS.put e2 e3 (Nat.le_add_right _ _)) hl
    rw [hsl] at e1
    have hP2 := hP.set hD he (e := .inr (ci, (fso G ci (sh k).2.2 (f k)).set j v)) ⟨_, h1, t_OB.to (V := updV (vp_V (fso G ci (sh k).2.2 (f k))) j v) ⟨_, e1, q2, q3, t_set q4 hap h2 v⟩ (fun i _ => vp_updV_set (by rw [fso_len]; exact h2) v i)⟩ e3
    rw [hset, ← cel_o (G := G) (q := q) (fk := fk) hq (cl_lt h1), wl_set] at hP2
    exact hP2
  rcases h5 with h5 | ⟨host, h5⟩
  · exact W.putK hx hb (f := fd) ⟨hown, hts _ h5, ⟨_, _, _, by rw [h3] at hi; exact hi⟩, hst⟩ (by rw [q2]; exact h6) q1 q3 (by rw [hsl]; exact k2_hasslot (q4 j h2)) rfl rfl hd fin
  · exact va_WputK hx hb (f := fd) hown (va_Nw.use rfl (hNw _ h5)) (by rw [h3] at hi; exact hi) hst (by rw [q2]; exact h6) q1 q3 (by rw [hsl]; exact k2_hasslot (q4 j h2)) rfl rfl hd fin
theorem up_same {sh : SH} {k : Nat} : va_up sh k (sh k) = sh := by
  funext i
  by_cases h : i = k
  · subst h; simp [va_up]
  · simp [va_up, h]
theorem r_put (C : Cx X G M lv mc ms N0) {idx ci j k : Nat} {v : Int32} (hf : Fl M.1 idx ci j) (hft : Ft ci j .int false) (hd : decode M.2.2.1 pc = .ok (.putfield idx, 3)) (hk : k < N ∧ (sh k).1 = ci) (hr : rft ci j = false) (K : Vw X G M.2.2.2.1 cs sl Q N sh (u2 f k j v) (pc + 3) ls st) : Vw X G M.2.2.2.1 cs sl Q N sh f pc ls (.int v :: .ref (G.1 + k) :: st) := by
  refine r_putV C hf hft hd hk.1 hk.2 (q := sh k) hk.2 rfl rfl (fso_seti hr) ?_
  rw [up_same, va_up_u2]
  exact K
theorem r_putz (C : Cx X G M lv mc ms N0) {idx ci j k : Nat} {v : Int32} (hf : Fl M.1 idx ci j) (hft : Ft ci j .boolean false) (hd : decode M.2.2.1 pc = .ok (.putfield idx, 3)) (hk : k < N ∧ (sh k).1 = ci) (hr : rft ci j = false) (hv : v = 0 ∨ v = 1) (K : Vw X G M.2.2.2.1 cs sl Q N sh (u2 f k j v) (pc + 3) ls st) : Vw X G M.2.2.2.1 cs sl Q N sh f pc ls (.int v :: .ref (G.1 + k) :: st) := by
  refine r_putV C hf hft hd hk.1 hk.2 (q := sh k) hk.2 (by rcases hv with rfl | rfl <;> decide +kernel) (by rcases hv with rfl | rfl <;> decide +kernel) (fso_seti hr) ?_
  rw [up_same, va_up_u2]
  exact K
theorem tys_i (G : GG) : (tysG G)[0]? = some (G.2.2.1 0, .int) := rfl
theorem tys_z (G : GG) : (tysG G)[1]? = some (G.2.2.1 1, .boolean) := rfl
theorem r_iald (C : Cx X G M lv mc ms N0) {k n : Nat} {i : Int32} (hd : decode M.2.2.1 pc = .ok (.iaload, 1)) (hk : k < N ∧ (sh k).1 = 10) (hn : (sh k).2.1 = n) (hin : vp_in i n) (K : Vw X G M.2.2.2.1 cs sl Q N sh f (pc + 1) ls (.int (f k i.toNatClampNeg) :: st)) : Vw X G M.2.2.2.1 cs sl Q N sh f pc ls (.int i :: .ref (G.1 + k) :: st) := by
  intro H locs arr hP hz hS hl
  exact va_iald C.1 C.2.1 C.2.2.2.2.2.1.1 hP k 0 (by rw [wl_at hk.1, cel_i hk.2, hn]) (tys_i G) hin hd (K H locs arr hP hz hS hl)
theorem r_zald (C : Cx X G M lv mc ms N0) {k n : Nat} {i : Int32} (hd : decode M.2.2.1 pc = .ok (.baload, 1)) (hk : k < N ∧ (sh k).1 = 11) (hn : (sh k).2.1 = n) (hin : vp_in i n) (K : Vw X G M.2.2.2.1 cs sl Q N sh f (pc + 1) ls (.int (f k i.toNatClampNeg) :: st)) : Vw X G M.2.2.2.1 cs sl Q N sh f pc ls (.int i :: .ref (G.1 + k) :: st) := by
  intro H locs arr hP hz hS hl
  exact va_zald C.1 C.2.1 C.2.2.2.2.2.1.1 hP k 1 (by rw [wl_at hk.1, cel_z hk.2, hn]) (tys_z G) hin hd (K H locs arr hP hz hS hl)
theorem r_alen (C : Cx X G M lv mc ms N0) {k n : Nat} (v : Int32) (hd : decode M.2.2.1 pc = .ok (.arraylength, 1)) (hk : k < N ∧ 10 ≤ (sh k).1 ∧ (sh k).1 < 15) (hn : (sh k).2.1 = n) (hv : Int32.ofNat n = v) (K : Vw X G M.2.2.2.1 cs sl Q N sh f (pc + 1) ls (.int v :: st)) : Vw X G M.2.2.2.1 cs sl Q N sh f pc ls (.ref (G.1 + k) :: st) := by
  intro H locs arr hP hz hS hl
  subst hn
  obtain ⟨h1, h2, h3⟩ := hk
  have hw := wl_at (G := G) (f := f) (sh := sh) h1
  rcases Nat.lt_or_ge (sh k).1 11 with h | h
  · have e : (sh k).1 = 10 := by omega
    rw [cel_i e] at hw
    exact va_alen C.1 C.2.1 C.2.2.2.2.2.1.1 hP k 0 hw (tys_i G) hv hd (K H locs arr hP hz hS hl)
  · rcases Nat.lt_or_ge (sh k).1 12 with h | h
    · have e : (sh k).1 = 11 := by omega
      rw [cel_z e] at hw
      exact va_alen C.1 C.2.1 C.2.2.2.2.2.1.1 hP k 1 hw (tys_z G) hv hd (K H locs arr hP hz hS hl)
    · obtain ⟨b, hb⟩ : ∃ b, (sh k).1 = b + 12 := ⟨(sh k).1 - 12, by omega⟩
      rw [cel_r hb] at hw
      have hb3 : b < 3 := by omega
      have ht : ∃ ty, (tysG G)[b + 2]? = some (G.2.2.1 (b + 2), ty) := by
        match b, hb3 with
        | 0, _ => exact ⟨_, rfl⟩
        | 1, _ => exact ⟨_, rfl⟩
        | 2, _ => exact ⟨_, rfl⟩
      obtain ⟨ty, ht⟩ := ht
      exact va_alen C.1 C.2.1 C.2.2.2.2.2.1.1 hP k (b + 2) hw ht hv hd (K H locs arr hP hz hS hl)
theorem r_iast (C : Cx X G M lv mc ms N0) {k n : Nat} {i x : Int32} (hd : decode M.2.2.1 pc = .ok (.iastore, 1)) (hk : k < N ∧ (sh k).1 = 10) (hn : (sh k).2.1 = n) (hin : vp_in i n) (K : Vw X G M.2.2.2.1 cs sl Q N sh (u2 f k i.toNatClampNeg x) (pc + 1) ls st) : Vw X G M.2.2.2.1 cs sl Q N sh f pc ls (.int x :: .int i :: .ref (G.1 + k) :: st) := by
  intro H locs arr hP hz hS hl
  subst hn
  have ha : (wl G N sh f)[k]? = some (G.1 + k, .inl (G.2.2.1 0, (sh k).2.1, .inl (f k))) := by rw [wl_at hk.1, cel_i hk.2]
  have hD : va_D (fun q => G.1 ≤ q) (wl G N sh f) := wl_D
  refine W.iast C.1 C.2.1 (hP k _ ha) ((C.2.2.2.2.2.1.1.2 0 _ (tys_i G)).1 (sh k).2.1 (fun j => .int (f k j))) (fun q => by cases q) (by show ¬ (i < 0 ∨ (arrV _ _ _).slots.size ≤ _); rw [arrV_size]; exact hin) rfl rfl hd fun H1 e z oq => ?_
  refine K H1 _ arr ?_ (z.trans hz) (hS.put z oq (Nat.le_add_right _ _)) hl
  have hP2 := hP.set hD ha (e := .inl (G.2.2.1 0, (sh k).2.1, .inl (fun b => if b = i.toNatClampNeg then x else f k b))) (H1 := H1) (by
    show H1[G.1 + k]? = some (vp_cell _ _)
    rw [e, vp_cell_i, vp_cell_i, arrV_store]
    congr 2
    funext q
    by_cases hq : q = i.toNatClampNeg
    · subst hq
      simp [updV]
    · simp [updV, hq]) oq
  rw [← cel_i (G := G) (q := sh k) hk.2, wl_setf, va_up_u2] at hP2
  exact hP2
theorem r_zast (C : Cx X G M lv mc ms N0) {k n : Nat} {i x : Int32} (hd : decode M.2.2.1 pc = .ok (.bastore, 1)) (hk : k < N ∧ (sh k).1 = 11) (hn : (sh k).2.1 = n) (hin : vp_in i n) (hv : x = 0 ∨ x = 1) (hcs : N = N0 ∧ cs = 0) (K : Vw X G M.2.2.2.1 cs sl Q N sh (u2 f k i.toNatClampNeg x) (pc + 1) ls st) : Vw X G M.2.2.2.1 cs sl Q N sh f pc ls (.int x :: .int i :: .ref (G.1 + k) :: st) := by
  intro H locs arr hP hz hS hl
  subst hn
  have ha : (wl G N sh f)[k]? = some (G.1 + k, .inl (G.2.2.1 1, (sh k).2.1, .inl (f k))) := by rw [wl_at hk.1, cel_z hk.2]
  have hD : va_D (fun q => G.1 ≤ q) (wl G N sh f) := wl_D
  obtain ⟨rfl, rfl⟩ := hcs
  refine va_zast C.1 C.2.1 C.2.2.2.2.2.1.1 hP hD hS k 1 ha (tys_z G) hin hd (fun H1 locs1 hP1 _ hS1 => ?_)
  have hnar : vp_nar .boolean x = x := by rcases hv with rfl | rfl <;> decide +kernel
  rw [hnar] at hP1
  have e1 : upd (f k) i.toNatClampNeg x = (fun b => if b = i.toNatClampNeg then x else f k b) := rfl
  rw [e1, ← cel_z (G := G) (q := sh k) hk.2, wl_setf, va_up_u2] at hP1
  intro T hT XX
  have hsz := C.2.2.2.2.2.2.2.2.2.2.2
  have h3 : T.heap.size ≤ X.2.2.2.2.1.heap.size + 0 := XX.same.2.2.1
  have h4 := hS1.1
  rw [hT] at h3
  exact K H1 locs1 arr hP1 (by omega) hS1 hl T hT XX
theorem r_aald (C : Cx X G M lv mc ms N0) {k n t b : Nat} {i : Int32} (hd : decode M.2.2.1 pc = .ok (.aaload, 1)) (hk : k < N ∧ (sh k).1 = b + 12) (hb3 : b < 3) (hn : (sh k).2.1 = n) (hin : vp_in i n) (ht : (sh k).2.2 i.toNatClampNeg = some t) (K : Vw X G M.2.2.2.1 cs sl Q N sh f (pc + 1) ls (.ref (G.1 + t) :: st)) : Vw X G M.2.2.2.1 cs sl Q N sh f pc ls (.int i :: .ref (G.1 + k) :: st) := by
  intro H locs arr hP hz hS hl
  have hty : ∃ Cn, (tysG G)[b + 2]? = some (G.2.2.1 (b + 2), .object Cn) := by
    match b, hb3 with
    | 0, _ => exact ⟨_, rfl⟩
    | 1, _ => exact ⟨_, rfl⟩
    | 2, _ => exact ⟨_, rfl⟩
  obtain ⟨Cn, hty⟩ := hty
  refine va_aldq C.1 C.2.1 C.2.2.2.2.2.1.1 hP k (b + 2) (by rw [wl_at hk.1, cel_r hk.2, hn]) hty hin hd ?_
  rw [ht]
  exact K H locs arr hP hz hS hl
theorem r_aaldN (C : Cx X G M lv mc ms N0) {k n b : Nat} {i : Int32} (hd : decode M.2.2.1 pc = .ok (.aaload, 1)) (hk : k < N ∧ (sh k).1 = b + 12) (hb3 : b < 3) (hn : (sh k).2.1 = n) (hin : vp_in i n) (ht : (sh k).2.2 i.toNatClampNeg = none) (K : Vw X G M.2.2.2.1 cs sl Q N sh f (pc + 1) ls (.null :: st)) : Vw X G M.2.2.2.1 cs sl Q N sh f pc ls (.int i :: .ref (G.1 + k) :: st) := by
  intro H locs arr hP hz hS hl
  have hty : ∃ Cn, (tysG G)[b + 2]? = some (G.2.2.1 (b + 2), .object Cn) := by
    match b, hb3 with
    | 0, _ => exact ⟨_, rfl⟩
    | 1, _ => exact ⟨_, rfl⟩
    | 2, _ => exact ⟨_, rfl⟩
  obtain ⟨Cn, hty⟩ := hty
  refine va_aldq C.1 C.2.1 C.2.2.2.2.2.1.1 hP k (b + 2) (by rw [wl_at hk.1, cel_r hk.2, hn]) hty hin hd ?_
  rw [ht]
  exact K H locs arr hP hz hS hl
end RH1
end
section
/-! ROWS of returns and calls -/
section RR
variable {X : XT} {G : GG} {M : MD} {lv mc ms N0 : Nat} {cs sl : Nat} {N : Nat} {sh : SH} {f : MM} {pc : Nat} {ls : List (Option Value)} {post : PoT}
theorem r_iret (C : Cx X G M lv mc ms N0) {v : Int32} (hd : decode M.2.2.1 pc = .ok (.ireturn, 1)) (hr : M.2.2.2.2 = some .int) (hc : cs ≤ mc ∧ sl ≤ ms) (hp : post (some (.int v)) N sh f) : Vw X G M.2.2.2.1 cs sl (QQ X G post mc ms) N sh f pc ls [.int v] := by
  intro H locs arr hP hz hS hl
  obtain ⟨hx, hb, -, -, -, -, -, hlk, hrt, -⟩ := C
  refine W.widen hc.1 hc.2 ?_
  exact W.iret (v := v) hx hb (hrt.trans hr) (fun t ht hW => ⟨⟨_, N, sh, f, rfl, hp, by rw [ht]; exact hP, by rw [ht]; exact hz⟩, hS.F ht⟩) hS.2.2 hd hlk
theorem r_zret (C : Cx X G M lv mc ms N0) {v : Int32} (hd : decode M.2.2.1 pc = .ok (.ireturn, 1)) (hr : M.2.2.2.2 = some .boolean) (hv : v = 0 ∨ v = 1) (hc : cs ≤ mc ∧ sl ≤ ms) (hp : post (some (.int v)) N sh f) : Vw X G M.2.2.2.1 cs sl (QQ X G post mc ms) N sh f pc ls [.int v] := by
  intro H locs arr hP hz hS hl
  obtain ⟨hx, hb, -, -, -, -, -, hlk, hrt, -⟩ := C
  refine W.widen hc.1 hc.2 ?_
  exact W.zret (v := v) (ty := .boolean) hx hb (hrt.trans hr) (by rcases hv with rfl | rfl <;> decide +kernel) (fun t ht hW => ⟨⟨_, N, sh, f, rfl, hp, by rw [ht]; exact hP, by rw [ht]; exact hz⟩, hS.F ht⟩) hS.2.2 hd hlk
theorem r_vret (C : Cx X G M lv mc ms N0) (hd : decode M.2.2.1 pc = .ok (.return_, 1)) (hr : M.2.2.2.2 = none) (hc : cs ≤ mc ∧ sl ≤ ms) (hp : post none N sh f) : Vw X G M.2.2.2.1 cs sl (QQ X G post mc ms) N sh f pc ls [] := by
  intro H locs arr hP hz hS hl
  obtain ⟨hx, hb, -, -, -, -, -, hlk, hrt, -⟩ := C
  refine W.widen hc.1 hc.2 ?_
  exact W.vret hx hb (hrt.trans hr) (fun t ht hW => ⟨⟨_, N, sh, f, rfl, hp, by rw [ht]; exact hP, by rw [ht]; exact hz⟩, hS.F ht⟩) hS.2.2 hd hlk
end RR
theorem nw_tabs {w : Cond} (h : w ∈ nw) : w.onTables = true := by
  have h1 := (List.mem_filter.mp h).2
  cases w <;> first | rfl | (simp [vz_isNest] at h1)
theorem nw_warm {w : Cond} (h : w ∈ nw) {s U : State} (hW : s.WarmedH U.vm) (hZ : va_Nw w s) : va_Nw w U := by
  have h1 := (List.mem_filter.mp h).2
  cases w <;> first | (simp [vz_isNest] at h1; done) | exact va_Nw.warmF hW hZ | exact va_Nw.warmM hW hZ
theorem kkG.warm {G : GG} {s U : State} (h : kkG G s) (hW : s.WarmedH U.vm) : kkG G U := ⟨va_K.moved hW.alike h.1, fun w hw => nw_warm hw hW (h.2 w hw)⟩
theorem zsG.go {G : GG} {s U : State} {H0 H : Heap} {locs : List Loc} (h : zsG G s H0) (hA : s.vm.Alike U.vm) (hS : va_S (fun q => G.1 ≤ q) H0 H locs) : zsG G U H :=
  fun t ht => ⟨((h t ht).1.moved hA).kept hS.2.1, ((h t ht).2.moved hA).kept hS.2.1⟩
theorem pcm_blind {G : GG} {av : List Value} {N : Nat} {sh : SH} {f : MM} : FrameBlind (Pcm G av N sh f) := by
  intro a U g mk q
  obtain ⟨q0, q1, q2, q3, q4⟩ := q
  exact ⟨q0, q1, q2, ⟨va_K.moved (u := U) (U := U.calling g mk a) (Vm.Alike.refl U.vm) q3.1, fun w hw => va_Nw.same (u := U) (U := U.calling g mk a) (nw_tabs hw) rfl (q3.2 w hw)⟩, fun t ht => ⟨(q4 t ht).1.moved (U := U.calling g mk a) (Vm.Alike.refl U.vm), (q4 t ht).2.moved (U := U.calling g mk a) (Vm.Alike.refl U.vm)⟩⟩
def Kl (own : String) (idx : Nat) (M2 : MD) (n : Nat) : Prop :=
  (Cond.methodLink own idx M2.2.1 ∈ gw ∨ ∃ host, Cond.methodLinkNest own idx M2.2.1 host ∈ nw) ∧ Cond.initialized M2.2.1.cls ∈ gw ∧ Cond.code M2.2.1 M2.2.2.1 M2.2.2.2.1 M2.2.2.2.2 ∈ gw ∧ (M2.2.1.cls ≠ "java/lang/invoke/MethodHandle" ∧ M2.2.1.cls ≠ "java/lang/invoke/VarHandle" ∧ (parseMethodDescriptor M2.2.1.desc).map (fun d => d.parameters.length) = some n) ∧ M2.2.2.2.1 ≤ 40
def KlV (own : String) (idx : Nat) (M2 : MD) (n ci : Nat) : Prop := Kl own idx M2 n ∧ Cond.instanceMethod M2.2.1 ∈ gw ∧ Cond.selects M2.2.1.cls M2.2.1 M2.2.1 ∈ gw ∧ ∃ T : u_T, vwCl[ci]? = some (M2.2.1.cls, T, nfl ci)
def KlS (own : String) (idx : Nat) (M2 : MD) (n : Nat) : Prop := Kl own idx M2 n ∧ Cond.static M2.2.1 ∈ gw
def KlI (own : String) (idx : Nat) (M2 : MD) (n : Nat) : Prop := Kl own idx M2 n ∧ Cond.instanceMethod M2.2.1 ∈ gw ∧ M2.2.1.name = "<init>" ∧ M2.2.2.2.2 = none
theorem gw_in {M2 : MD} (h : Cond.code M2.2.1 M2.2.2.1 M2.2.2.2.1 M2.2.2.2.2 ∈ gw) : GoodIn gw (wsM M2) := by
  intro w hw
  have : w ∈ gw := by
    rcases List.mem_cons.mp hw with rfl | h1
    · exact h
    · exact h1
  exact ⟨this, good_of_word (gw_good this)⟩
section RC
variable {X : XT} {G : GG} {M : MD} {lv mc ms N0 : Nat} {cs sl : Nat} {Q : State → Prop} {N : Nat} {sh : SH} {f : MM} {pc : Nat} {ls : List (Option Value)} {st : List Value} {post : PoT}
theorem r_run {nL mc2 ms2 : Nat} {a : Array Value} {rest : List Value} (hrun : ∀ (H : Heap) (locs : List Loc) (arr : Array Slot), va_P G.2.1 vwCl (wl G N sh f) H → H.size = G.1 + N → va_S (fun q => G.1 ≤ q) X.2.2.2.2.1.heap H locs → hasL arr nL ls → va_Run X.1 X.2.1 X.2.2.1 X.2.2.2.1 X.2.2.2.2.1 X.2.2.2.2.2.1 X.2.2.2.2.2.2.1 X.2.2.2.2.2.2.2.1 X.2.2.2.2.2.2.2.2.1 X.2.2.2.2.2.2.2.2.2 H locs cs sl mc2 ms2 (F0 X.2.2.2.2.2.1 pc arr st) rest (Qcm G post a) (fun q => G.1 ≤ q))
    (K : ∀ (r : Option Value) (N' : Nat) (sh' : SH) (f' : MM), post r N' sh' f' → Vw X G nL (cs + mc2) (sl + ms2) Q N' sh' f' (pc + 3) ls (r.toList ++ rest)) : Vw X G nL cs sl Q N sh f pc ls st := by
  intro H locs arr hP hz hS hl T hT XX
  obtain ⟨v, st0, t, T', L, h0, X', hL, e1, e2, ⟨⟨r, N', sh', f', hv, hp, hP', hz'⟩, hF⟩, stp⟩ := hrun H locs arr hP hz hS hl T hT XX
  cases hv
  rw [va_F, h0] at hF
  obtain ⟨t2, a1, b1⟩ := K v N' sh' f' hp T'.heap (locs ++ L) arr (by rw [e1]; exact hP') (by rw [e1]; exact hz')
    ⟨Nat.le_trans hS.1 (by rw [e1]; exact hF.1), fun q h1 h2 => by rw [e1, hF.2 q (Nat.lt_of_lt_of_le h1 hS.1) h2]; exact hS.2.1 q h1 h2, fun q hq => by
      rcases List.mem_append.mp hq with h | h
      · exact hS.2.2 q h
      · exact hL q h⟩ hl T' rfl X'
  exact ⟨t2, stp t2 a1, b1⟩
theorem pre_go (C : Cx X G M lv mc ms N0) {H : Heap} {locs : List Loc} {av : List Value} (hP : va_P G.2.1 vwCl (wl G N sh f) H) (hz : H.size = G.1 + N) (hS : va_S (fun q => G.1 ≤ q) X.2.2.2.2.1.heap H locs) : ∀ U : State, U.heap = H → X.2.2.2.2.1.WarmedH U.vm → Pcm G av N sh f av.toArray U := by
  intro U hU hW
  exact ⟨rfl, by rw [hU]; exact hP, by rw [hU]; exact hz, C.2.2.2.2.2.1.warm hW, by rw [hU]; exact C.2.2.2.2.2.2.1.go hW.alike hS⟩
theorem cat_room {m : MethodId} {pc : Nat} {arr : Array Slot} {st rest : List Value} (h : (rest.map fun v => v.category).sum ≤ 8) : 2 * (F0 m pc arr st).monitorRoom + (rest.map fun v => v.category).sum ≤ 8 := lv_room h
theorem rm_ok {lv2 lv mL : Nat} {mc2 ms2 mc ms : Nat} {R : Room} (hR : R = rmL lv mc ms) (h : lv2 + 1 ≤ lv) (hm : mL ≤ 40) : (rmL lv2 mc2 ms2).frames + 1 ≤ R.frames ∧ 8 + (mL + 11) + (rmL lv2 mc2 ms2).locals ≤ R.locals := by
  subst hR
  refine ⟨h, ?_⟩
  show 8 + (mL + 11) + (64 * lv2 + 64) ≤ 64 * lv + 64
  omega
theorem cells_ok {mc2 ms2 : Nat} {R : Room} (hR : R = rmL lv mc ms) (h : cs + mc2 ≤ mc ∧ sl + ms2 ≤ ms) : cs + mc2 ≤ R.cells ∧ sl + ms2 ≤ R.slots := by
  subst hR
  exact h
theorem r_callv (C : Cx X G M lv mc ms N0) {M2 : MD} {lv2 mc2 ms2 n ci k idx : Nat} {As rest : List Value} (hl : KlV M.1 idx M2 n ci) (hd : decode M.2.2.1 pc = .ok (.invokevirtual idx, 3)) (hM : Ct G M2 lv2 mc2 ms2 (.ref (G.1 + k) :: As) N sh f post) (hk : k < N ∧ (sh k).1 = ci) (hst : st = As.reverse ++ .ref (G.1 + k) :: rest) (hn : As.length = n) (hr : (rest.map fun v => v.category).sum ≤ 8) (hlv : lv2 + 1 ≤ lv) (hc : cs + mc2 ≤ mc ∧ sl + ms2 ≤ ms)
    (K : ∀ (r : Option Value) (N' : Nat) (sh' : SH) (f' : MM), post r N' sh' f' → Vw X G M.2.2.2.1 (cs + mc2) (sl + ms2) Q N' sh' f' (pc + 3) ls (r.toList ++ rest)) : Vw X G M.2.2.2.1 cs sl Q N sh f pc ls st := by
  obtain ⟨⟨hln, hini, hcode, hnm, hmx⟩, hins, hsel, T, hcl⟩ := hl
  refine r_run (a := (Value.ref (G.1 + k) :: As).toArray) (fun H locs arr hP hz hS hll => ?_) K
  have Cc := C
  obtain ⟨hx, hb, hml, hown, hts, ⟨hK, hN⟩, -, -, -, -, hR, -⟩ := C
  have he : (wl G N sh f)[k]? = some (G.1 + k, .inr (ci, fso G ci (sh k).2.2 (f k))) := by rw [wl_at hk.1, cel_o hk.2 (cl_lt hcl)]
  have hPV : PreV X.2.2.2.2.1 H M2.2.1.cls (G.1 + k) (Pcm G (.ref (G.1 + k) :: As) N sh f) As := ⟨pcm_blind, va_recv hK hP hcl he, pre_go Cc hP hz hS⟩
  have hrm := rm_ok (mc2 := mc2) (ms2 := ms2) hR hlv hmx
  rcases hln with hln | ⟨host, hln⟩
  · exact va_runV (C := M2.2.1.cls) (bytes := M2.2.2.1) (maxL := M2.2.2.2.1) (ret := M2.2.2.2.2) (n := n) ⟨hx, hb, hml, hown, hts⟩ (hM _) ⟨callB_of n hts (gw_in hcode) rfl rfl rfl (hts _ hini) (hts _ hln) hnm hrm, hts _ hins, hts _ hsel⟩ hPV rfl hn hll.1 hst (cat_room hr) hd (cells_ok hR hc)
  · exact va_runVN (C := M2.2.1.cls) (bytes := M2.2.2.1) (maxL := M2.2.2.2.1) (ret := M2.2.2.2.2) (n := n) ⟨hx, hb, hml, hown, hts⟩ (hM _) ⟨va_cnB n hts (gw_in hcode) rfl rfl rfl (hN _ hln) (hts _ hini) hnm hrm, hts _ hins, hts _ hsel⟩ hPV rfl hn hll.1 hst (cat_room hr) hd (cells_ok hR hc)
theorem r_calls (C : Cx X G M lv mc ms N0) {M2 : MD} {lv2 mc2 ms2 n idx : Nat} {As rest : List Value} (hl : KlS M.1 idx M2 n) (hd : decode M.2.2.1 pc = .ok (.invokestatic idx, 3)) (hM : Ct G M2 lv2 mc2 ms2 As N sh f post) (hst : st = As.reverse ++ rest) (hn : As.length = n) (hr : (rest.map fun v => v.category).sum ≤ 8) (hlv : lv2 + 1 ≤ lv) (hc : cs + mc2 ≤ mc ∧ sl + ms2 ≤ ms)
    (K : ∀ (r : Option Value) (N' : Nat) (sh' : SH) (f' : MM), post r N' sh' f' → Vw X G M.2.2.2.1 (cs + mc2) (sl + ms2) Q N' sh' f' (pc + 3) ls (r.toList ++ rest)) : Vw X G M.2.2.2.1 cs sl Q N sh f pc ls st := by
  obtain ⟨⟨hln, hini, hcode, hnm, hmx⟩, hstat⟩ := hl
  refine r_run (a := As.toArray) (fun H locs arr hP hz hS hll => ?_) K
  have Cc := C
  obtain ⟨hx, hb, hml, hown, hts, ⟨hK, hN⟩, -, -, -, -, hR, -⟩ := C
  have hPS : PreS X.2.2.2.2.1 H (Pcm G As N sh f) As := ⟨pcm_blind, pre_go Cc hP hz hS⟩
  have hrm := rm_ok (mc2 := mc2) (ms2 := ms2) hR hlv hmx
  rcases hln with hln | ⟨host, hln⟩
  · exact va_runS (bytes := M2.2.2.1) (maxL := M2.2.2.2.1) (ret := M2.2.2.2.2) (n := n) ⟨hx, hb, hml, hown, hts⟩ (hM _) ⟨callB_of n hts (gw_in hcode) rfl rfl rfl (hts _ hini) (hts _ hln) hnm hrm, hts _ hstat⟩ hPS rfl hn hll.1 hst (cat_room hr) hd (cells_ok hR hc)
  · exact va_runSN (bytes := M2.2.2.1) (maxL := M2.2.2.2.1) (ret := M2.2.2.2.2) (n := n) ⟨hx, hb, hml, hown, hts⟩ (hM _) ⟨va_cnB n hts (gw_in hcode) rfl rfl rfl (hN _ hln) (hts _ hini) hnm hrm, hts _ hstat, trivial⟩ hPS rfl hn hll.1 hst (cat_room hr) hd (cells_ok hR hc)
theorem r_calli (C : Cx X G M lv mc ms N0) {M2 : MD} {lv2 mc2 ms2 n k idx : Nat} {As rest : List Value} (hl : KlI M.1 idx M2 n) (hd : decode M.2.2.1 pc = .ok (.invokespecial idx, 3)) (hM : Ct G M2 lv2 mc2 ms2 (.ref (G.1 + k) :: As) N sh f post) (hst : st = As.reverse ++ .ref (G.1 + k) :: rest) (hn : As.length = n) (hr : (rest.map fun v => v.category).sum ≤ 8) (hlv : lv2 + 1 ≤ lv) (hc : cs + mc2 ≤ mc ∧ sl + ms2 ≤ ms)
    (K : ∀ (r : Option Value) (N' : Nat) (sh' : SH) (f' : MM), post r N' sh' f' → Vw X G M.2.2.2.1 (cs + mc2) (sl + ms2) Q N' sh' f' (pc + 3) ls (r.toList ++ rest)) : Vw X G M.2.2.2.1 cs sl Q N sh f pc ls st := by
  obtain ⟨⟨hln, hini, hcode, hnm, hmx⟩, hins, hname, hret⟩ := hl
  refine r_run (a := (Value.ref (G.1 + k) :: As).toArray) (fun H locs arr hP hz hS hll => ?_) K
  have Cc := C
  obtain ⟨hx, hb, hml, hown, hts, ⟨hK, hN⟩, -, -, -, -, hR, -⟩ := C
  have hPS : PreS X.2.2.2.2.1 H (Pcm G (.ref (G.1 + k) :: As) N sh f) (.ref (G.1 + k) :: As) := ⟨pcm_blind, pre_go Cc hP hz hS⟩
  have hrm := rm_ok (mc2 := mc2) (ms2 := ms2) hR hlv hmx
  have hws : wsM M2 = Cond.code M2.2.1 M2.2.2.1 M2.2.2.2.1 none :: gw := by rw [wsM, hret]
  rcases hln with hln | ⟨host, hln⟩
  · exact va_runI (bytes := M2.2.2.1) (maxL := M2.2.2.2.1) (n := n) ⟨hx, hb, hml, hown, hts⟩ (hM _) ⟨callB_of n hts (gw_in hcode) hws rfl rfl (hts _ hini) (hts _ hln) hnm hrm, hname, hts _ hins⟩ hPS rfl hn hll.1 hst (cat_room hr) hd (cells_ok hR hc)
  · exact va_runIN (bytes := M2.2.2.1) (maxL := M2.2.2.2.1) (n := n) ⟨hx, hb, hml, hown, hts⟩ (hM _) ⟨va_cnB n hts (gw_in hcode) hws rfl rfl (hN _ hln) (hts _ hini) hnm hrm, hname, hts _ hins⟩ hPS rfl hn hll.1 hst (cat_room hr) hd (cells_ok hR hc)
end RC
end
section
abbrev mX0_init : MD := (RX0, yX0_init, cX0_init, 1, none)
abbrev mX0_keep : MD := (RX0, yX0_keep, cX0_keep, 2, none)
abbrev mX0_takeBack : MD := (RX0, yX0_takeBack, cX0_takeBack, 3, none)
abbrev mX0_forget : MD := (RX0, yX0_forget, cX0_forget, 1, none)
abbrev mX1_init : MD := (RX1, yX1_init, cX1_init, 1, none)
abbrev mX1_isSuch : MD := (RX1, yX1_isSuch, cX1_isSuch, 4, some .boolean)
abbrev mX1_answer : MD := (RX1, yX1_answer, cX1_answer, 4, some .int)
abbrev mX1_sizeOf : MD := (RX1, yX1_sizeOf, cX1_sizeOf, 4, some .int)
abbrev mX1_markOf : MD := (RX1, yX1_markOf, cX1_markOf, 4, some .int)
abbrev mX1_nearest : MD := (RX1, yX1_nearest, cX1_nearest, 4, some .int)
abbrev mX1_begin : MD := (RX1, yX1_begin, cX1_begin, 6, some .int)
abbrev mX1_leaveTrace : MD := (RX1, yX1_leaveTrace, cX1_leaveTrace, 2, none)
abbrev mX2_init : MD := (RX2, yX2_init, cX2_init, 1, none)
abbrev mX2_walkToHut : MD := (RX2, yX2_walkToHut, cX2_walkToHut, 4, some .int)
abbrev mX2_walkOn : MD := (RX2, yX2_walkOn, cX2_walkOn, 5, some .int)
abbrev mX2_isApart : MD := (RX2, yX2_isApart, cX2_isApart, 2, some .boolean)
abbrev mX2_startSearch : MD := (RX2, yX2_startSearch, cX2_startSearch, 1, none)
abbrev mX2_keepIfLess : MD := (RX2, yX2_keepIfLess, cX2_keepIfLess, 3, some .boolean)
abbrev mX2_bestRule : MD := (RX2, yX2_bestRule, cX2_bestRule, 2, some .int)
abbrev mX2_findSoonest : MD := (RX2, yX2_findSoonest, cX2_findSoonest, 3, none)
abbrev mX2_findFair : MD := (RX2, yX2_findFair, cX2_findFair, 3, none)
abbrev mX2_greatestLoss : MD := (RX2, yX2_greatestLoss, cX2_greatestLoss, 3, some .int)
abbrev mX2_findSacks : MD := (RX2, yX2_findSacks, cX2_findSacks, 6, none)
abbrev mX2_nextOrder : MD := (RX2, yX2_nextOrder, cX2_nextOrder, 6, some .boolean)
abbrev mX2_swap : MD := (RX2, yX2_swap, cX2_swap, 4, none)
abbrev mX2_findParties : MD := (RX2, yX2_findParties, cX2_findParties, 6, none)
abbrev mX2_walkSet : MD := (RX2, yX2_walkSet, cX2_walkSet, 3, some .int)
abbrev mX2_lastTurn : MD := (RX2, yX2_lastTurn, cX2_lastTurn, 4, some .int)
abbrev mX2_walkBack : MD := (RX2, yX2_walkBack, cX2_walkBack, 4, some .int)
abbrev mX2_findFits : MD := (RX2, yX2_findFits, cX2_findFits, 7, none)
abbrev mX2_isSo : MD := (RX2, yX2_isSo, cX2_isSo, 8, some .boolean)
abbrev mX3_init : MD := (RX3, yX3_init, cX3_init, 2, none)
abbrev mX3_become : MD := (RX3, yX3_become, cX3_become, 3, none)
abbrev mX3_isIn : MD := (RX3, yX3_isIn, cX3_isIn, 2, some .boolean)
abbrev mX3_walkLeg : MD := (RX3, yX3_walkLeg, cX3_walkLeg, 5, none)
abbrev mX3_firstToLeave : MD := (RX3, yX3_firstToLeave, cX3_firstToLeave, 3, some .int)
abbrev mX3_leaveGate : MD := (RX3, yX3_leaveGate, cX3_leaveGate, 6, none)
abbrev mX3_leavesAt : MD := (RX3, yX3_leavesAt, cX3_leavesAt, 5, some .int)
abbrev mX3_firstCame : MD := (RX3, yX3_firstCame, cX3_firstCame, 3, some .int)
abbrev mX3_lastCame : MD := (RX3, yX3_lastCame, cX3_lastCame, 3, some .int)
abbrev mX3_lastMinute : MD := (RX3, yX3_lastMinute, cX3_lastMinute, 3, some .int)
abbrev mX4_init : MD := (RX4, yX4_init, cX4_init, 1, none)
abbrev mX4_append : MD := (RX4, yX4_append, cX4_append, 2, some .int)
abbrev mX4_readInto : MD := (RX4, yX4_readInto, cX4_readInto, 2, some .boolean)
abbrev mX4_readLegs : MD := (RX4, yX4_readLegs, cX4_readLegs, 5, none)
abbrev mX4_readRule : MD := (RX4, yX4_readRule, cX4_readRule, 2, none)
abbrev mX4_readWalkers : MD := (RX4, yX4_readWalkers, cX4_readWalkers, 6, none)
abbrev mX4_expectSort : MD := (RX4, yX4_expectSort, cX4_expectSort, 3, some .int)
abbrev mX4_kindOf : MD := (RX4, yX4_kindOf, cX4_kindOf, 1, some .int)
abbrev mX4_expectNumber : MD := (RX4, yX4_expectNumber, cX4_expectNumber, 5, some .int)
abbrev mX4_expect : MD := (RX4, yX4_expect, cX4_expect, 2, none)
abbrev mX4_accept : MD := (RX4, yX4_accept, cX4_accept, 2, some .boolean)
abbrev mX4_blame : MD := (RX4, yX4_blame, cX4_blame, 2, none)
abbrev mX4_advance : MD := (RX4, yX4_advance, cX4_advance, 3, none)
abbrev mX4_takeFigures : MD := (RX4, yX4_takeFigures, cX4_takeFigures, 1, none)
abbrev mX4_isFigure : MD := (RX4, yX4_isFigure, cX4_isFigure, 1, some .boolean)
abbrev mX5_init : MD := (RX5, yX5_init, cX5_init, 1, none)
abbrev mX5_make : MD := (RX5, yX5_make, cX5_make, 4, none)
abbrev mX5_put : MD := (RX5, yX5_put, cX5_put, 3, some .int)
abbrev mX5_cut : MD := (RX5, yX5_cut, cX5_cut, 2, some .int)
abbrev mX5_holds : MD := (RX5, yX5_holds, cX5_holds, 3, some .boolean)
abbrev mX6_init : MD := (RX6, yX6_init, cX6_init, 1, none)
abbrev mX6_become : MD := (RX6, yX6_become, cX6_become, 2, none)
abbrev mX6_begin : MD := (RX6, yX6_begin, cX6_begin, 4, none)
abbrev mX6_minutesFor : MD := (RX6, yX6_minutesFor, cX6_minutesFor, 3, some .int)
abbrev mX6_tiresBy : MD := (RX6, yX6_tiresBy, cX6_tiresBy, 4, some .int)
abbrev mX6_leaveAt : MD := (RX6, yX6_leaveAt, cX6_leaveAt, 3, none)
abbrev mX6_mendedBy : MD := (RX6, yX6_mendedBy, cX6_mendedBy, 1, some .int)
abbrev mX7_init : MD := (RX7, yX7_init, cX7_init, 1, none)
abbrev mX7_become : MD := (RX7, yX7_become, cX7_become, 2, none)
abbrev mX7_move : MD := (RX7, yX7_move, cX7_move, 6, none)
abbrev mX8_init : MD := (RX8, yX8_init, cX8_init, 2, none)
abbrev mX8_row : MD := (RX8, yX8_row, cX8_row, 4, some .int)
abbrev mX8_set : MD := (RX8, yX8_set, cX8_set, 5, some .int)
abbrev mX8_copy : MD := (RX8, yX8_copy, cX8_copy, 8, some .int)
abbrev mX8_drop : MD := (RX8, yX8_drop, cX8_drop, 3, some .int)
abbrev mX8_feed : MD := (RX8, yX8_feed, cX8_feed, 2, some .int)
abbrev mX8_way : MD := (RX8, yX8_way, cX8_way, 1, some .int)
abbrev mX8_fault : MD := (RX8, yX8_fault, cX8_fault, 1, some .int)
abbrev mX8_go : MD := (RX8, yX8_go, cX8_go, 1, some .int)
abbrev mX8_rule : MD := (RX8, yX8_rule, cX8_rule, 4, some .int)
abbrev mX8_give : MD := (RX8, yX8_give, cX8_give, 6, some .int)
abbrev mX8_undo : MD := (RX8, yX8_undo, cX8_undo, 1, some .int)
abbrev mX8_walker : MD := (RX8, yX8_walker, cX8_walker, 4, some .int)
abbrev mX8_leg : MD := (RX8, yX8_leg, cX8_leg, 2, some .int)
abbrev mX8_mends : MD := (RX8, yX8_mends, cX8_mends, 2, some .int)
abbrev mX8_there : MD := (RX8, yX8_there, cX8_there, 4, some .int)
abbrev mX8_allThere : MD := (RX8, yX8_allThere, cX8_allThere, 1, some .int)
abbrev mX8_soonest : MD := (RX8, yX8_soonest, cX8_soonest, 2, some .int)
abbrev mX8_loses : MD := (RX8, yX8_loses, cX8_loses, 4, some .int)
abbrev mX8_fair : MD := (RX8, yX8_fair, cX8_fair, 2, some .int)
abbrev mX8_sacks : MD := (RX8, yX8_sacks, cX8_sacks, 2, some .int)
abbrev mX8_parties : MD := (RX8, yX8_parties, cX8_parties, 2, some .int)
abbrev mX8_turn : MD := (RX8, yX8_turn, cX8_turn, 1, some .int)
abbrev mX8_fits : MD := (RX8, yX8_fits, cX8_fits, 7, some .int)
abbrev mX8_image : MD := (RX8, yX8_image, cX8_image, 2, some .int)
abbrev mX8_restore : MD := (RX8, yX8_restore, cX8_restore, 2, some .int)
abbrev mX8_kind : MD := (RX8, yX8_kind, cX8_kind, 2, some .int)
abbrev mX8_as : MD := (RX8, yX8_as, cX8_as, 3, some .int)
abbrev mX8_ask : MD := (RX8, yX8_ask, cX8_ask, 3, some .int)
abbrev mX8_trace : MD := (RX8, yX8_trace, cX8_trace, 2, some .int)
abbrev mX8_count : MD := (RX8, yX8_count, cX8_count, 2, some .int)
abbrev mX8_status : MD := (RX8, yX8_status, cX8_status, 1, some .int)
abbrev mX8_countRows : MD := (RX8, yX8_countRows, cX8_countRows, 3, some .int)
abbrev mX8_isWalker : MD := (RX8, yX8_isWalker, cX8_isWalker, 2, some .boolean)
abbrev mX8_found : MD := (RX8, yX8_found, cX8_found, 2, some .int)
abbrev mX8_foundNothing : MD := (RX8, yX8_foundNothing, cX8_foundNothing, 2, some .int)
abbrev mX8_isBelow : MD := (RX8, yX8_isBelow, cX8_isBelow, 2, some .boolean)
abbrev mX9_init : MD := (RX9, yX9_init, cX9_init, 2, none)
abbrev mX9_in : MD := (RX9, yX9_in, cX9_in, 6, some .boolean)
abbrev mX9_has : MD := (RX9, yX9_has, cX9_has, 2, some .boolean)
abbrev mX9_find : MD := (RX9, yX9_find, cX9_find, 2, some .int)
abbrev mX9_well : MD := (RX9, yX9_well, cX9_well, 2, some .int)
abbrev mX9_isRow : MD := (RX9, yX9_isRow, cX9_isRow, 1, some .boolean)
abbrev mX9_row : MD := (RX9, yX9_row, cX9_row, 5, some .int)
abbrev mX9_asLane : MD := (RX9, yX9_asLane, cX9_asLane, 2, some .int)
abbrev mX9_set : MD := (RX9, yX9_set, cX9_set, 4, some .int)
abbrev mX9_copy : MD := (RX9, yX9_copy, cX9_copy, 7, some .int)
abbrev mX9_drop : MD := (RX9, yX9_drop, cX9_drop, 3, some .int)
abbrev mX9_feed : MD := (RX9, yX9_feed, cX9_feed, 2, some .int)
abbrev mX9_isSign : MD := (RX9, yX9_isSign, cX9_isSign, 1, some .boolean)
abbrev mX9_nextToken : MD := (RX9, yX9_nextToken, cX9_nextToken, 1, none)
abbrev mX9_faults : MD := (RX9, yX9_faults, cX9_faults, 2, some .boolean)
abbrev mX9_takes : MD := (RX9, yX9_takes, cX9_takes, 2, some .boolean)
abbrev mX9_isNumber : MD := (RX9, yX9_isNumber, cX9_isNumber, 3, some .boolean)
abbrev mX9_taken : MD := (RX9, yX9_taken, cX9_taken, 2, some .int)
abbrev mX9_readLegs : MD := (RX9, yX9_readLegs, cX9_readLegs, 2, some .boolean)
abbrev mX9_readRule : MD := (RX9, yX9_readRule, cX9_readRule, 1, some .boolean)
abbrev mX9_readWalker : MD := (RX9, yX9_readWalker, cX9_readWalker, 4, some .boolean)
abbrev mX9_readWay : MD := (RX9, yX9_readWay, cX9_readWay, 2, some .boolean)
abbrev mX9_way : MD := (RX9, yX9_way, cX9_way, 3, some .int)
abbrev mX9_fault : MD := (RX9, yX9_fault, cX9_fault, 1, some .int)
abbrev mX9_takesFor : MD := (RX9, yX9_takesFor, cX9_takesFor, 5, some .int)
abbrev mX9_mendBy : MD := (RX9, yX9_mendBy, cX9_mendBy, 1, some .int)
abbrev mX9_first : MD := (RX9, yX9_first, cX9_first, 4, some .int)
abbrev mX9_walk : MD := (RX9, yX9_walk, cX9_walk, 7, none)
abbrev mX9_leave : MD := (RX9, yX9_leave, cX9_leave, 8, none)
abbrev mX9_goOn : MD := (RX9, yX9_goOn, cX9_goOn, 1, none)
abbrev mX9_all : MD := (RX9, yX9_all, cX9_all, 1, some .int)
abbrev mX9_note : MD := (RX9, yX9_note, cX9_note, 2, none)
abbrev mX9_go : MD := (RX9, yX9_go, cX9_go, 1, some .int)
abbrev mX9_rule : MD := (RX9, yX9_rule, cX9_rule, 4, some .int)
abbrev mX9_isWalker : MD := (RX9, yX9_isWalker, cX9_isWalker, 2, some .boolean)
abbrev mX9_give : MD := (RX9, yX9_give, cX9_give, 4, some .int)
abbrev mX9_undo : MD := (RX9, yX9_undo, cX9_undo, 2, some .int)
abbrev mX9_walker : MD := (RX9, yX9_walker, cX9_walker, 3, some .int)
abbrev mX9_leg : MD := (RX9, yX9_leg, cX9_leg, 2, some .int)
abbrev mX9_mends : MD := (RX9, yX9_mends, cX9_mends, 2, some .int)
abbrev mX9_putAside : MD := (RX9, yX9_putAside, cX9_putAside, 2, none)
abbrev mX9_takeBack : MD := (RX9, yX9_takeBack, cX9_takeBack, 2, none)
abbrev mX9_toHut : MD := (RX9, yX9_toHut, cX9_toHut, 4, some .int)
abbrev mX9_tryAll : MD := (RX9, yX9_tryAll, cX9_tryAll, 4, some .int)
abbrev mX9_there : MD := (RX9, yX9_there, cX9_there, 4, some .int)
abbrev mX9_allThere : MD := (RX9, yX9_allThere, cX9_allThere, 1, some .int)
abbrev mX9_soonest : MD := (RX9, yX9_soonest, cX9_soonest, 6, some .int)
abbrev mX9_findThen : MD := (RX9, yX9_findThen, cX9_findThen, 5, none)
abbrev mX9_loses : MD := (RX9, yX9_loses, cX9_loses, 2, some .int)
abbrev mX9_fair : MD := (RX9, yX9_fair, cX9_fair, 7, some .int)
abbrev mX9_nextRow : MD := (RX9, yX9_nextRow, cX9_nextRow, 6, some .boolean)
abbrev mX9_exchange : MD := (RX9, yX9_exchange, cX9_exchange, 4, none)
abbrev mX9_sacks : MD := (RX9, yX9_sacks, cX9_sacks, 8, some .int)
abbrev mX9_parties : MD := (RX9, yX9_parties, cX9_parties, 8, some .int)
abbrev mX9_isBack : MD := (RX9, yX9_isBack, cX9_isBack, 3, some .boolean)
abbrev mX9_turn : MD := (RX9, yX9_turn, cX9_turn, 4, some .int)
abbrev mX9_fits : MD := (RX9, yX9_fits, cX9_fits, 10, some .int)
abbrev mX9_fitsBy : MD := (RX9, yX9_fitsBy, cX9_fitsBy, 9, some .boolean)
abbrev mX9_image : MD := (RX9, yX9_image, cX9_image, 3, some .int)
abbrev mX9_restore : MD := (RX9, yX9_restore, cX9_restore, 3, some .int)
abbrev mX9_kind : MD := (RX9, yX9_kind, cX9_kind, 2, some .int)
abbrev mX9_isKind : MD := (RX9, yX9_isKind, cX9_isKind, 2, some .boolean)
abbrev mX9_as : MD := (RX9, yX9_as, cX9_as, 3, some .int)
abbrev mX9_begin : MD := (RX9, yX9_begin, cX9_begin, 2, none)
abbrev mX9_lent : MD := (RX9, yX9_lent, cX9_lent, 3, some .int)
abbrev mX9_steadyMark : MD := (RX9, yX9_steadyMark, cX9_steadyMark, 2, some .int)
abbrev mX9_oldSize : MD := (RX9, yX9_oldSize, cX9_oldSize, 2, some .int)
abbrev mX9_sizeOfOld : MD := (RX9, yX9_sizeOfOld, cX9_sizeOfOld, 2, some .int)
abbrev mX9_markOf : MD := (RX9, yX9_markOf, cX9_markOf, 4, some .int)
abbrev mX9_steadySize : MD := (RX9, yX9_steadySize, cX9_steadySize, 3, some .int)
abbrev mX9_sizeOf : MD := (RX9, yX9_sizeOf, cX9_sizeOf, 3, some .int)
abbrev mX9_ask : MD := (RX9, yX9_ask, cX9_ask, 3, some .int)
abbrev mX9_trace : MD := (RX9, yX9_trace, cX9_trace, 2, some .int)
abbrev mX9_count : MD := (RX9, yX9_count, cX9_count, 4, some .int)
abbrev mX9_status : MD := (RX9, yX9_status, cX9_status, 1, some .int)
abbrev mJ9_max_7cf53 : MD := (RJ9, yJ9_max_7cf53, cJ9_max_7cf53, 2, some .int)
abbrev mJ9_min_7cf53 : MD := (RJ9, yJ9_min_7cf53, cJ9_min_7cf53, 2, some .int)
theorem inG (ws : List Cond) (h : ws.all (fun w => decide (w ∈ lw_tbl) && goodWord w) = true) : ∀ w ∈ ws, w ∈ gw := fun w hw => by
  have h1 := List.all_eq_true.mp h w hw
  simp only [Bool.and_eq_true, decide_eq_true_eq] at h1
  exact List.mem_filter.mpr h1
theorem inG_X0 : ∀ w ∈ u_ws RX0 TX0 (nfl 0), w ∈ gw := inG _ (by decide +kernel)
theorem inG_X1 : ∀ w ∈ u_ws RX1 TX1 (nfl 1), w ∈ gw := inG _ (by decide +kernel)
theorem inG_X2 : ∀ w ∈ u_ws RX2 TX2 (nfl 2), w ∈ gw := inG _ (by decide +kernel)
theorem inG_X3 : ∀ w ∈ u_ws RX3 TX3 (nfl 3), w ∈ gw := inG _ (by decide +kernel)
theorem inG_X4 : ∀ w ∈ u_ws RX4 TX4 (nfl 4), w ∈ gw := inG _ (by decide +kernel)
theorem inG_X5 : ∀ w ∈ u_ws RX5 TX5 (nfl 5), w ∈ gw := inG _ (by decide +kernel)
theorem inG_X6 : ∀ w ∈ u_ws RX6 TX6 (nfl 6), w ∈ gw := inG _ (by decide +kernel)
theorem inG_X7 : ∀ w ∈ u_ws RX7 TX7 (nfl 7), w ∈ gw := inG _ (by decide +kernel)
theorem inG_X8 : ∀ w ∈ u_ws RX8 TX8 (nfl 8), w ∈ gw := inG _ (by decide +kernel)
theorem inG_X9 : ∀ w ∈ u_ws RX9 TX9 (nfl 9), w ∈ gw := inG _ (by decide +kernel)
theorem ftX0_1 : Ft 0 1 .int false := ⟨RX0, TX0, tyX0, rfl, tyX0_ok, nmX0, rfl, rfl⟩
theorem ftX0_2 : Ft 0 2 .int false := ⟨RX0, TX0, tyX0, rfl, tyX0_ok, nmX0, rfl, rfl⟩
theorem ftX1_1 : Ft 1 1 .int false := ⟨RX1, TX1, tyX1, rfl, tyX1_ok, nmX1, rfl, rfl⟩
theorem ftX2_5 : Ft 2 5 .int false := ⟨RX2, TX2, tyX2, rfl, tyX2_ok, nmX2, rfl, rfl⟩
theorem ftX2_6 : Ft 2 6 .int false := ⟨RX2, TX2, tyX2, rfl, tyX2_ok, nmX2, rfl, rfl⟩
theorem ftX3_1 : Ft 3 1 .int false := ⟨RX3, TX3, tyX3, rfl, tyX3_ok, nmX3, rfl, rfl⟩
theorem ftX3_2 : Ft 3 2 .int false := ⟨RX3, TX3, tyX3, rfl, tyX3_ok, nmX3, rfl, rfl⟩
theorem ftX4_1 : Ft 4 1 .int false := ⟨RX4, TX4, tyX4, rfl, tyX4_ok, nmX4, rfl, rfl⟩
theorem ftX4_2 : Ft 4 2 .int false := ⟨RX4, TX4, tyX4, rfl, tyX4_ok, nmX4, rfl, rfl⟩
theorem ftX4_3 : Ft 4 3 .int false := ⟨RX4, TX4, tyX4, rfl, tyX4_ok, nmX4, rfl, rfl⟩
theorem ftX4_4 : Ft 4 4 .int false := ⟨RX4, TX4, tyX4, rfl, tyX4_ok, nmX4, rfl, rfl⟩
theorem ftX4_5 : Ft 4 5 .int false := ⟨RX4, TX4, tyX4, rfl, tyX4_ok, nmX4, rfl, rfl⟩
theorem ftX4_6 : Ft 4 6 .int false := ⟨RX4, TX4, tyX4, rfl, tyX4_ok, nmX4, rfl, rfl⟩
theorem ftX4_7 : Ft 4 7 .int false := ⟨RX4, TX4, tyX4, rfl, tyX4_ok, nmX4, rfl, rfl⟩
theorem ftX4_8 : Ft 4 8 .int false := ⟨RX4, TX4, tyX4, rfl, tyX4_ok, nmX4, rfl, rfl⟩
theorem ftX5_1 : Ft 5 1 .boolean false := ⟨RX5, TX5, tyX5, rfl, tyX5_ok, nmX5, rfl, rfl⟩
theorem ftX5_2 : Ft 5 2 .int false := ⟨RX5, TX5, tyX5, rfl, tyX5_ok, nmX5, rfl, rfl⟩
theorem ftX5_3 : Ft 5 3 .int false := ⟨RX5, TX5, tyX5, rfl, tyX5_ok, nmX5, rfl, rfl⟩
theorem ftX6_0 : Ft 6 0 .int false := ⟨RX6, TX6, tyX6, rfl, tyX6_ok, nmX6, rfl, rfl⟩
theorem ftX6_1 : Ft 6 1 .int false := ⟨RX6, TX6, tyX6, rfl, tyX6_ok, nmX6, rfl, rfl⟩
theorem ftX6_2 : Ft 6 2 .int false := ⟨RX6, TX6, tyX6, rfl, tyX6_ok, nmX6, rfl, rfl⟩
theorem ftX6_3 : Ft 6 3 .int false := ⟨RX6, TX6, tyX6, rfl, tyX6_ok, nmX6, rfl, rfl⟩
theorem ftX6_4 : Ft 6 4 .int false := ⟨RX6, TX6, tyX6, rfl, tyX6_ok, nmX6, rfl, rfl⟩
theorem ftX6_5 : Ft 6 5 .int false := ⟨RX6, TX6, tyX6, rfl, tyX6_ok, nmX6, rfl, rfl⟩
theorem ftX6_6 : Ft 6 6 .int false := ⟨RX6, TX6, tyX6, rfl, tyX6_ok, nmX6, rfl, rfl⟩
theorem ftX7_2 : Ft 7 2 .boolean false := ⟨RX7, TX7, tyX7, rfl, tyX7_ok, nmX7, rfl, rfl⟩
theorem ftX7_3 : Ft 7 3 .int false := ⟨RX7, TX7, tyX7, rfl, tyX7_ok, nmX7, rfl, rfl⟩
theorem ftX7_4 : Ft 7 4 .int false := ⟨RX7, TX7, tyX7, rfl, tyX7_ok, nmX7, rfl, rfl⟩
theorem ftX7_5 : Ft 7 5 .int false := ⟨RX7, TX7, tyX7, rfl, tyX7_ok, nmX7, rfl, rfl⟩
theorem ftX7_6 : Ft 7 6 .int false := ⟨RX7, TX7, tyX7, rfl, tyX7_ok, nmX7, rfl, rfl⟩
theorem ftX7_7 : Ft 7 7 .int false := ⟨RX7, TX7, tyX7, rfl, tyX7_ok, nmX7, rfl, rfl⟩
theorem ftX8_8 : Ft 8 8 .int false := ⟨RX8, TX8, tyX8, rfl, tyX8_ok, nmX8, rfl, rfl⟩
theorem ftX9_3 : Ft 9 3 .int false := ⟨RX9, TX9, tyX9, rfl, tyX9_ok, nmX9, rfl, rfl⟩
theorem ftX9_4 : Ft 9 4 .boolean false := ⟨RX9, TX9, tyX9, rfl, tyX9_ok, nmX9, rfl, rfl⟩
theorem ftX9_8 : Ft 9 8 .int false := ⟨RX9, TX9, tyX9, rfl, tyX9_ok, nmX9, rfl, rfl⟩
theorem ftX9_9 : Ft 9 9 .int false := ⟨RX9, TX9, tyX9, rfl, tyX9_ok, nmX9, rfl, rfl⟩
theorem ftX9_10 : Ft 9 10 .int false := ⟨RX9, TX9, tyX9, rfl, tyX9_ok, nmX9, rfl, rfl⟩
theorem ftX9_11 : Ft 9 11 .int false := ⟨RX9, TX9, tyX9, rfl, tyX9_ok, nmX9, rfl, rfl⟩
theorem ftX9_12 : Ft 9 12 .int false := ⟨RX9, TX9, tyX9, rfl, tyX9_ok, nmX9, rfl, rfl⟩
theorem ftX9_13 : Ft 9 13 .int false := ⟨RX9, TX9, tyX9, rfl, tyX9_ok, nmX9, rfl, rfl⟩
theorem ftX9_14 : Ft 9 14 .int false := ⟨RX9, TX9, tyX9, rfl, tyX9_ok, nmX9, rfl, rfl⟩
theorem ftX9_16 : Ft 9 16 .int false := ⟨RX9, TX9, tyX9, rfl, tyX9_ok, nmX9, rfl, rfl⟩
theorem ftX9_18 : Ft 9 18 .int false := ⟨RX9, TX9, tyX9, rfl, tyX9_ok, nmX9, rfl, rfl⟩
theorem ftX9_27 : Ft 9 27 .int false := ⟨RX9, TX9, tyX9, rfl, tyX9_ok, nmX9, rfl, rfl⟩
theorem kL_9 : KlI RL 9 mX8_init 0 := ⟨⟨Or.inl (gw_at (i := 111) (w := Cond.methodLink RL 9 mX8_init.2.1) (by decide +kernel) rfl), gw_at (i := 97) (by decide +kernel) rfl, gw_at (i := 113) (by decide +kernel) rfl, ⟨by decide +kernel, by decide +kernel, by decide +kernel⟩, by decide⟩, gw_at (i := 112) (by decide +kernel) rfl, by decide +kernel, rfl⟩
theorem kL_12 : KlI RL 12 mX9_init 0 := ⟨⟨Or.inl (gw_at (i := 823) (w := Cond.methodLink RL 12 mX9_init.2.1) (by decide +kernel) rfl), gw_at (i := 106) (by decide +kernel) rfl, gw_at (i := 825) (by decide +kernel) rfl, ⟨by decide +kernel, by decide +kernel, by decide +kernel⟩, by decide⟩, gw_at (i := 824) (by decide +kernel) rfl, by decide +kernel, rfl⟩
theorem kL_13 : KlV RL 13 mX8_row 3 8 := ⟨⟨Or.inl (gw_at (i := 396) (w := Cond.methodLink RL 13 mX8_row.2.1) (by decide +kernel) rfl), gw_at (i := 97) (by decide +kernel) rfl, gw_at (i := 399) (by decide +kernel) rfl, ⟨by decide +kernel, by decide +kernel, by decide +kernel⟩, by decide⟩, gw_at (i := 397) (by decide +kernel) rfl, gw_at (i := 398) (by decide +kernel) rfl, TX8, rfl⟩
theorem kL_17 : KlV RL 17 mX9_row 3 9 := ⟨⟨Or.inl (gw_at (i := 913) (w := Cond.methodLink RL 17 mX9_row.2.1) (by decide +kernel) rfl), gw_at (i := 106) (by decide +kernel) rfl, gw_at (i := 916) (by decide +kernel) rfl, ⟨by decide +kernel, by decide +kernel, by decide +kernel⟩, by decide⟩, gw_at (i := 914) (by decide +kernel) rfl, gw_at (i := 915) (by decide +kernel) rfl, TX9, rfl⟩
theorem kL_18 : KlV RL 18 mX8_set 3 8 := ⟨⟨Or.inl (gw_at (i := 417) (w := Cond.methodLink RL 18 mX8_set.2.1) (by decide +kernel) rfl), gw_at (i := 97) (by decide +kernel) rfl, gw_at (i := 420) (by decide +kernel) rfl, ⟨by decide +kernel, by decide +kernel, by decide +kernel⟩, by decide⟩, gw_at (i := 418) (by decide +kernel) rfl, gw_at (i := 419) (by decide +kernel) rfl, TX8, rfl⟩
theorem kL_21 : KlV RL 21 mX9_set 3 9 := ⟨⟨Or.inl (gw_at (i := 935) (w := Cond.methodLink RL 21 mX9_set.2.1) (by decide +kernel) rfl), gw_at (i := 106) (by decide +kernel) rfl, gw_at (i := 938) (by decide +kernel) rfl, ⟨by decide +kernel, by decide +kernel, by decide +kernel⟩, by decide⟩, gw_at (i := 936) (by decide +kernel) rfl, gw_at (i := 937) (by decide +kernel) rfl, TX9, rfl⟩
theorem kL_22 : KlV RL 22 mX8_copy 5 8 := ⟨⟨Or.inl (gw_at (i := 429) (w := Cond.methodLink RL 22 mX8_copy.2.1) (by decide +kernel) rfl), gw_at (i := 97) (by decide +kernel) rfl, gw_at (i := 432) (by decide +kernel) rfl, ⟨by decide +kernel, by decide +kernel, by decide +kernel⟩, by decide⟩, gw_at (i := 430) (by decide +kernel) rfl, gw_at (i := 431) (by decide +kernel) rfl, TX8, rfl⟩
theorem kL_26 : KlV RL 26 mX9_copy 5 9 := ⟨⟨Or.inl (gw_at (i := 942) (w := Cond.methodLink RL 26 mX9_copy.2.1) (by decide +kernel) rfl), gw_at (i := 106) (by decide +kernel) rfl, gw_at (i := 945) (by decide +kernel) rfl, ⟨by decide +kernel, by decide +kernel, by decide +kernel⟩, by decide⟩, gw_at (i := 943) (by decide +kernel) rfl, gw_at (i := 944) (by decide +kernel) rfl, TX9, rfl⟩
theorem kL_27 : KlV RL 27 mX8_drop 1 8 := ⟨⟨Or.inl (gw_at (i := 440) (w := Cond.methodLink RL 27 mX8_drop.2.1) (by decide +kernel) rfl), gw_at (i := 97) (by decide +kernel) rfl, gw_at (i := 443) (by decide +kernel) rfl, ⟨by decide +kernel, by decide +kernel, by decide +kernel⟩, by decide⟩, gw_at (i := 441) (by decide +kernel) rfl, gw_at (i := 442) (by decide +kernel) rfl, TX8, rfl⟩
theorem kL_31 : KlV RL 31 mX9_drop 1 9 := ⟨⟨Or.inl (gw_at (i := 946) (w := Cond.methodLink RL 31 mX9_drop.2.1) (by decide +kernel) rfl), gw_at (i := 106) (by decide +kernel) rfl, gw_at (i := 949) (by decide +kernel) rfl, ⟨by decide +kernel, by decide +kernel, by decide +kernel⟩, by decide⟩, gw_at (i := 947) (by decide +kernel) rfl, gw_at (i := 948) (by decide +kernel) rfl, TX9, rfl⟩
theorem kL_32 : KlV RL 32 mX8_feed 1 8 := ⟨⟨Or.inl (gw_at (i := 444) (w := Cond.methodLink RL 32 mX8_feed.2.1) (by decide +kernel) rfl), gw_at (i := 97) (by decide +kernel) rfl, gw_at (i := 447) (by decide +kernel) rfl, ⟨by decide +kernel, by decide +kernel, by decide +kernel⟩, by decide⟩, gw_at (i := 445) (by decide +kernel) rfl, gw_at (i := 446) (by decide +kernel) rfl, TX8, rfl⟩
theorem kL_35 : KlV RL 35 mX9_feed 1 9 := ⟨⟨Or.inl (gw_at (i := 950) (w := Cond.methodLink RL 35 mX9_feed.2.1) (by decide +kernel) rfl), gw_at (i := 106) (by decide +kernel) rfl, gw_at (i := 953) (by decide +kernel) rfl, ⟨by decide +kernel, by decide +kernel, by decide +kernel⟩, by decide⟩, gw_at (i := 951) (by decide +kernel) rfl, gw_at (i := 952) (by decide +kernel) rfl, TX9, rfl⟩
theorem kL_36 : KlV RL 36 mX8_way 0 8 := ⟨⟨Or.inl (gw_at (i := 453) (w := Cond.methodLink RL 36 mX8_way.2.1) (by decide +kernel) rfl), gw_at (i := 97) (by decide +kernel) rfl, gw_at (i := 456) (by decide +kernel) rfl, ⟨by decide +kernel, by decide +kernel, by decide +kernel⟩, by decide⟩, gw_at (i := 454) (by decide +kernel) rfl, gw_at (i := 455) (by decide +kernel) rfl, TX8, rfl⟩
theorem kL_40 : KlV RL 40 mX9_way 0 9 := ⟨⟨Or.inl (gw_at (i := 956) (w := Cond.methodLink RL 40 mX9_way.2.1) (by decide +kernel) rfl), gw_at (i := 106) (by decide +kernel) rfl, gw_at (i := 959) (by decide +kernel) rfl, ⟨by decide +kernel, by decide +kernel, by decide +kernel⟩, by decide⟩, gw_at (i := 957) (by decide +kernel) rfl, gw_at (i := 958) (by decide +kernel) rfl, TX9, rfl⟩
theorem kL_41 : KlV RL 41 mX8_fault 0 8 := ⟨⟨Or.inl (gw_at (i := 529) (w := Cond.methodLink RL 41 mX8_fault.2.1) (by decide +kernel) rfl), gw_at (i := 97) (by decide +kernel) rfl, gw_at (i := 532) (by decide +kernel) rfl, ⟨by decide +kernel, by decide +kernel, by decide +kernel⟩, by decide⟩, gw_at (i := 530) (by decide +kernel) rfl, gw_at (i := 531) (by decide +kernel) rfl, TX8, rfl⟩
theorem kL_44 : KlV RL 44 mX9_fault 0 9 := ⟨⟨Or.inl (gw_at (i := 1004) (w := Cond.methodLink RL 44 mX9_fault.2.1) (by decide +kernel) rfl), gw_at (i := 106) (by decide +kernel) rfl, gw_at (i := 1007) (by decide +kernel) rfl, ⟨by decide +kernel, by decide +kernel, by decide +kernel⟩, by decide⟩, gw_at (i := 1005) (by decide +kernel) rfl, gw_at (i := 1006) (by decide +kernel) rfl, TX9, rfl⟩
theorem kL_45 : KlV RL 45 mX8_go 0 8 := ⟨⟨Or.inl (gw_at (i := 533) (w := Cond.methodLink RL 45 mX8_go.2.1) (by decide +kernel) rfl), gw_at (i := 97) (by decide +kernel) rfl, gw_at (i := 536) (by decide +kernel) rfl, ⟨by decide +kernel, by decide +kernel, by decide +kernel⟩, by decide⟩, gw_at (i := 534) (by decide +kernel) rfl, gw_at (i := 535) (by decide +kernel) rfl, TX8, rfl⟩
theorem kL_48 : KlV RL 48 mX9_go 0 9 := ⟨⟨Or.inl (gw_at (i := 1008) (w := Cond.methodLink RL 48 mX9_go.2.1) (by decide +kernel) rfl), gw_at (i := 106) (by decide +kernel) rfl, gw_at (i := 1011) (by decide +kernel) rfl, ⟨by decide +kernel, by decide +kernel, by decide +kernel⟩, by decide⟩, gw_at (i := 1009) (by decide +kernel) rfl, gw_at (i := 1010) (by decide +kernel) rfl, TX9, rfl⟩
theorem kL_49 : KlV RL 49 mX8_rule 2 8 := ⟨⟨Or.inl (gw_at (i := 597) (w := Cond.methodLink RL 49 mX8_rule.2.1) (by decide +kernel) rfl), gw_at (i := 97) (by decide +kernel) rfl, gw_at (i := 600) (by decide +kernel) rfl, ⟨by decide +kernel, by decide +kernel, by decide +kernel⟩, by decide⟩, gw_at (i := 598) (by decide +kernel) rfl, gw_at (i := 599) (by decide +kernel) rfl, TX8, rfl⟩
theorem kL_53 : KlV RL 53 mX9_rule 2 9 := ⟨⟨Or.inl (gw_at (i := 1047) (w := Cond.methodLink RL 53 mX9_rule.2.1) (by decide +kernel) rfl), gw_at (i := 106) (by decide +kernel) rfl, gw_at (i := 1050) (by decide +kernel) rfl, ⟨by decide +kernel, by decide +kernel, by decide +kernel⟩, by decide⟩, gw_at (i := 1048) (by decide +kernel) rfl, gw_at (i := 1049) (by decide +kernel) rfl, TX9, rfl⟩
theorem kL_54 : KlV RL 54 mX8_give 2 8 := ⟨⟨Or.inl (gw_at (i := 601) (w := Cond.methodLink RL 54 mX8_give.2.1) (by decide +kernel) rfl), gw_at (i := 97) (by decide +kernel) rfl, gw_at (i := 604) (by decide +kernel) rfl, ⟨by decide +kernel, by decide +kernel, by decide +kernel⟩, by decide⟩, gw_at (i := 602) (by decide +kernel) rfl, gw_at (i := 603) (by decide +kernel) rfl, TX8, rfl⟩
theorem kL_57 : KlV RL 57 mX9_give 2 9 := ⟨⟨Or.inl (gw_at (i := 1053) (w := Cond.methodLink RL 57 mX9_give.2.1) (by decide +kernel) rfl), gw_at (i := 106) (by decide +kernel) rfl, gw_at (i := 1056) (by decide +kernel) rfl, ⟨by decide +kernel, by decide +kernel, by decide +kernel⟩, by decide⟩, gw_at (i := 1054) (by decide +kernel) rfl, gw_at (i := 1055) (by decide +kernel) rfl, TX9, rfl⟩
theorem kL_58 : KlV RL 58 mX8_undo 0 8 := ⟨⟨Or.inl (gw_at (i := 609) (w := Cond.methodLink RL 58 mX8_undo.2.1) (by decide +kernel) rfl), gw_at (i := 97) (by decide +kernel) rfl, gw_at (i := 612) (by decide +kernel) rfl, ⟨by decide +kernel, by decide +kernel, by decide +kernel⟩, by decide⟩, gw_at (i := 610) (by decide +kernel) rfl, gw_at (i := 611) (by decide +kernel) rfl, TX8, rfl⟩
theorem kL_61 : KlV RL 61 mX9_undo 0 9 := ⟨⟨Or.inl (gw_at (i := 1061) (w := Cond.methodLink RL 61 mX9_undo.2.1) (by decide +kernel) rfl), gw_at (i := 106) (by decide +kernel) rfl, gw_at (i := 1064) (by decide +kernel) rfl, ⟨by decide +kernel, by decide +kernel, by decide +kernel⟩, by decide⟩, gw_at (i := 1062) (by decide +kernel) rfl, gw_at (i := 1063) (by decide +kernel) rfl, TX9, rfl⟩
theorem kL_62 : KlV RL 62 mX8_walker 2 8 := ⟨⟨Or.inl (gw_at (i := 617) (w := Cond.methodLink RL 62 mX8_walker.2.1) (by decide +kernel) rfl), gw_at (i := 97) (by decide +kernel) rfl, gw_at (i := 620) (by decide +kernel) rfl, ⟨by decide +kernel, by decide +kernel, by decide +kernel⟩, by decide⟩, gw_at (i := 618) (by decide +kernel) rfl, gw_at (i := 619) (by decide +kernel) rfl, TX8, rfl⟩
theorem kL_65 : KlV RL 65 mX9_walker 2 9 := ⟨⟨Or.inl (gw_at (i := 1065) (w := Cond.methodLink RL 65 mX9_walker.2.1) (by decide +kernel) rfl), gw_at (i := 106) (by decide +kernel) rfl, gw_at (i := 1068) (by decide +kernel) rfl, ⟨by decide +kernel, by decide +kernel, by decide +kernel⟩, by decide⟩, gw_at (i := 1066) (by decide +kernel) rfl, gw_at (i := 1067) (by decide +kernel) rfl, TX9, rfl⟩
theorem kL_66 : KlV RL 66 mX8_leg 1 8 := ⟨⟨Or.inl (gw_at (i := 623) (w := Cond.methodLink RL 66 mX8_leg.2.1) (by decide +kernel) rfl), gw_at (i := 97) (by decide +kernel) rfl, gw_at (i := 626) (by decide +kernel) rfl, ⟨by decide +kernel, by decide +kernel, by decide +kernel⟩, by decide⟩, gw_at (i := 624) (by decide +kernel) rfl, gw_at (i := 625) (by decide +kernel) rfl, TX8, rfl⟩
theorem kL_69 : KlV RL 69 mX9_leg 1 9 := ⟨⟨Or.inl (gw_at (i := 1070) (w := Cond.methodLink RL 69 mX9_leg.2.1) (by decide +kernel) rfl), gw_at (i := 106) (by decide +kernel) rfl, gw_at (i := 1073) (by decide +kernel) rfl, ⟨by decide +kernel, by decide +kernel, by decide +kernel⟩, by decide⟩, gw_at (i := 1071) (by decide +kernel) rfl, gw_at (i := 1072) (by decide +kernel) rfl, TX9, rfl⟩
theorem kL_70 : KlV RL 70 mX8_mends 1 8 := ⟨⟨Or.inl (gw_at (i := 627) (w := Cond.methodLink RL 70 mX8_mends.2.1) (by decide +kernel) rfl), gw_at (i := 97) (by decide +kernel) rfl, gw_at (i := 630) (by decide +kernel) rfl, ⟨by decide +kernel, by decide +kernel, by decide +kernel⟩, by decide⟩, gw_at (i := 628) (by decide +kernel) rfl, gw_at (i := 629) (by decide +kernel) rfl, TX8, rfl⟩
theorem kL_73 : KlV RL 73 mX9_mends 1 9 := ⟨⟨Or.inl (gw_at (i := 1074) (w := Cond.methodLink RL 73 mX9_mends.2.1) (by decide +kernel) rfl), gw_at (i := 106) (by decide +kernel) rfl, gw_at (i := 1077) (by decide +kernel) rfl, ⟨by decide +kernel, by decide +kernel, by decide +kernel⟩, by decide⟩, gw_at (i := 1075) (by decide +kernel) rfl, gw_at (i := 1076) (by decide +kernel) rfl, TX9, rfl⟩
theorem kL_74 : KlV RL 74 mX8_there 2 8 := ⟨⟨Or.inl (gw_at (i := 632) (w := Cond.methodLink RL 74 mX8_there.2.1) (by decide +kernel) rfl), gw_at (i := 97) (by decide +kernel) rfl, gw_at (i := 635) (by decide +kernel) rfl, ⟨by decide +kernel, by decide +kernel, by decide +kernel⟩, by decide⟩, gw_at (i := 633) (by decide +kernel) rfl, gw_at (i := 634) (by decide +kernel) rfl, TX8, rfl⟩
theorem kL_77 : KlV RL 77 mX9_there 2 9 := ⟨⟨Or.inl (gw_at (i := 1079) (w := Cond.methodLink RL 77 mX9_there.2.1) (by decide +kernel) rfl), gw_at (i := 106) (by decide +kernel) rfl, gw_at (i := 1082) (by decide +kernel) rfl, ⟨by decide +kernel, by decide +kernel, by decide +kernel⟩, by decide⟩, gw_at (i := 1080) (by decide +kernel) rfl, gw_at (i := 1081) (by decide +kernel) rfl, TX9, rfl⟩
theorem kL_78 : KlV RL 78 mX8_allThere 0 8 := ⟨⟨Or.inl (gw_at (i := 650) (w := Cond.methodLink RL 78 mX8_allThere.2.1) (by decide +kernel) rfl), gw_at (i := 97) (by decide +kernel) rfl, gw_at (i := 653) (by decide +kernel) rfl, ⟨by decide +kernel, by decide +kernel, by decide +kernel⟩, by decide⟩, gw_at (i := 651) (by decide +kernel) rfl, gw_at (i := 652) (by decide +kernel) rfl, TX8, rfl⟩
theorem kL_81 : KlV RL 81 mX9_allThere 0 9 := ⟨⟨Or.inl (gw_at (i := 1095) (w := Cond.methodLink RL 81 mX9_allThere.2.1) (by decide +kernel) rfl), gw_at (i := 106) (by decide +kernel) rfl, gw_at (i := 1098) (by decide +kernel) rfl, ⟨by decide +kernel, by decide +kernel, by decide +kernel⟩, by decide⟩, gw_at (i := 1096) (by decide +kernel) rfl, gw_at (i := 1097) (by decide +kernel) rfl, TX9, rfl⟩
theorem kL_82 : KlV RL 82 mX8_soonest 1 8 := ⟨⟨Or.inl (gw_at (i := 654) (w := Cond.methodLink RL 82 mX8_soonest.2.1) (by decide +kernel) rfl), gw_at (i := 97) (by decide +kernel) rfl, gw_at (i := 657) (by decide +kernel) rfl, ⟨by decide +kernel, by decide +kernel, by decide +kernel⟩, by decide⟩, gw_at (i := 655) (by decide +kernel) rfl, gw_at (i := 656) (by decide +kernel) rfl, TX8, rfl⟩
theorem kL_85 : KlV RL 85 mX9_soonest 1 9 := ⟨⟨Or.inl (gw_at (i := 1103) (w := Cond.methodLink RL 85 mX9_soonest.2.1) (by decide +kernel) rfl), gw_at (i := 106) (by decide +kernel) rfl, gw_at (i := 1106) (by decide +kernel) rfl, ⟨by decide +kernel, by decide +kernel, by decide +kernel⟩, by decide⟩, gw_at (i := 1104) (by decide +kernel) rfl, gw_at (i := 1105) (by decide +kernel) rfl, TX9, rfl⟩
theorem kL_86 : KlV RL 86 mX8_loses 1 8 := ⟨⟨Or.inl (gw_at (i := 679) (w := Cond.methodLink RL 86 mX8_loses.2.1) (by decide +kernel) rfl), gw_at (i := 97) (by decide +kernel) rfl, gw_at (i := 682) (by decide +kernel) rfl, ⟨by decide +kernel, by decide +kernel, by decide +kernel⟩, by decide⟩, gw_at (i := 680) (by decide +kernel) rfl, gw_at (i := 681) (by decide +kernel) rfl, TX8, rfl⟩
theorem kL_89 : KlV RL 89 mX9_loses 1 9 := ⟨⟨Or.inl (gw_at (i := 1107) (w := Cond.methodLink RL 89 mX9_loses.2.1) (by decide +kernel) rfl), gw_at (i := 106) (by decide +kernel) rfl, gw_at (i := 1110) (by decide +kernel) rfl, ⟨by decide +kernel, by decide +kernel, by decide +kernel⟩, by decide⟩, gw_at (i := 1108) (by decide +kernel) rfl, gw_at (i := 1109) (by decide +kernel) rfl, TX9, rfl⟩
theorem kL_90 : KlV RL 90 mX8_fair 1 8 := ⟨⟨Or.inl (gw_at (i := 683) (w := Cond.methodLink RL 90 mX8_fair.2.1) (by decide +kernel) rfl), gw_at (i := 97) (by decide +kernel) rfl, gw_at (i := 686) (by decide +kernel) rfl, ⟨by decide +kernel, by decide +kernel, by decide +kernel⟩, by decide⟩, gw_at (i := 684) (by decide +kernel) rfl, gw_at (i := 685) (by decide +kernel) rfl, TX8, rfl⟩
theorem kL_93 : KlV RL 93 mX9_fair 1 9 := ⟨⟨Or.inl (gw_at (i := 1115) (w := Cond.methodLink RL 93 mX9_fair.2.1) (by decide +kernel) rfl), gw_at (i := 106) (by decide +kernel) rfl, gw_at (i := 1118) (by decide +kernel) rfl, ⟨by decide +kernel, by decide +kernel, by decide +kernel⟩, by decide⟩, gw_at (i := 1116) (by decide +kernel) rfl, gw_at (i := 1117) (by decide +kernel) rfl, TX9, rfl⟩
theorem kL_94 : KlV RL 94 mX8_sacks 1 8 := ⟨⟨Or.inl (gw_at (i := 697) (w := Cond.methodLink RL 94 mX8_sacks.2.1) (by decide +kernel) rfl), gw_at (i := 97) (by decide +kernel) rfl, gw_at (i := 700) (by decide +kernel) rfl, ⟨by decide +kernel, by decide +kernel, by decide +kernel⟩, by decide⟩, gw_at (i := 698) (by decide +kernel) rfl, gw_at (i := 699) (by decide +kernel) rfl, TX8, rfl⟩
theorem kL_97 : KlV RL 97 mX9_sacks 1 9 := ⟨⟨Or.inl (gw_at (i := 1119) (w := Cond.methodLink RL 97 mX9_sacks.2.1) (by decide +kernel) rfl), gw_at (i := 106) (by decide +kernel) rfl, gw_at (i := 1122) (by decide +kernel) rfl, ⟨by decide +kernel, by decide +kernel, by decide +kernel⟩, by decide⟩, gw_at (i := 1120) (by decide +kernel) rfl, gw_at (i := 1121) (by decide +kernel) rfl, TX9, rfl⟩
theorem kL_98 : KlV RL 98 mX8_parties 1 8 := ⟨⟨Or.inl (gw_at (i := 714) (w := Cond.methodLink RL 98 mX8_parties.2.1) (by decide +kernel) rfl), gw_at (i := 97) (by decide +kernel) rfl, gw_at (i := 717) (by decide +kernel) rfl, ⟨by decide +kernel, by decide +kernel, by decide +kernel⟩, by decide⟩, gw_at (i := 715) (by decide +kernel) rfl, gw_at (i := 716) (by decide +kernel) rfl, TX8, rfl⟩
theorem kL_101 : KlV RL 101 mX9_parties 1 9 := ⟨⟨Or.inl (gw_at (i := 1132) (w := Cond.methodLink RL 101 mX9_parties.2.1) (by decide +kernel) rfl), gw_at (i := 106) (by decide +kernel) rfl, gw_at (i := 1135) (by decide +kernel) rfl, ⟨by decide +kernel, by decide +kernel, by decide +kernel⟩, by decide⟩, gw_at (i := 1133) (by decide +kernel) rfl, gw_at (i := 1134) (by decide +kernel) rfl, TX9, rfl⟩
theorem kL_102 : KlV RL 102 mX8_turn 0 8 := ⟨⟨Or.inl (gw_at (i := 726) (w := Cond.methodLink RL 102 mX8_turn.2.1) (by decide +kernel) rfl), gw_at (i := 97) (by decide +kernel) rfl, gw_at (i := 729) (by decide +kernel) rfl, ⟨by decide +kernel, by decide +kernel, by decide +kernel⟩, by decide⟩, gw_at (i := 727) (by decide +kernel) rfl, gw_at (i := 728) (by decide +kernel) rfl, TX8, rfl⟩
theorem kL_105 : KlV RL 105 mX9_turn 0 9 := ⟨⟨Or.inl (gw_at (i := 1136) (w := Cond.methodLink RL 105 mX9_turn.2.1) (by decide +kernel) rfl), gw_at (i := 106) (by decide +kernel) rfl, gw_at (i := 1139) (by decide +kernel) rfl, ⟨by decide +kernel, by decide +kernel, by decide +kernel⟩, by decide⟩, gw_at (i := 1137) (by decide +kernel) rfl, gw_at (i := 1138) (by decide +kernel) rfl, TX9, rfl⟩
theorem kL_106 : KlV RL 106 mX8_fits 5 8 := ⟨⟨Or.inl (gw_at (i := 741) (w := Cond.methodLink RL 106 mX8_fits.2.1) (by decide +kernel) rfl), gw_at (i := 97) (by decide +kernel) rfl, gw_at (i := 744) (by decide +kernel) rfl, ⟨by decide +kernel, by decide +kernel, by decide +kernel⟩, by decide⟩, gw_at (i := 742) (by decide +kernel) rfl, gw_at (i := 743) (by decide +kernel) rfl, TX8, rfl⟩
theorem kL_109 : KlV RL 109 mX9_fits 5 9 := ⟨⟨Or.inl (gw_at (i := 1144) (w := Cond.methodLink RL 109 mX9_fits.2.1) (by decide +kernel) rfl), gw_at (i := 106) (by decide +kernel) rfl, gw_at (i := 1147) (by decide +kernel) rfl, ⟨by decide +kernel, by decide +kernel, by decide +kernel⟩, by decide⟩, gw_at (i := 1145) (by decide +kernel) rfl, gw_at (i := 1146) (by decide +kernel) rfl, TX9, rfl⟩
theorem kL_110 : KlV RL 110 mX8_image 1 8 := ⟨⟨Or.inl (gw_at (i := 753) (w := Cond.methodLink RL 110 mX8_image.2.1) (by decide +kernel) rfl), gw_at (i := 97) (by decide +kernel) rfl, gw_at (i := 756) (by decide +kernel) rfl, ⟨by decide +kernel, by decide +kernel, by decide +kernel⟩, by decide⟩, gw_at (i := 754) (by decide +kernel) rfl, gw_at (i := 755) (by decide +kernel) rfl, TX8, rfl⟩
theorem kL_113 : KlV RL 113 mX9_image 1 9 := ⟨⟨Or.inl (gw_at (i := 1153) (w := Cond.methodLink RL 113 mX9_image.2.1) (by decide +kernel) rfl), gw_at (i := 106) (by decide +kernel) rfl, gw_at (i := 1156) (by decide +kernel) rfl, ⟨by decide +kernel, by decide +kernel, by decide +kernel⟩, by decide⟩, gw_at (i := 1154) (by decide +kernel) rfl, gw_at (i := 1155) (by decide +kernel) rfl, TX9, rfl⟩
theorem kL_114 : KlV RL 114 mX8_restore 1 8 := ⟨⟨Or.inl (gw_at (i := 757) (w := Cond.methodLink RL 114 mX8_restore.2.1) (by decide +kernel) rfl), gw_at (i := 97) (by decide +kernel) rfl, gw_at (i := 760) (by decide +kernel) rfl, ⟨by decide +kernel, by decide +kernel, by decide +kernel⟩, by decide⟩, gw_at (i := 758) (by decide +kernel) rfl, gw_at (i := 759) (by decide +kernel) rfl, TX8, rfl⟩
theorem kL_117 : KlV RL 117 mX9_restore 1 9 := ⟨⟨Or.inl (gw_at (i := 1157) (w := Cond.methodLink RL 117 mX9_restore.2.1) (by decide +kernel) rfl), gw_at (i := 106) (by decide +kernel) rfl, gw_at (i := 1160) (by decide +kernel) rfl, ⟨by decide +kernel, by decide +kernel, by decide +kernel⟩, by decide⟩, gw_at (i := 1158) (by decide +kernel) rfl, gw_at (i := 1159) (by decide +kernel) rfl, TX9, rfl⟩
theorem kL_118 : KlV RL 118 mX8_kind 1 8 := ⟨⟨Or.inl (gw_at (i := 761) (w := Cond.methodLink RL 118 mX8_kind.2.1) (by decide +kernel) rfl), gw_at (i := 97) (by decide +kernel) rfl, gw_at (i := 764) (by decide +kernel) rfl, ⟨by decide +kernel, by decide +kernel, by decide +kernel⟩, by decide⟩, gw_at (i := 762) (by decide +kernel) rfl, gw_at (i := 763) (by decide +kernel) rfl, TX8, rfl⟩
theorem kL_121 : KlV RL 121 mX9_kind 1 9 := ⟨⟨Or.inl (gw_at (i := 1161) (w := Cond.methodLink RL 121 mX9_kind.2.1) (by decide +kernel) rfl), gw_at (i := 106) (by decide +kernel) rfl, gw_at (i := 1164) (by decide +kernel) rfl, ⟨by decide +kernel, by decide +kernel, by decide +kernel⟩, by decide⟩, gw_at (i := 1162) (by decide +kernel) rfl, gw_at (i := 1163) (by decide +kernel) rfl, TX9, rfl⟩
theorem kL_122 : KlV RL 122 mX8_as 2 8 := ⟨⟨Or.inl (gw_at (i := 765) (w := Cond.methodLink RL 122 mX8_as.2.1) (by decide +kernel) rfl), gw_at (i := 97) (by decide +kernel) rfl, gw_at (i := 768) (by decide +kernel) rfl, ⟨by decide +kernel, by decide +kernel, by decide +kernel⟩, by decide⟩, gw_at (i := 766) (by decide +kernel) rfl, gw_at (i := 767) (by decide +kernel) rfl, TX8, rfl⟩
theorem kL_125 : KlV RL 125 mX9_as 2 9 := ⟨⟨Or.inl (gw_at (i := 1165) (w := Cond.methodLink RL 125 mX9_as.2.1) (by decide +kernel) rfl), gw_at (i := 106) (by decide +kernel) rfl, gw_at (i := 1168) (by decide +kernel) rfl, ⟨by decide +kernel, by decide +kernel, by decide +kernel⟩, by decide⟩, gw_at (i := 1166) (by decide +kernel) rfl, gw_at (i := 1167) (by decide +kernel) rfl, TX9, rfl⟩
theorem kL_126 : KlV RL 126 mX8_ask 2 8 := ⟨⟨Or.inl (gw_at (i := 774) (w := Cond.methodLink RL 126 mX8_ask.2.1) (by decide +kernel) rfl), gw_at (i := 97) (by decide +kernel) rfl, gw_at (i := 777) (by decide +kernel) rfl, ⟨by decide +kernel, by decide +kernel, by decide +kernel⟩, by decide⟩, gw_at (i := 775) (by decide +kernel) rfl, gw_at (i := 776) (by decide +kernel) rfl, TX8, rfl⟩
theorem kL_129 : KlV RL 129 mX9_ask 2 9 := ⟨⟨Or.inl (gw_at (i := 1173) (w := Cond.methodLink RL 129 mX9_ask.2.1) (by decide +kernel) rfl), gw_at (i := 106) (by decide +kernel) rfl, gw_at (i := 1176) (by decide +kernel) rfl, ⟨by decide +kernel, by decide +kernel, by decide +kernel⟩, by decide⟩, gw_at (i := 1174) (by decide +kernel) rfl, gw_at (i := 1175) (by decide +kernel) rfl, TX9, rfl⟩
theorem kL_130 : KlV RL 130 mX8_trace 1 8 := ⟨⟨Or.inl (gw_at (i := 805) (w := Cond.methodLink RL 130 mX8_trace.2.1) (by decide +kernel) rfl), gw_at (i := 97) (by decide +kernel) rfl, gw_at (i := 808) (by decide +kernel) rfl, ⟨by decide +kernel, by decide +kernel, by decide +kernel⟩, by decide⟩, gw_at (i := 806) (by decide +kernel) rfl, gw_at (i := 807) (by decide +kernel) rfl, TX8, rfl⟩
theorem kL_133 : KlV RL 133 mX9_trace 1 9 := ⟨⟨Or.inl (gw_at (i := 1209) (w := Cond.methodLink RL 133 mX9_trace.2.1) (by decide +kernel) rfl), gw_at (i := 106) (by decide +kernel) rfl, gw_at (i := 1212) (by decide +kernel) rfl, ⟨by decide +kernel, by decide +kernel, by decide +kernel⟩, by decide⟩, gw_at (i := 1210) (by decide +kernel) rfl, gw_at (i := 1211) (by decide +kernel) rfl, TX9, rfl⟩
theorem kL_134 : KlV RL 134 mX8_count 1 8 := ⟨⟨Or.inl (gw_at (i := 809) (w := Cond.methodLink RL 134 mX8_count.2.1) (by decide +kernel) rfl), gw_at (i := 97) (by decide +kernel) rfl, gw_at (i := 812) (by decide +kernel) rfl, ⟨by decide +kernel, by decide +kernel, by decide +kernel⟩, by decide⟩, gw_at (i := 810) (by decide +kernel) rfl, gw_at (i := 811) (by decide +kernel) rfl, TX8, rfl⟩
theorem kL_137 : KlV RL 137 mX9_count 1 9 := ⟨⟨Or.inl (gw_at (i := 1213) (w := Cond.methodLink RL 137 mX9_count.2.1) (by decide +kernel) rfl), gw_at (i := 106) (by decide +kernel) rfl, gw_at (i := 1216) (by decide +kernel) rfl, ⟨by decide +kernel, by decide +kernel, by decide +kernel⟩, by decide⟩, gw_at (i := 1214) (by decide +kernel) rfl, gw_at (i := 1215) (by decide +kernel) rfl, TX9, rfl⟩
theorem kL_138 : KlV RL 138 mX8_status 0 8 := ⟨⟨Or.inl (gw_at (i := 817) (w := Cond.methodLink RL 138 mX8_status.2.1) (by decide +kernel) rfl), gw_at (i := 97) (by decide +kernel) rfl, gw_at (i := 820) (by decide +kernel) rfl, ⟨by decide +kernel, by decide +kernel, by decide +kernel⟩, by decide⟩, gw_at (i := 818) (by decide +kernel) rfl, gw_at (i := 819) (by decide +kernel) rfl, TX8, rfl⟩
theorem kL_141 : KlV RL 141 mX9_status 0 9 := ⟨⟨Or.inl (gw_at (i := 1217) (w := Cond.methodLink RL 141 mX9_status.2.1) (by decide +kernel) rfl), gw_at (i := 106) (by decide +kernel) rfl, gw_at (i := 1220) (by decide +kernel) rfl, ⟨by decide +kernel, by decide +kernel, by decide +kernel⟩, by decide⟩, gw_at (i := 1218) (by decide +kernel) rfl, gw_at (i := 1219) (by decide +kernel) rfl, TX9, rfl⟩
theorem fX0_11 : Fl RX0 11 0 0 := ⟨RX0, TX0, rfl, by decide, rfl, inG_X0, Or.inl (gw_at (i := 285) (w := Cond.fieldLink RX0 11 RX0 (TX0 0).2.1 (TX0 0).2.2.1) (by decide +kernel) rfl)⟩
theorem fX0_15 : Fl RX0 15 0 1 := ⟨RX0, TX0, rfl, by decide, rfl, inG_X0, Or.inl (gw_at (i := 286) (w := Cond.fieldLink RX0 15 RX0 (TX0 1).2.1 (TX0 1).2.2.1) (by decide +kernel) rfl)⟩
theorem fX0_24 : Fl RX0 24 0 2 := ⟨RX0, TX0, rfl, by decide, rfl, inG_X0, Or.inl (gw_at (i := 287) (w := Cond.fieldLink RX0 24 RX0 (TX0 2).2.1 (TX0 2).2.2.1) (by decide +kernel) rfl)⟩
theorem kX0_19 : KlI RX0 19 mX7_init 0 := ⟨⟨Or.inr ⟨"LastRest", nw_at (i := 542) (w := Cond.methodLinkNest RX0 19 mX7_init.2.1 "LastRest") (by decide +kernel) rfl⟩, gw_at (i := 99) (by decide +kernel) rfl, gw_at (i := 161) (by decide +kernel) rfl, ⟨by decide +kernel, by decide +kernel, by decide +kernel⟩, by decide⟩, gw_at (i := 160) (by decide +kernel) rfl, by decide +kernel, rfl⟩
theorem kX0_27 : KlS RX0 27 mJ9_min_7cf53 2 := ⟨⟨Or.inl (gw_at (i := 544) (w := Cond.methodLink RX0 27 mJ9_min_7cf53.2.1) (by decide +kernel) rfl), gw_at (i := 108) (by decide +kernel) rfl, gw_at (i := 546) (by decide +kernel) rfl, ⟨by decide +kernel, by decide +kernel, by decide +kernel⟩, by decide⟩, gw_at (i := 545) (by decide +kernel) rfl⟩
theorem kX0_20 : KlV RX0 20 mX7_become 1 7 := ⟨⟨Or.inr ⟨"LastRest", nw_at (i := 543) (w := Cond.methodLinkNest RX0 20 mX7_become.2.1 "LastRest") (by decide +kernel) rfl⟩, gw_at (i := 99) (by decide +kernel) rfl, gw_at (i := 515) (by decide +kernel) rfl, ⟨by decide +kernel, by decide +kernel, by decide +kernel⟩, by decide⟩, gw_at (i := 514) (by decide +kernel) rfl, gw_at (i := 19) (by decide +kernel) rfl, TX7, rfl⟩
theorem fX1_11 : Fl RX1 11 1 0 := ⟨RX1, TX1, rfl, by decide, rfl, inG_X1, Or.inl (gw_at (i := 336) (w := Cond.fieldLink RX1 11 RX1 (TX1 0).2.1 (TX1 0).2.2.1) (by decide +kernel) rfl)⟩
theorem fX1_18 : Fl RX1 18 1 1 := ⟨RX1, TX1, rfl, by decide, rfl, inG_X1, Or.inl (gw_at (i := 338) (w := Cond.fieldLink RX1 18 RX1 (TX1 1).2.1 (TX1 1).2.2.1) (by decide +kernel) rfl)⟩
theorem fX1_32 : Fl RX1 32 6 0 := ⟨RX6, TX6, rfl, by decide, rfl, inG_X6, Or.inr ⟨"LastRest", nw_at (i := 177) (w := Cond.fieldLinkNest RX1 32 RX6 (TX6 0).2.1 (TX6 0).2.2.1 "LastRest") (by decide +kernel) rfl⟩⟩
theorem fX1_52 : Fl RX1 52 6 1 := ⟨RX6, TX6, rfl, by decide, rfl, inG_X6, Or.inr ⟨"LastRest", nw_at (i := 180) (w := Cond.fieldLinkNest RX1 52 RX6 (TX6 1).2.1 (TX6 1).2.2.1 "LastRest") (by decide +kernel) rfl⟩⟩
theorem fX1_55 : Fl RX1 55 6 3 := ⟨RX6, TX6, rfl, by decide, rfl, inG_X6, Or.inr ⟨"LastRest", nw_at (i := 187) (w := Cond.fieldLinkNest RX1 55 RX6 (TX6 3).2.1 (TX6 3).2.2.1 "LastRest") (by decide +kernel) rfl⟩⟩
theorem kX1_37 : KlS RX1 37 mX1_nearest 2 := ⟨⟨Or.inl (gw_at (i := 788) (w := Cond.methodLink RX1 37 mX1_nearest.2.1) (by decide +kernel) rfl), gw_at (i := 104) (by decide +kernel) rfl, gw_at (i := 790) (by decide +kernel) rfl, ⟨by decide +kernel, by decide +kernel, by decide +kernel⟩, by decide⟩, gw_at (i := 789) (by decide +kernel) rfl⟩
theorem kX1_22 : KlV RX1 22 mX1_sizeOf 3 1 := ⟨⟨Or.inl (gw_at (i := 782) (w := Cond.methodLink RX1 22 mX1_sizeOf.2.1) (by decide +kernel) rfl), gw_at (i := 104) (by decide +kernel) rfl, gw_at (i := 785) (by decide +kernel) rfl, ⟨by decide +kernel, by decide +kernel, by decide +kernel⟩, by decide⟩, gw_at (i := 784) (by decide +kernel) rfl, gw_at (i := 55) (by decide +kernel) rfl, TX1, rfl⟩
theorem kX1_26 : KlV RX1 26 mX1_markOf 3 1 := ⟨⟨Or.inl (gw_at (i := 799) (w := Cond.methodLink RX1 26 mX1_markOf.2.1) (by decide +kernel) rfl), gw_at (i := 104) (by decide +kernel) rfl, gw_at (i := 802) (by decide +kernel) rfl, ⟨by decide +kernel, by decide +kernel, by decide +kernel⟩, by decide⟩, gw_at (i := 801) (by decide +kernel) rfl, gw_at (i := 58) (by decide +kernel) rfl, TX1, rfl⟩
theorem kX1_41 : KlV RX1 41 mX1_begin 4 1 := ⟨⟨Or.inl (gw_at (i := 791) (w := Cond.methodLink RX1 41 mX1_begin.2.1) (by decide +kernel) rfl), gw_at (i := 104) (by decide +kernel) rfl, gw_at (i := 794) (by decide +kernel) rfl, ⟨by decide +kernel, by decide +kernel, by decide +kernel⟩, by decide⟩, gw_at (i := 793) (by decide +kernel) rfl, gw_at (i := 56) (by decide +kernel) rfl, TX1, rfl⟩
theorem kX1_48 : KlV RX1 48 mX1_leaveTrace 1 1 := ⟨⟨Or.inl (gw_at (i := 795) (w := Cond.methodLink RX1 48 mX1_leaveTrace.2.1) (by decide +kernel) rfl), gw_at (i := 104) (by decide +kernel) rfl, gw_at (i := 798) (by decide +kernel) rfl, ⟨by decide +kernel, by decide +kernel, by decide +kernel⟩, by decide⟩, gw_at (i := 797) (by decide +kernel) rfl, gw_at (i := 57) (by decide +kernel) rfl, TX1, rfl⟩
theorem fX2_12 : Fl RX2 12 2 0 := ⟨RX2, TX2, rfl, by decide, rfl, inG_X2, Or.inl (gw_at (i := 304) (w := Cond.fieldLink RX2 12 RX2 (TX2 0).2.1 (TX2 0).2.2.1) (by decide +kernel) rfl)⟩
theorem fX2_18 : Fl RX2 18 2 1 := ⟨RX2, TX2, rfl, by decide, rfl, inG_X2, Or.inl (gw_at (i := 306) (w := Cond.fieldLink RX2 18 RX2 (TX2 1).2.1 (TX2 1).2.2.1) (by decide +kernel) rfl)⟩
theorem fX2_21 : Fl RX2 21 2 2 := ⟨RX2, TX2, rfl, by decide, rfl, inG_X2, Or.inl (gw_at (i := 307) (w := Cond.fieldLink RX2 21 RX2 (TX2 2).2.1 (TX2 2).2.2.1) (by decide +kernel) rfl)⟩
theorem fX2_25 : Fl RX2 25 2 3 := ⟨RX2, TX2, rfl, by decide, rfl, inG_X2, Or.inl (gw_at (i := 308) (w := Cond.fieldLink RX2 25 RX2 (TX2 3).2.1 (TX2 3).2.2.1) (by decide +kernel) rfl)⟩
theorem fX2_28 : Fl RX2 28 2 4 := ⟨RX2, TX2, rfl, by decide, rfl, inG_X2, Or.inl (gw_at (i := 309) (w := Cond.fieldLink RX2 28 RX2 (TX2 4).2.1 (TX2 4).2.2.1) (by decide +kernel) rfl)⟩
theorem fX2_31 : Fl RX2 31 7 1 := ⟨RX7, TX7, rfl, by decide, rfl, inG_X7, Or.inr ⟨"LastRest", nw_at (i := 235) (w := Cond.fieldLinkNest RX2 31 RX7 (TX7 1).2.1 (TX7 1).2.2.1 "LastRest") (by decide +kernel) rfl⟩⟩
theorem fX2_42 : Fl RX2 42 7 4 := ⟨RX7, TX7, rfl, by decide, rfl, inG_X7, Or.inr ⟨"LastRest", nw_at (i := 246) (w := Cond.fieldLinkNest RX2 42 RX7 (TX7 4).2.1 (TX7 4).2.2.1 "LastRest") (by decide +kernel) rfl⟩⟩
theorem fX2_46 : Fl RX2 46 7 3 := ⟨RX7, TX7, rfl, by decide, rfl, inG_X7, Or.inr ⟨"LastRest", nw_at (i := 242) (w := Cond.fieldLinkNest RX2 46 RX7 (TX7 3).2.1 (TX7 3).2.2.1 "LastRest") (by decide +kernel) rfl⟩⟩
theorem fX2_58 : Fl RX2 58 2 5 := ⟨RX2, TX2, rfl, by decide, rfl, inG_X2, Or.inl (gw_at (i := 311) (w := Cond.fieldLink RX2 58 RX2 (TX2 5).2.1 (TX2 5).2.2.1) (by decide +kernel) rfl)⟩
theorem fX2_61 : Fl RX2 61 2 6 := ⟨RX2, TX2, rfl, by decide, rfl, inG_X2, Or.inl (gw_at (i := 313) (w := Cond.fieldLink RX2 61 RX2 (TX2 6).2.1 (TX2 6).2.2.1) (by decide +kernel) rfl)⟩
theorem fX2_78 : Fl RX2 78 3 1 := ⟨RX3, TX3, rfl, by decide, rfl, inG_X3, Or.inr ⟨"LastRest", nw_at (i := 220) (w := Cond.fieldLinkNest RX2 78 RX3 (TX3 1).2.1 (TX3 1).2.2.1 "LastRest") (by decide +kernel) rfl⟩⟩
theorem fX2_81 : Fl RX2 81 3 0 := ⟨RX3, TX3, rfl, by decide, rfl, inG_X3, Or.inr ⟨"LastRest", nw_at (i := 215) (w := Cond.fieldLinkNest RX2 81 RX3 (TX3 0).2.1 (TX3 0).2.2.1 "LastRest") (by decide +kernel) rfl⟩⟩
theorem fX2_85 : Fl RX2 85 6 4 := ⟨RX6, TX6, rfl, by decide, rfl, inG_X6, Or.inr ⟨"LastRest", nw_at (i := 191) (w := Cond.fieldLinkNest RX2 85 RX6 (TX6 4).2.1 (TX6 4).2.2.1 "LastRest") (by decide +kernel) rfl⟩⟩
theorem fX2_100 : Fl RX2 100 6 2 := ⟨RX6, TX6, rfl, by decide, rfl, inG_X6, Or.inr ⟨"LastRest", nw_at (i := 184) (w := Cond.fieldLinkNest RX2 100 RX6 (TX6 2).2.1 (TX6 2).2.2.1 "LastRest") (by decide +kernel) rfl⟩⟩
theorem fX2_103 : Fl RX2 103 7 5 := ⟨RX7, TX7, rfl, by decide, rfl, inG_X7, Or.inr ⟨"LastRest", nw_at (i := 251) (w := Cond.fieldLinkNest RX2 103 RX7 (TX7 5).2.1 (TX7 5).2.2.1 "LastRest") (by decide +kernel) rfl⟩⟩
theorem fX2_106 : Fl RX2 106 7 6 := ⟨RX7, TX7, rfl, by decide, rfl, inG_X7, Or.inr ⟨"LastRest", nw_at (i := 255) (w := Cond.fieldLinkNest RX2 106 RX7 (TX7 6).2.1 (TX7 6).2.2.1 "LastRest") (by decide +kernel) rfl⟩⟩
theorem fX2_133 : Fl RX2 133 7 7 := ⟨RX7, TX7, rfl, by decide, rfl, inG_X7, Or.inr ⟨"LastRest", nw_at (i := 258) (w := Cond.fieldLinkNest RX2 133 RX7 (TX7 7).2.1 (TX7 7).2.2.1 "LastRest") (by decide +kernel) rfl⟩⟩
theorem fX2_136 : Fl RX2 136 7 0 := ⟨RX7, TX7, rfl, by decide, rfl, inG_X7, Or.inr ⟨"LastRest", nw_at (i := 233) (w := Cond.fieldLinkNest RX2 136 RX7 (TX7 0).2.1 (TX7 0).2.2.1 "LastRest") (by decide +kernel) rfl⟩⟩
theorem fX2_150 : Fl RX2 150 6 6 := ⟨RX6, TX6, rfl, by decide, rfl, inG_X6, Or.inr ⟨"LastRest", nw_at (i := 197) (w := Cond.fieldLinkNest RX2 150 RX6 (TX6 6).2.1 (TX6 6).2.2.1 "LastRest") (by decide +kernel) rfl⟩⟩
theorem fX2_153 : Fl RX2 153 5 0 := ⟨RX5, TX5, rfl, by decide, rfl, inG_X5, Or.inr ⟨"LastRest", nw_at (i := 352) (w := Cond.fieldLinkNest RX2 153 RX5 (TX5 0).2.1 (TX5 0).2.2.1 "LastRest") (by decide +kernel) rfl⟩⟩
theorem kX2_11 : KlI RX2 11 mX3_init 0 := ⟨⟨Or.inr ⟨"LastRest", nw_at (i := 303) (w := Cond.methodLinkNest RX2 11 mX3_init.2.1 "LastRest") (by decide +kernel) rfl⟩, gw_at (i := 100) (by decide +kernel) rfl, gw_at (i := 167) (by decide +kernel) rfl, ⟨by decide +kernel, by decide +kernel, by decide +kernel⟩, by decide⟩, gw_at (i := 166) (by decide +kernel) rfl, by decide +kernel, rfl⟩
theorem kX2_67 : KlS RX2 67 mX2_isApart 1 := ⟨⟨Or.inl (gw_at (i := 667) (w := Cond.methodLink RX2 67 mX2_isApart.2.1) (by decide +kernel) rfl), gw_at (i := 103) (by decide +kernel) rfl, gw_at (i := 669) (by decide +kernel) rfl, ⟨by decide +kernel, by decide +kernel, by decide +kernel⟩, by decide⟩, gw_at (i := 668) (by decide +kernel) rfl⟩
theorem kX2_94 : KlS RX2 94 mJ9_max_7cf53 2 := ⟨⟨Or.inl (gw_at (i := 696) (w := Cond.methodLink RX2 94 mJ9_max_7cf53.2.1) (by decide +kernel) rfl), gw_at (i := 108) (by decide +kernel) rfl, gw_at (i := 569) (by decide +kernel) rfl, ⟨by decide +kernel, by decide +kernel, by decide +kernel⟩, by decide⟩, gw_at (i := 568) (by decide +kernel) rfl⟩
theorem kX2_34 : KlV RX2 34 mX3_become 1 3 := ⟨⟨Or.inr ⟨"LastRest", nw_at (i := 640) (w := Cond.methodLinkNest RX2 34 mX3_become.2.1 "LastRest") (by decide +kernel) rfl⟩, gw_at (i := 100) (by decide +kernel) rfl, gw_at (i := 520) (by decide +kernel) rfl, ⟨by decide +kernel, by decide +kernel, by decide +kernel⟩, by decide⟩, gw_at (i := 519) (by decide +kernel) rfl, gw_at (i := 20) (by decide +kernel) rfl, TX3, rfl⟩
theorem kX2_38 : KlV RX2 38 mX2_walkOn 3 2 := ⟨⟨Or.inl (gw_at (i := 641) (w := Cond.methodLink RX2 38 mX2_walkOn.2.1) (by decide +kernel) rfl), gw_at (i := 103) (by decide +kernel) rfl, gw_at (i := 644) (by decide +kernel) rfl, ⟨by decide +kernel, by decide +kernel, by decide +kernel⟩, by decide⟩, gw_at (i := 643) (by decide +kernel) rfl, gw_at (i := 37) (by decide +kernel) rfl, TX2, rfl⟩
theorem kX2_49 : KlV RX2 49 mX7_move 4 7 := ⟨⟨Or.inr ⟨"LastRest", nw_at (i := 645) (w := Cond.methodLinkNest RX2 49 mX7_move.2.1 "LastRest") (by decide +kernel) rfl⟩, gw_at (i := 99) (by decide +kernel) rfl, gw_at (i := 550) (by decide +kernel) rfl, ⟨by decide +kernel, by decide +kernel, by decide +kernel⟩, by decide⟩, gw_at (i := 549) (by decide +kernel) rfl, gw_at (i := 24) (by decide +kernel) rfl, TX7, rfl⟩
theorem kX2_53 : KlV RX2 53 mX3_lastMinute 0 3 := ⟨⟨Or.inr ⟨"LastRest", nw_at (i := 646) (w := Cond.methodLinkNest RX2 53 mX3_lastMinute.2.1 "LastRest") (by decide +kernel) rfl⟩, gw_at (i := 100) (by decide +kernel) rfl, gw_at (i := 649) (by decide +kernel) rfl, ⟨by decide +kernel, by decide +kernel, by decide +kernel⟩, by decide⟩, gw_at (i := 648) (by decide +kernel) rfl, gw_at (i := 38) (by decide +kernel) rfl, TX3, rfl⟩
theorem kX2_64 : KlV RX2 64 mX2_startSearch 0 2 := ⟨⟨Or.inl (gw_at (i := 662) (w := Cond.methodLink RX2 64 mX2_startSearch.2.1) (by decide +kernel) rfl), gw_at (i := 103) (by decide +kernel) rfl, gw_at (i := 665) (by decide +kernel) rfl, ⟨by decide +kernel, by decide +kernel, by decide +kernel⟩, by decide⟩, gw_at (i := 664) (by decide +kernel) rfl, gw_at (i := 40) (by decide +kernel) rfl, TX2, rfl⟩
theorem kX2_71 : KlV RX2 71 mX2_walkToHut 3 2 := ⟨⟨Or.inl (gw_at (i := 670) (w := Cond.methodLink RX2 71 mX2_walkToHut.2.1) (by decide +kernel) rfl), gw_at (i := 103) (by decide +kernel) rfl, gw_at (i := 639) (by decide +kernel) rfl, ⟨by decide +kernel, by decide +kernel, by decide +kernel⟩, by decide⟩, gw_at (i := 638) (by decide +kernel) rfl, gw_at (i := 36) (by decide +kernel) rfl, TX2, rfl⟩
theorem kX2_74 : KlV RX2 74 mX2_keepIfLess 2 2 := ⟨⟨Or.inl (gw_at (i := 671) (w := Cond.methodLink RX2 74 mX2_keepIfLess.2.1) (by decide +kernel) rfl), gw_at (i := 103) (by decide +kernel) rfl, gw_at (i := 674) (by decide +kernel) rfl, ⟨by decide +kernel, by decide +kernel, by decide +kernel⟩, by decide⟩, gw_at (i := 673) (by decide +kernel) rfl, gw_at (i := 41) (by decide +kernel) rfl, TX2, rfl⟩
theorem kX2_90 : KlV RX2 90 mX2_greatestLoss 0 2 := ⟨⟨Or.inl (gw_at (i := 691) (w := Cond.methodLink RX2 90 mX2_greatestLoss.2.1) (by decide +kernel) rfl), gw_at (i := 103) (by decide +kernel) rfl, gw_at (i := 694) (by decide +kernel) rfl, ⟨by decide +kernel, by decide +kernel, by decide +kernel⟩, by decide⟩, gw_at (i := 693) (by decide +kernel) rfl, gw_at (i := 44) (by decide +kernel) rfl, TX2, rfl⟩
theorem kX2_115 : KlV RX2 115 mX2_nextOrder 1 2 := ⟨⟨Or.inl (gw_at (i := 706) (w := Cond.methodLink RX2 115 mX2_nextOrder.2.1) (by decide +kernel) rfl), gw_at (i := 103) (by decide +kernel) rfl, gw_at (i := 709) (by decide +kernel) rfl, ⟨by decide +kernel, by decide +kernel, by decide +kernel⟩, by decide⟩, gw_at (i := 708) (by decide +kernel) rfl, gw_at (i := 46) (by decide +kernel) rfl, TX2, rfl⟩
theorem kX2_118 : KlV RX2 118 mX2_swap 2 2 := ⟨⟨Or.inl (gw_at (i := 710) (w := Cond.methodLink RX2 118 mX2_swap.2.1) (by decide +kernel) rfl), gw_at (i := 103) (by decide +kernel) rfl, gw_at (i := 713) (by decide +kernel) rfl, ⟨by decide +kernel, by decide +kernel, by decide +kernel⟩, by decide⟩, gw_at (i := 712) (by decide +kernel) rfl, gw_at (i := 47) (by decide +kernel) rfl, TX2, rfl⟩
theorem kX2_122 : KlV RX2 122 mX2_walkSet 2 2 := ⟨⟨Or.inl (gw_at (i := 722) (w := Cond.methodLink RX2 122 mX2_walkSet.2.1) (by decide +kernel) rfl), gw_at (i := 103) (by decide +kernel) rfl, gw_at (i := 725) (by decide +kernel) rfl, ⟨by decide +kernel, by decide +kernel, by decide +kernel⟩, by decide⟩, gw_at (i := 724) (by decide +kernel) rfl, gw_at (i := 49) (by decide +kernel) rfl, TX2, rfl⟩
theorem kX2_130 : KlV RX2 130 mX2_walkBack 2 2 := ⟨⟨Or.inl (gw_at (i := 735) (w := Cond.methodLink RX2 130 mX2_walkBack.2.1) (by decide +kernel) rfl), gw_at (i := 103) (by decide +kernel) rfl, gw_at (i := 738) (by decide +kernel) rfl, ⟨by decide +kernel, by decide +kernel, by decide +kernel⟩, by decide⟩, gw_at (i := 737) (by decide +kernel) rfl, gw_at (i := 51) (by decide +kernel) rfl, TX2, rfl⟩
theorem kX2_139 : KlV RX2 139 mX3_walkLeg 1 3 := ⟨⟨Or.inr ⟨"LastRest", nw_at (i := 739) (w := Cond.methodLinkNest RX2 139 mX3_walkLeg.2.1 "LastRest") (by decide +kernel) rfl⟩, gw_at (i := 100) (by decide +kernel) rfl, gw_at (i := 554) (by decide +kernel) rfl, ⟨by decide +kernel, by decide +kernel, by decide +kernel⟩, by decide⟩, gw_at (i := 553) (by decide +kernel) rfl, gw_at (i := 25) (by decide +kernel) rfl, TX3, rfl⟩
theorem kX2_143 : KlV RX2 143 mX3_leaveGate 2 3 := ⟨⟨Or.inr ⟨"LastRest", nw_at (i := 740) (w := Cond.methodLinkNest RX2 143 mX3_leaveGate.2.1 "LastRest") (by decide +kernel) rfl⟩, gw_at (i := 100) (by decide +kernel) rfl, gw_at (i := 577) (by decide +kernel) rfl, ⟨by decide +kernel, by decide +kernel, by decide +kernel⟩, by decide⟩, gw_at (i := 576) (by decide +kernel) rfl, gw_at (i := 30) (by decide +kernel) rfl, TX3, rfl⟩
theorem kX2_146 : KlV RX2 146 mX2_isSo 6 2 := ⟨⟨Or.inl (gw_at (i := 749) (w := Cond.methodLink RX2 146 mX2_isSo.2.1) (by decide +kernel) rfl), gw_at (i := 103) (by decide +kernel) rfl, gw_at (i := 752) (by decide +kernel) rfl, ⟨by decide +kernel, by decide +kernel, by decide +kernel⟩, by decide⟩, gw_at (i := 751) (by decide +kernel) rfl, gw_at (i := 53) (by decide +kernel) rfl, TX2, rfl⟩
theorem kX2_57 : Cond.constant RX2 57 (1000000000) ∈ gw := gw_at (i := 666) (by decide +kernel) rfl
theorem kX2_93 : Cond.constant RX2 93 (-1000000000) ∈ gw := gw_at (i := 695) (by decide +kernel) rfl
theorem kX2_129 : Cond.constant RX2 129 (-1000000) ∈ gw := gw_at (i := 734) (by decide +kernel) rfl
theorem fX2_126 : Fl RX2 126 3 2 := ⟨RX3, TX3, rfl, by decide, rfl, inG_X3, Or.inr ⟨"LastRest", nw_at (i := 222) (w := Cond.fieldLinkNest RX2 126 RX3 (TX3 2).2.1 (TX3 2).2.2.1 "LastRest") (by decide +kernel) rfl⟩⟩
theorem fX3_11 : Fl RX3 11 3 0 := ⟨RX3, TX3, rfl, by decide, rfl, inG_X3, Or.inl (gw_at (i := 213) (w := Cond.fieldLink RX3 11 RX3 (TX3 0).2.1 (TX3 0).2.2.1) (by decide +kernel) rfl)⟩
theorem fX3_17 : Fl RX3 17 3 2 := ⟨RX3, TX3, rfl, by decide, rfl, inG_X3, Or.inl (gw_at (i := 221) (w := Cond.fieldLink RX3 17 RX3 (TX3 2).2.1 (TX3 2).2.2.1) (by decide +kernel) rfl)⟩
theorem fX3_22 : Fl RX3 22 3 1 := ⟨RX3, TX3, rfl, by decide, rfl, inG_X3, Or.inl (gw_at (i := 217) (w := Cond.fieldLink RX3 22 RX3 (TX3 1).2.1 (TX3 1).2.2.1) (by decide +kernel) rfl)⟩
theorem fX3_37 : Fl RX3 37 6 4 := ⟨RX6, TX6, rfl, by decide, rfl, inG_X6, Or.inr ⟨"LastRest", nw_at (i := 190) (w := Cond.fieldLinkNest RX3 37 RX6 (TX6 4).2.1 (TX6 4).2.2.1 "LastRest") (by decide +kernel) rfl⟩⟩
theorem fX3_44 : Fl RX3 44 6 6 := ⟨RX6, TX6, rfl, by decide, rfl, inG_X6, Or.inr ⟨"LastRest", nw_at (i := 196) (w := Cond.fieldLinkNest RX3 44 RX6 (TX6 6).2.1 (TX6 6).2.2.1 "LastRest") (by decide +kernel) rfl⟩⟩
theorem fX3_47 : Fl RX3 47 6 3 := ⟨RX6, TX6, rfl, by decide, rfl, inG_X6, Or.inr ⟨"LastRest", nw_at (i := 186) (w := Cond.fieldLinkNest RX3 47 RX6 (TX6 3).2.1 (TX6 3).2.2.1 "LastRest") (by decide +kernel) rfl⟩⟩
theorem kX3_21 : KlI RX3 21 mX6_init 0 := ⟨⟨Or.inr ⟨"LastRest", nw_at (i := 172) (w := Cond.methodLinkNest RX3 21 mX6_init.2.1 "LastRest") (by decide +kernel) rfl⟩, gw_at (i := 101) (by decide +kernel) rfl, gw_at (i := 174) (by decide +kernel) rfl, ⟨by decide +kernel, by decide +kernel, by decide +kernel⟩, by decide⟩, gw_at (i := 173) (by decide +kernel) rfl, by decide +kernel, rfl⟩
theorem kX3_60 : KlS RX3 60 mX3_leavesAt 5 := ⟨⟨Or.inl (gw_at (i := 587) (w := Cond.methodLink RX3 60 mX3_leavesAt.2.1) (by decide +kernel) rfl), gw_at (i := 100) (by decide +kernel) rfl, gw_at (i := 589) (by decide +kernel) rfl, ⟨by decide +kernel, by decide +kernel, by decide +kernel⟩, by decide⟩, gw_at (i := 588) (by decide +kernel) rfl⟩
theorem kX3_68 : KlS RX3 68 mJ9_max_7cf53 2 := ⟨⟨Or.inl (gw_at (i := 586) (w := Cond.methodLink RX3 68 mJ9_max_7cf53.2.1) (by decide +kernel) rfl), gw_at (i := 108) (by decide +kernel) rfl, gw_at (i := 569) (by decide +kernel) rfl, ⟨by decide +kernel, by decide +kernel, by decide +kernel⟩, by decide⟩, gw_at (i := 568) (by decide +kernel) rfl⟩
theorem kX3_25 : KlV RX3 25 mX6_become 1 6 := ⟨⟨Or.inr ⟨"LastRest", nw_at (i := 521) (w := Cond.methodLinkNest RX3 25 mX6_become.2.1 "LastRest") (by decide +kernel) rfl⟩, gw_at (i := 101) (by decide +kernel) rfl, gw_at (i := 524) (by decide +kernel) rfl, ⟨by decide +kernel, by decide +kernel, by decide +kernel⟩, by decide⟩, gw_at (i := 523) (by decide +kernel) rfl, gw_at (i := 21) (by decide +kernel) rfl, TX6, rfl⟩
theorem kX3_29 : KlV RX3 29 mX3_firstToLeave 0 3 := ⟨⟨Or.inl (gw_at (i := 555) (w := Cond.methodLink RX3 29 mX3_firstToLeave.2.1) (by decide +kernel) rfl), gw_at (i := 100) (by decide +kernel) rfl, gw_at (i := 558) (by decide +kernel) rfl, ⟨by decide +kernel, by decide +kernel, by decide +kernel⟩, by decide⟩, gw_at (i := 557) (by decide +kernel) rfl, gw_at (i := 26) (by decide +kernel) rfl, TX3, rfl⟩
theorem kX3_33 : KlV RX3 33 mX3_isIn 1 3 := ⟨⟨Or.inl (gw_at (i := 559) (w := Cond.methodLink RX3 33 mX3_isIn.2.1) (by decide +kernel) rfl), gw_at (i := 100) (by decide +kernel) rfl, gw_at (i := 562) (by decide +kernel) rfl, ⟨by decide +kernel, by decide +kernel, by decide +kernel⟩, by decide⟩, gw_at (i := 561) (by decide +kernel) rfl, gw_at (i := 27) (by decide +kernel) rfl, TX3, rfl⟩
theorem kX3_40 : KlV RX3 40 mX6_minutesFor 1 6 := ⟨⟨Or.inr ⟨"LastRest", nw_at (i := 563) (w := Cond.methodLinkNest RX3 40 mX6_minutesFor.2.1 "LastRest") (by decide +kernel) rfl⟩, gw_at (i := 101) (by decide +kernel) rfl, gw_at (i := 566) (by decide +kernel) rfl, ⟨by decide +kernel, by decide +kernel, by decide +kernel⟩, by decide⟩, gw_at (i := 565) (by decide +kernel) rfl, gw_at (i := 28) (by decide +kernel) rfl, TX6, rfl⟩
theorem kX3_50 : KlV RX3 50 mX6_tiresBy 2 6 := ⟨⟨Or.inr ⟨"LastRest", nw_at (i := 570) (w := Cond.methodLinkNest RX3 50 mX6_tiresBy.2.1 "LastRest") (by decide +kernel) rfl⟩, gw_at (i := 101) (by decide +kernel) rfl, gw_at (i := 573) (by decide +kernel) rfl, ⟨by decide +kernel, by decide +kernel, by decide +kernel⟩, by decide⟩, gw_at (i := 572) (by decide +kernel) rfl, gw_at (i := 29) (by decide +kernel) rfl, TX6, rfl⟩
theorem kX3_54 : KlV RX3 54 mX3_firstCame 0 3 := ⟨⟨Or.inl (gw_at (i := 578) (w := Cond.methodLink RX3 54 mX3_firstCame.2.1) (by decide +kernel) rfl), gw_at (i := 100) (by decide +kernel) rfl, gw_at (i := 581) (by decide +kernel) rfl, ⟨by decide +kernel, by decide +kernel, by decide +kernel⟩, by decide⟩, gw_at (i := 580) (by decide +kernel) rfl, gw_at (i := 31) (by decide +kernel) rfl, TX3, rfl⟩
theorem kX3_57 : KlV RX3 57 mX3_lastCame 0 3 := ⟨⟨Or.inl (gw_at (i := 582) (w := Cond.methodLink RX3 57 mX3_lastCame.2.1) (by decide +kernel) rfl), gw_at (i := 100) (by decide +kernel) rfl, gw_at (i := 585) (by decide +kernel) rfl, ⟨by decide +kernel, by decide +kernel, by decide +kernel⟩, by decide⟩, gw_at (i := 584) (by decide +kernel) rfl, gw_at (i := 32) (by decide +kernel) rfl, TX3, rfl⟩
theorem kX3_64 : KlV RX3 64 mX6_leaveAt 1 6 := ⟨⟨Or.inr ⟨"LastRest", nw_at (i := 590) (w := Cond.methodLinkNest RX3 64 mX6_leaveAt.2.1 "LastRest") (by decide +kernel) rfl⟩, gw_at (i := 101) (by decide +kernel) rfl, gw_at (i := 593) (by decide +kernel) rfl, ⟨by decide +kernel, by decide +kernel, by decide +kernel⟩, by decide⟩, gw_at (i := 592) (by decide +kernel) rfl, gw_at (i := 33) (by decide +kernel) rfl, TX6, rfl⟩
theorem fX4_11 : Fl RX4 11 4 0 := ⟨RX4, TX4, rfl, by decide, rfl, inG_X4, Or.inl (gw_at (i := 125) (w := Cond.fieldLink RX4 11 RX4 (TX4 0).2.1 (TX4 0).2.2.1) (by decide +kernel) rfl)⟩
theorem fX4_15 : Fl RX4 15 4 1 := ⟨RX4, TX4, rfl, by decide, rfl, inG_X4, Or.inl (gw_at (i := 126) (w := Cond.fieldLink RX4 15 RX4 (TX4 1).2.1 (TX4 1).2.2.1) (by decide +kernel) rfl)⟩
theorem fX4_19 : Fl RX4 19 4 6 := ⟨RX4, TX4, rfl, by decide, rfl, inG_X4, Or.inl (gw_at (i := 132) (w := Cond.fieldLink RX4 19 RX4 (TX4 6).2.1 (TX4 6).2.2.1) (by decide +kernel) rfl)⟩
theorem fX4_22 : Fl RX4 22 4 2 := ⟨RX4, TX4, rfl, by decide, rfl, inG_X4, Or.inl (gw_at (i := 128) (w := Cond.fieldLink RX4 22 RX4 (TX4 2).2.1 (TX4 2).2.2.1) (by decide +kernel) rfl)⟩
theorem fX4_41 : Fl RX4 41 7 2 := ⟨RX7, TX7, rfl, by decide, rfl, inG_X7, Or.inr ⟨"LastRest", nw_at (i := 239) (w := Cond.fieldLinkNest RX4 41 RX7 (TX7 2).2.1 (TX7 2).2.2.1 "LastRest") (by decide +kernel) rfl⟩⟩
theorem fX4_55 : Fl RX4 55 7 0 := ⟨RX7, TX7, rfl, by decide, rfl, inG_X7, Or.inr ⟨"LastRest", nw_at (i := 231) (w := Cond.fieldLinkNest RX4 55 RX7 (TX7 0).2.1 (TX7 0).2.2.1 "LastRest") (by decide +kernel) rfl⟩⟩
theorem fX4_74 : Fl RX4 74 7 1 := ⟨RX7, TX7, rfl, by decide, rfl, inG_X7, Or.inr ⟨"LastRest", nw_at (i := 236) (w := Cond.fieldLinkNest RX4 74 RX7 (TX7 1).2.1 (TX7 1).2.2.1 "LastRest") (by decide +kernel) rfl⟩⟩
theorem fX4_83 : Fl RX4 83 4 3 := ⟨RX4, TX4, rfl, by decide, rfl, inG_X4, Or.inl (gw_at (i := 129) (w := Cond.fieldLink RX4 83 RX4 (TX4 3).2.1 (TX4 3).2.2.1) (by decide +kernel) rfl)⟩
theorem fX4_90 : Fl RX4 90 3 0 := ⟨RX3, TX3, rfl, by decide, rfl, inG_X3, Or.inr ⟨"LastRest", nw_at (i := 214) (w := Cond.fieldLinkNest RX4 90 RX3 (TX3 0).2.1 (TX3 0).2.2.1 "LastRest") (by decide +kernel) rfl⟩⟩
theorem fX4_107 : Fl RX4 107 4 5 := ⟨RX4, TX4, rfl, by decide, rfl, inG_X4, Or.inl (gw_at (i := 131) (w := Cond.fieldLink RX4 107 RX4 (TX4 5).2.1 (TX4 5).2.2.1) (by decide +kernel) rfl)⟩
theorem fX4_110 : Fl RX4 110 4 4 := ⟨RX4, TX4, rfl, by decide, rfl, inG_X4, Or.inl (gw_at (i := 130) (w := Cond.fieldLink RX4 110 RX4 (TX4 4).2.1 (TX4 4).2.2.1) (by decide +kernel) rfl)⟩
theorem kX4_100 : KlS RX4 100 mX4_kindOf 1 := ⟨⟨Or.inl (gw_at (i := 504) (w := Cond.methodLink RX4 100 mX4_kindOf.2.1) (by decide +kernel) rfl), gw_at (i := 98) (by decide +kernel) rfl, gw_at (i := 506) (by decide +kernel) rfl, ⟨by decide +kernel, by decide +kernel, by decide +kernel⟩, by decide⟩, gw_at (i := 505) (by decide +kernel) rfl⟩
theorem kX4_116 : KlS RX4 116 mX4_isFigure 1 := ⟨⟨Or.inl (gw_at (i := 465) (w := Cond.methodLink RX4 116 mX4_isFigure.2.1) (by decide +kernel) rfl), gw_at (i := 98) (by decide +kernel) rfl, gw_at (i := 467) (by decide +kernel) rfl, ⟨by decide +kernel, by decide +kernel, by decide +kernel⟩, by decide⟩, gw_at (i := 466) (by decide +kernel) rfl⟩
theorem kX4_25 : KlV RX4 25 mX4_advance 0 4 := ⟨⟨Or.inl (gw_at (i := 461) (w := Cond.methodLink RX4 25 mX4_advance.2.1) (by decide +kernel) rfl), gw_at (i := 98) (by decide +kernel) rfl, gw_at (i := 464) (by decide +kernel) rfl, ⟨by decide +kernel, by decide +kernel, by decide +kernel⟩, by decide⟩, gw_at (i := 463) (by decide +kernel) rfl, gw_at (i := 8) (by decide +kernel) rfl, TX4, rfl⟩
theorem kX4_28 : KlV RX4 28 mX4_readLegs 1 4 := ⟨⟨Or.inl (gw_at (i := 472) (w := Cond.methodLink RX4 28 mX4_readLegs.2.1) (by decide +kernel) rfl), gw_at (i := 98) (by decide +kernel) rfl, gw_at (i := 475) (by decide +kernel) rfl, ⟨by decide +kernel, by decide +kernel, by decide +kernel⟩, by decide⟩, gw_at (i := 474) (by decide +kernel) rfl, gw_at (i := 10) (by decide +kernel) rfl, TX4, rfl⟩
theorem kX4_32 : KlV RX4 32 mX4_readRule 1 4 := ⟨⟨Or.inl (gw_at (i := 492) (w := Cond.methodLink RX4 32 mX4_readRule.2.1) (by decide +kernel) rfl), gw_at (i := 98) (by decide +kernel) rfl, gw_at (i := 495) (by decide +kernel) rfl, ⟨by decide +kernel, by decide +kernel, by decide +kernel⟩, by decide⟩, gw_at (i := 494) (by decide +kernel) rfl, gw_at (i := 15) (by decide +kernel) rfl, TX4, rfl⟩
theorem kX4_35 : KlV RX4 35 mX4_readWalkers 1 4 := ⟨⟨Or.inl (gw_at (i := 496) (w := Cond.methodLink RX4 35 mX4_readWalkers.2.1) (by decide +kernel) rfl), gw_at (i := 98) (by decide +kernel) rfl, gw_at (i := 499) (by decide +kernel) rfl, ⟨by decide +kernel, by decide +kernel, by decide +kernel⟩, by decide⟩, gw_at (i := 498) (by decide +kernel) rfl, gw_at (i := 16) (by decide +kernel) rfl, TX4, rfl⟩
theorem kX4_47 : KlV RX4 47 mX4_expect 1 4 := ⟨⟨Or.inl (gw_at (i := 476) (w := Cond.methodLink RX4 47 mX4_expect.2.1) (by decide +kernel) rfl), gw_at (i := 98) (by decide +kernel) rfl, gw_at (i := 479) (by decide +kernel) rfl, ⟨by decide +kernel, by decide +kernel, by decide +kernel⟩, by decide⟩, gw_at (i := 478) (by decide +kernel) rfl, gw_at (i := 11) (by decide +kernel) rfl, TX4, rfl⟩
theorem kX4_51 : KlV RX4 51 mX4_expectNumber 3 4 := ⟨⟨Or.inl (gw_at (i := 484) (w := Cond.methodLink RX4 51 mX4_expectNumber.2.1) (by decide +kernel) rfl), gw_at (i := 98) (by decide +kernel) rfl, gw_at (i := 487) (by decide +kernel) rfl, ⟨by decide +kernel, by decide +kernel, by decide +kernel⟩, by decide⟩, gw_at (i := 486) (by decide +kernel) rfl, gw_at (i := 13) (by decide +kernel) rfl, TX4, rfl⟩
theorem kX4_61 : KlV RX4 61 mX4_accept 1 4 := ⟨⟨Or.inl (gw_at (i := 488) (w := Cond.methodLink RX4 61 mX4_accept.2.1) (by decide +kernel) rfl), gw_at (i := 98) (by decide +kernel) rfl, gw_at (i := 491) (by decide +kernel) rfl, ⟨by decide +kernel, by decide +kernel, by decide +kernel⟩, by decide⟩, gw_at (i := 490) (by decide +kernel) rfl, gw_at (i := 14) (by decide +kernel) rfl, TX4, rfl⟩
theorem kX4_86 : KlV RX4 86 mX4_expectSort 1 4 := ⟨⟨Or.inl (gw_at (i := 500) (w := Cond.methodLink RX4 86 mX4_expectSort.2.1) (by decide +kernel) rfl), gw_at (i := 98) (by decide +kernel) rfl, gw_at (i := 503) (by decide +kernel) rfl, ⟨by decide +kernel, by decide +kernel, by decide +kernel⟩, by decide⟩, gw_at (i := 502) (by decide +kernel) rfl, gw_at (i := 17) (by decide +kernel) rfl, TX4, rfl⟩
theorem kX4_94 : KlV RX4 94 mX6_begin 3 6 := ⟨⟨Or.inr ⟨"LastRest", nw_at (i := 507) (w := Cond.methodLinkNest RX4 94 mX6_begin.2.1 "LastRest") (by decide +kernel) rfl⟩, gw_at (i := 101) (by decide +kernel) rfl, gw_at (i := 510) (by decide +kernel) rfl, ⟨by decide +kernel, by decide +kernel, by decide +kernel⟩, by decide⟩, gw_at (i := 509) (by decide +kernel) rfl, gw_at (i := 18) (by decide +kernel) rfl, TX6, rfl⟩
theorem kX4_104 : KlV RX4 104 mX4_blame 1 4 := ⟨⟨Or.inl (gw_at (i := 480) (w := Cond.methodLink RX4 104 mX4_blame.2.1) (by decide +kernel) rfl), gw_at (i := 98) (by decide +kernel) rfl, gw_at (i := 483) (by decide +kernel) rfl, ⟨by decide +kernel, by decide +kernel, by decide +kernel⟩, by decide⟩, gw_at (i := 482) (by decide +kernel) rfl, gw_at (i := 12) (by decide +kernel) rfl, TX4, rfl⟩
theorem kX4_119 : KlV RX4 119 mX4_takeFigures 0 4 := ⟨⟨Or.inl (gw_at (i := 468) (w := Cond.methodLink RX4 119 mX4_takeFigures.2.1) (by decide +kernel) rfl), gw_at (i := 98) (by decide +kernel) rfl, gw_at (i := 471) (by decide +kernel) rfl, ⟨by decide +kernel, by decide +kernel, by decide +kernel⟩, by decide⟩, gw_at (i := 470) (by decide +kernel) rfl, gw_at (i := 9) (by decide +kernel) rfl, TX4, rfl⟩
theorem fX4_38 : Fl RX4 38 4 8 := ⟨RX4, TX4, rfl, by decide, rfl, inG_X4, Or.inl (gw_at (i := 135) (w := Cond.fieldLink RX4 38 RX4 (TX4 8).2.1 (TX4 8).2.2.1) (by decide +kernel) rfl)⟩
theorem fX4_58 : Fl RX4 58 7 3 := ⟨RX7, TX7, rfl, by decide, rfl, inG_X7, Or.inr ⟨"LastRest", nw_at (i := 243) (w := Cond.fieldLinkNest RX4 58 RX7 (TX7 3).2.1 (TX7 3).2.2.1 "LastRest") (by decide +kernel) rfl⟩⟩
theorem fX4_65 : Fl RX4 65 7 5 := ⟨RX7, TX7, rfl, by decide, rfl, inG_X7, Or.inr ⟨"LastRest", nw_at (i := 249) (w := Cond.fieldLinkNest RX4 65 RX7 (TX7 5).2.1 (TX7 5).2.2.1 "LastRest") (by decide +kernel) rfl⟩⟩
theorem fX4_68 : Fl RX4 68 7 6 := ⟨RX7, TX7, rfl, by decide, rfl, inG_X7, Or.inr ⟨"LastRest", nw_at (i := 253) (w := Cond.fieldLinkNest RX4 68 RX7 (TX7 6).2.1 (TX7 6).2.2.1 "LastRest") (by decide +kernel) rfl⟩⟩
theorem fX4_71 : Fl RX4 71 7 7 := ⟨RX7, TX7, rfl, by decide, rfl, inG_X7, Or.inr ⟨"LastRest", nw_at (i := 257) (w := Cond.fieldLinkNest RX4 71 RX7 (TX7 7).2.1 (TX7 7).2.2.1 "LastRest") (by decide +kernel) rfl⟩⟩
theorem fX4_78 : Fl RX4 78 3 1 := ⟨RX3, TX3, rfl, by decide, rfl, inG_X3, Or.inr ⟨"LastRest", nw_at (i := 218) (w := Cond.fieldLinkNest RX4 78 RX3 (TX3 1).2.1 (TX3 1).2.2.1 "LastRest") (by decide +kernel) rfl⟩⟩
theorem fX4_113 : Fl RX4 113 4 7 := ⟨RX4, TX4, rfl, by decide, rfl, inG_X4, Or.inl (gw_at (i := 134) (w := Cond.fieldLink RX4 113 RX4 (TX4 7).2.1 (TX4 7).2.2.1) (by decide +kernel) rfl)⟩
theorem fX5_9 : Fl RX5 9 5 0 := ⟨RX5, TX5, rfl, by decide, rfl, inG_X5, Or.inl (gw_at (i := 350) (w := Cond.fieldLink RX5 9 RX5 (TX5 0).2.1 (TX5 0).2.2.1) (by decide +kernel) rfl)⟩
theorem fX5_19 : Fl RX5 19 5 2 := ⟨RX5, TX5, rfl, by decide, rfl, inG_X5, Or.inl (gw_at (i := 355) (w := Cond.fieldLink RX5 19 RX5 (TX5 2).2.1 (TX5 2).2.2.1) (by decide +kernel) rfl)⟩
theorem fX5_23 : Fl RX5 23 5 3 := ⟨RX5, TX5, rfl, by decide, rfl, inG_X5, Or.inl (gw_at (i := 357) (w := Cond.fieldLink RX5 23 RX5 (TX5 3).2.1 (TX5 3).2.2.1) (by decide +kernel) rfl)⟩
theorem kX5_26 : KlV RX5 26 mX5_cut 1 5 := ⟨⟨Or.inl (gw_at (i := 425) (w := Cond.methodLink RX5 26 mX5_cut.2.1) (by decide +kernel) rfl), gw_at (i := 105) (by decide +kernel) rfl, gw_at (i := 428) (by decide +kernel) rfl, ⟨by decide +kernel, by decide +kernel, by decide +kernel⟩, by decide⟩, gw_at (i := 427) (by decide +kernel) rfl, gw_at (i := 4) (by decide +kernel) rfl, TX5, rfl⟩
theorem fX5_15 : Fl RX5 15 5 1 := ⟨RX5, TX5, rfl, by decide, rfl, inG_X5, Or.inl (gw_at (i := 353) (w := Cond.fieldLink RX5 15 RX5 (TX5 1).2.1 (TX5 1).2.2.1) (by decide +kernel) rfl)⟩
theorem fX6_9 : Fl RX6 9 6 0 := ⟨RX6, TX6, rfl, by decide, rfl, inG_X6, Or.inl (gw_at (i := 176) (w := Cond.fieldLink RX6 9 RX6 (TX6 0).2.1 (TX6 0).2.2.1) (by decide +kernel) rfl)⟩
theorem fX6_15 : Fl RX6 15 6 1 := ⟨RX6, TX6, rfl, by decide, rfl, inG_X6, Or.inl (gw_at (i := 179) (w := Cond.fieldLink RX6 15 RX6 (TX6 1).2.1 (TX6 1).2.2.1) (by decide +kernel) rfl)⟩
theorem fX6_18 : Fl RX6 18 6 2 := ⟨RX6, TX6, rfl, by decide, rfl, inG_X6, Or.inl (gw_at (i := 182) (w := Cond.fieldLink RX6 18 RX6 (TX6 2).2.1 (TX6 2).2.2.1) (by decide +kernel) rfl)⟩
theorem fX6_21 : Fl RX6 21 6 3 := ⟨RX6, TX6, rfl, by decide, rfl, inG_X6, Or.inl (gw_at (i := 185) (w := Cond.fieldLink RX6 21 RX6 (TX6 3).2.1 (TX6 3).2.2.1) (by decide +kernel) rfl)⟩
theorem fX6_24 : Fl RX6 24 6 4 := ⟨RX6, TX6, rfl, by decide, rfl, inG_X6, Or.inl (gw_at (i := 189) (w := Cond.fieldLink RX6 24 RX6 (TX6 4).2.1 (TX6 4).2.2.1) (by decide +kernel) rfl)⟩
theorem fX6_27 : Fl RX6 27 6 5 := ⟨RX6, TX6, rfl, by decide, rfl, inG_X6, Or.inl (gw_at (i := 193) (w := Cond.fieldLink RX6 27 RX6 (TX6 5).2.1 (TX6 5).2.2.1) (by decide +kernel) rfl)⟩
theorem fX6_30 : Fl RX6 30 6 6 := ⟨RX6, TX6, rfl, by decide, rfl, inG_X6, Or.inl (gw_at (i := 195) (w := Cond.fieldLink RX6 30 RX6 (TX6 6).2.1 (TX6 6).2.2.1) (by decide +kernel) rfl)⟩
theorem kX6_33 : KlS RX6 33 mJ9_max_7cf53 2 := ⟨⟨Or.inl (gw_at (i := 567) (w := Cond.methodLink RX6 33 mJ9_max_7cf53.2.1) (by decide +kernel) rfl), gw_at (i := 108) (by decide +kernel) rfl, gw_at (i := 569) (by decide +kernel) rfl, ⟨by decide +kernel, by decide +kernel, by decide +kernel⟩, by decide⟩, gw_at (i := 568) (by decide +kernel) rfl⟩
theorem kX6_39 : KlS RX6 39 mX6_mendedBy 1 := ⟨⟨Or.inl (gw_at (i := 594) (w := Cond.methodLink RX6 39 mX6_mendedBy.2.1) (by decide +kernel) rfl), gw_at (i := 101) (by decide +kernel) rfl, gw_at (i := 596) (by decide +kernel) rfl, ⟨by decide +kernel, by decide +kernel, by decide +kernel⟩, by decide⟩, gw_at (i := 595) (by decide +kernel) rfl⟩
theorem fX7_9 : Fl RX7 9 7 0 := ⟨RX7, TX7, rfl, by decide, rfl, inG_X7, Or.inl (gw_at (i := 230) (w := Cond.fieldLink RX7 9 RX7 (TX7 0).2.1 (TX7 0).2.2.1) (by decide +kernel) rfl)⟩
theorem fX7_18 : Fl RX7 18 7 1 := ⟨RX7, TX7, rfl, by decide, rfl, inG_X7, Or.inl (gw_at (i := 234) (w := Cond.fieldLink RX7 18 RX7 (TX7 1).2.1 (TX7 1).2.2.1) (by decide +kernel) rfl)⟩
theorem fX7_22 : Fl RX7 22 7 2 := ⟨RX7, TX7, rfl, by decide, rfl, inG_X7, Or.inl (gw_at (i := 238) (w := Cond.fieldLink RX7 22 RX7 (TX7 2).2.1 (TX7 2).2.2.1) (by decide +kernel) rfl)⟩
theorem fX7_26 : Fl RX7 26 7 3 := ⟨RX7, TX7, rfl, by decide, rfl, inG_X7, Or.inl (gw_at (i := 241) (w := Cond.fieldLink RX7 26 RX7 (TX7 3).2.1 (TX7 3).2.2.1) (by decide +kernel) rfl)⟩
theorem fX7_30 : Fl RX7 30 7 4 := ⟨RX7, TX7, rfl, by decide, rfl, inG_X7, Or.inl (gw_at (i := 245) (w := Cond.fieldLink RX7 30 RX7 (TX7 4).2.1 (TX7 4).2.2.1) (by decide +kernel) rfl)⟩
theorem fX7_33 : Fl RX7 33 7 5 := ⟨RX7, TX7, rfl, by decide, rfl, inG_X7, Or.inl (gw_at (i := 248) (w := Cond.fieldLink RX7 33 RX7 (TX7 5).2.1 (TX7 5).2.2.1) (by decide +kernel) rfl)⟩
theorem fX7_36 : Fl RX7 36 7 6 := ⟨RX7, TX7, rfl, by decide, rfl, inG_X7, Or.inl (gw_at (i := 252) (w := Cond.fieldLink RX7 36 RX7 (TX7 6).2.1 (TX7 6).2.2.1) (by decide +kernel) rfl)⟩
theorem fX7_39 : Fl RX7 39 7 7 := ⟨RX7, TX7, rfl, by decide, rfl, inG_X7, Or.inl (gw_at (i := 256) (w := Cond.fieldLink RX7 39 RX7 (TX7 7).2.1 (TX7 7).2.2.1) (by decide +kernel) rfl)⟩
theorem kX7_17 : KlI RX7 17 mX3_init 0 := ⟨⟨Or.inr ⟨"LastRest", nw_at (i := 165) (w := Cond.methodLinkNest RX7 17 mX3_init.2.1 "LastRest") (by decide +kernel) rfl⟩, gw_at (i := 100) (by decide +kernel) rfl, gw_at (i := 167) (by decide +kernel) rfl, ⟨by decide +kernel, by decide +kernel, by decide +kernel⟩, by decide⟩, gw_at (i := 166) (by decide +kernel) rfl, by decide +kernel, rfl⟩
theorem kX7_48 : KlV RX7 48 mX3_become 1 3 := ⟨⟨Or.inr ⟨"LastRest", nw_at (i := 517) (w := Cond.methodLinkNest RX7 48 mX3_become.2.1 "LastRest") (by decide +kernel) rfl⟩, gw_at (i := 100) (by decide +kernel) rfl, gw_at (i := 520) (by decide +kernel) rfl, ⟨by decide +kernel, by decide +kernel, by decide +kernel⟩, by decide⟩, gw_at (i := 519) (by decide +kernel) rfl, gw_at (i := 20) (by decide +kernel) rfl, TX3, rfl⟩
theorem kX7_52 : KlV RX7 52 mX3_walkLeg 1 3 := ⟨⟨Or.inr ⟨"LastRest", nw_at (i := 551) (w := Cond.methodLinkNest RX7 52 mX3_walkLeg.2.1 "LastRest") (by decide +kernel) rfl⟩, gw_at (i := 100) (by decide +kernel) rfl, gw_at (i := 554) (by decide +kernel) rfl, ⟨by decide +kernel, by decide +kernel, by decide +kernel⟩, by decide⟩, gw_at (i := 553) (by decide +kernel) rfl, gw_at (i := 25) (by decide +kernel) rfl, TX3, rfl⟩
theorem kX7_56 : KlV RX7 56 mX3_leaveGate 2 3 := ⟨⟨Or.inr ⟨"LastRest", nw_at (i := 574) (w := Cond.methodLinkNest RX7 56 mX3_leaveGate.2.1 "LastRest") (by decide +kernel) rfl⟩, gw_at (i := 100) (by decide +kernel) rfl, gw_at (i := 577) (by decide +kernel) rfl, ⟨by decide +kernel, by decide +kernel, by decide +kernel⟩, by decide⟩, gw_at (i := 576) (by decide +kernel) rfl, gw_at (i := 30) (by decide +kernel) rfl, TX3, rfl⟩
theorem fX8_11 : Fl RX8 11 8 0 := ⟨RX8, TX8, rfl, by decide, rfl, inG_X8, Or.inl (gw_at (i := 368) (w := Cond.fieldLink RX8 11 RX8 (TX8 0).2.1 (TX8 0).2.2.1) (by decide +kernel) rfl)⟩
theorem fX8_18 : Fl RX8 18 8 1 := ⟨RX8, TX8, rfl, by decide, rfl, inG_X8, Or.inl (gw_at (i := 369) (w := Cond.fieldLink RX8 18 RX8 (TX8 1).2.1 (TX8 1).2.2.1) (by decide +kernel) rfl)⟩
theorem fX8_25 : Fl RX8 25 8 2 := ⟨RX8, TX8, rfl, by decide, rfl, inG_X8, Or.inl (gw_at (i := 370) (w := Cond.fieldLink RX8 25 RX8 (TX8 2).2.1 (TX8 2).2.2.1) (by decide +kernel) rfl)⟩
theorem fX8_29 : Fl RX8 29 8 3 := ⟨RX8, TX8, rfl, by decide, rfl, inG_X8, Or.inl (gw_at (i := 371) (w := Cond.fieldLink RX8 29 RX8 (TX8 3).2.1 (TX8 3).2.2.1) (by decide +kernel) rfl)⟩
theorem fX8_32 : Fl RX8 32 8 4 := ⟨RX8, TX8, rfl, by decide, rfl, inG_X8, Or.inl (gw_at (i := 372) (w := Cond.fieldLink RX8 32 RX8 (TX8 4).2.1 (TX8 4).2.2.1) (by decide +kernel) rfl)⟩
theorem fX8_39 : Fl RX8 39 8 5 := ⟨RX8, TX8, rfl, by decide, rfl, inG_X8, Or.inl (gw_at (i := 373) (w := Cond.fieldLink RX8 39 RX8 (TX8 5).2.1 (TX8 5).2.2.1) (by decide +kernel) rfl)⟩
theorem fX8_46 : Fl RX8 46 8 6 := ⟨RX8, TX8, rfl, by decide, rfl, inG_X8, Or.inl (gw_at (i := 374) (w := Cond.fieldLink RX8 46 RX8 (TX8 6).2.1 (TX8 6).2.2.1) (by decide +kernel) rfl)⟩
theorem fX8_53 : Fl RX8 53 8 7 := ⟨RX8, TX8, rfl, by decide, rfl, inG_X8, Or.inl (gw_at (i := 375) (w := Cond.fieldLink RX8 53 RX8 (TX8 7).2.1 (TX8 7).2.2.1) (by decide +kernel) rfl)⟩
theorem fX8_74 : Fl RX8 74 5 1 := ⟨RX5, TX5, rfl, by decide, rfl, inG_X5, Or.inr ⟨"LastRest", nw_at (i := 354) (w := Cond.fieldLinkNest RX8 74 RX5 (TX5 1).2.1 (TX5 1).2.2.1 "LastRest") (by decide +kernel) rfl⟩⟩
theorem fX8_78 : Fl RX8 78 5 3 := ⟨RX5, TX5, rfl, by decide, rfl, inG_X5, Or.inr ⟨"LastRest", nw_at (i := 358) (w := Cond.fieldLinkNest RX8 78 RX5 (TX5 3).2.1 (TX5 3).2.2.1 "LastRest") (by decide +kernel) rfl⟩⟩
theorem fX8_86 : Fl RX8 86 5 2 := ⟨RX5, TX5, rfl, by decide, rfl, inG_X5, Or.inr ⟨"LastRest", nw_at (i := 356) (w := Cond.fieldLinkNest RX8 86 RX5 (TX5 2).2.1 (TX5 2).2.2.1 "LastRest") (by decide +kernel) rfl⟩⟩
theorem fX8_92 : Fl RX8 92 5 0 := ⟨RX5, TX5, rfl, by decide, rfl, inG_X5, Or.inr ⟨"LastRest", nw_at (i := 351) (w := Cond.fieldLinkNest RX8 92 RX5 (TX5 0).2.1 (TX5 0).2.2.1 "LastRest") (by decide +kernel) rfl⟩⟩
theorem fX8_102 : Fl RX8 102 4 1 := ⟨RX4, TX4, rfl, by decide, rfl, inG_X4, Or.inr ⟨"LastRest", nw_at (i := 127) (w := Cond.fieldLinkNest RX8 102 RX4 (TX4 1).2.1 (TX4 1).2.2.1 "LastRest") (by decide +kernel) rfl⟩⟩
theorem fX8_114 : Fl RX8 114 4 7 := ⟨RX4, TX4, rfl, by decide, rfl, inG_X4, Or.inr ⟨"LastRest", nw_at (i := 133) (w := Cond.fieldLinkNest RX8 114 RX4 (TX4 7).2.1 (TX4 7).2.2.1 "LastRest") (by decide +kernel) rfl⟩⟩
theorem fX8_124 : Fl RX8 124 7 1 := ⟨RX7, TX7, rfl, by decide, rfl, inG_X7, Or.inr ⟨"LastRest", nw_at (i := 237) (w := Cond.fieldLinkNest RX8 124 RX7 (TX7 1).2.1 (TX7 1).2.2.1 "LastRest") (by decide +kernel) rfl⟩⟩
theorem fX8_128 : Fl RX8 128 3 1 := ⟨RX3, TX3, rfl, by decide, rfl, inG_X3, Or.inr ⟨"LastRest", nw_at (i := 219) (w := Cond.fieldLinkNest RX8 128 RX3 (TX3 1).2.1 (TX3 1).2.2.1 "LastRest") (by decide +kernel) rfl⟩⟩
theorem fX8_131 : Fl RX8 131 4 8 := ⟨RX4, TX4, rfl, by decide, rfl, inG_X4, Or.inr ⟨"LastRest", nw_at (i := 136) (w := Cond.fieldLinkNest RX8 131 RX4 (TX4 8).2.1 (TX4 8).2.2.1 "LastRest") (by decide +kernel) rfl⟩⟩
theorem fX8_134 : Fl RX8 134 7 2 := ⟨RX7, TX7, rfl, by decide, rfl, inG_X7, Or.inr ⟨"LastRest", nw_at (i := 240) (w := Cond.fieldLinkNest RX8 134 RX7 (TX7 2).2.1 (TX7 2).2.2.1 "LastRest") (by decide +kernel) rfl⟩⟩
theorem fX8_137 : Fl RX8 137 7 4 := ⟨RX7, TX7, rfl, by decide, rfl, inG_X7, Or.inr ⟨"LastRest", nw_at (i := 247) (w := Cond.fieldLinkNest RX8 137 RX7 (TX7 4).2.1 (TX7 4).2.2.1 "LastRest") (by decide +kernel) rfl⟩⟩
theorem fX8_140 : Fl RX8 140 7 3 := ⟨RX7, TX7, rfl, by decide, rfl, inG_X7, Or.inr ⟨"LastRest", nw_at (i := 244) (w := Cond.fieldLinkNest RX8 140 RX7 (TX7 3).2.1 (TX7 3).2.2.1 "LastRest") (by decide +kernel) rfl⟩⟩
theorem fX8_147 : Fl RX8 147 7 5 := ⟨RX7, TX7, rfl, by decide, rfl, inG_X7, Or.inr ⟨"LastRest", nw_at (i := 250) (w := Cond.fieldLinkNest RX8 147 RX7 (TX7 5).2.1 (TX7 5).2.2.1 "LastRest") (by decide +kernel) rfl⟩⟩
theorem fX8_150 : Fl RX8 150 7 6 := ⟨RX7, TX7, rfl, by decide, rfl, inG_X7, Or.inr ⟨"LastRest", nw_at (i := 254) (w := Cond.fieldLinkNest RX8 150 RX7 (TX7 6).2.1 (TX7 6).2.2.1 "LastRest") (by decide +kernel) rfl⟩⟩
theorem fX8_161 : Fl RX8 161 3 0 := ⟨RX3, TX3, rfl, by decide, rfl, inG_X3, Or.inr ⟨"LastRest", nw_at (i := 216) (w := Cond.fieldLinkNest RX8 161 RX3 (TX3 0).2.1 (TX3 0).2.2.1 "LastRest") (by decide +kernel) rfl⟩⟩
theorem fX8_165 : Fl RX8 165 6 2 := ⟨RX6, TX6, rfl, by decide, rfl, inG_X6, Or.inr ⟨"LastRest", nw_at (i := 183) (w := Cond.fieldLinkNest RX8 165 RX6 (TX6 2).2.1 (TX6 2).2.2.1 "LastRest") (by decide +kernel) rfl⟩⟩
theorem fX8_170 : Fl RX8 170 0 2 := ⟨RX0, TX0, rfl, by decide, rfl, inG_X0, Or.inr ⟨"LastRest", nw_at (i := 288) (w := Cond.fieldLinkNest RX8 170 RX0 (TX0 2).2.1 (TX0 2).2.2.1 "LastRest") (by decide +kernel) rfl⟩⟩
theorem fX8_174 : Fl RX8 174 6 1 := ⟨RX6, TX6, rfl, by decide, rfl, inG_X6, Or.inr ⟨"LastRest", nw_at (i := 181) (w := Cond.fieldLinkNest RX8 174 RX6 (TX6 1).2.1 (TX6 1).2.2.1 "LastRest") (by decide +kernel) rfl⟩⟩
theorem fX8_177 : Fl RX8 177 6 3 := ⟨RX6, TX6, rfl, by decide, rfl, inG_X6, Or.inr ⟨"LastRest", nw_at (i := 188) (w := Cond.fieldLinkNest RX8 177 RX6 (TX6 3).2.1 (TX6 3).2.2.1 "LastRest") (by decide +kernel) rfl⟩⟩
theorem fX8_180 : Fl RX8 180 6 4 := ⟨RX6, TX6, rfl, by decide, rfl, inG_X6, Or.inr ⟨"LastRest", nw_at (i := 192) (w := Cond.fieldLinkNest RX8 180 RX6 (TX6 4).2.1 (TX6 4).2.2.1 "LastRest") (by decide +kernel) rfl⟩⟩
theorem fX8_183 : Fl RX8 183 6 5 := ⟨RX6, TX6, rfl, by decide, rfl, inG_X6, Or.inr ⟨"LastRest", nw_at (i := 194) (w := Cond.fieldLinkNest RX8 183 RX6 (TX6 5).2.1 (TX6 5).2.2.1 "LastRest") (by decide +kernel) rfl⟩⟩
theorem fX8_186 : Fl RX8 186 7 0 := ⟨RX7, TX7, rfl, by decide, rfl, inG_X7, Or.inr ⟨"LastRest", nw_at (i := 232) (w := Cond.fieldLinkNest RX8 186 RX7 (TX7 0).2.1 (TX7 0).2.2.1 "LastRest") (by decide +kernel) rfl⟩⟩
theorem fX8_200 : Fl RX8 200 2 0 := ⟨RX2, TX2, rfl, by decide, rfl, inG_X2, Or.inr ⟨"LastRest", nw_at (i := 305) (w := Cond.fieldLinkNest RX8 200 RX2 (TX2 0).2.1 (TX2 0).2.2.1 "LastRest") (by decide +kernel) rfl⟩⟩
theorem fX8_213 : Fl RX8 213 2 5 := ⟨RX2, TX2, rfl, by decide, rfl, inG_X2, Or.inr ⟨"LastRest", nw_at (i := 312) (w := Cond.fieldLinkNest RX8 213 RX2 (TX2 5).2.1 (TX2 5).2.2.1 "LastRest") (by decide +kernel) rfl⟩⟩
theorem fX8_216 : Fl RX8 216 2 4 := ⟨RX2, TX2, rfl, by decide, rfl, inG_X2, Or.inr ⟨"LastRest", nw_at (i := 310) (w := Cond.fieldLinkNest RX8 216 RX2 (TX2 4).2.1 (TX2 4).2.2.1 "LastRest") (by decide +kernel) rfl⟩⟩
theorem fX8_222 : Fl RX8 222 2 6 := ⟨RX2, TX2, rfl, by decide, rfl, inG_X2, Or.inr ⟨"LastRest", nw_at (i := 314) (w := Cond.fieldLinkNest RX8 222 RX2 (TX2 6).2.1 (TX2 6).2.2.1 "LastRest") (by decide +kernel) rfl⟩⟩
theorem fX8_233 : Fl RX8 233 6 0 := ⟨RX6, TX6, rfl, by decide, rfl, inG_X6, Or.inr ⟨"LastRest", nw_at (i := 178) (w := Cond.fieldLinkNest RX8 233 RX6 (TX6 0).2.1 (TX6 0).2.2.1 "LastRest") (by decide +kernel) rfl⟩⟩
theorem fX8_243 : Fl RX8 243 1 1 := ⟨RX1, TX1, rfl, by decide, rfl, inG_X1, Or.inr ⟨"LastRest", nw_at (i := 339) (w := Cond.fieldLinkNest RX8 243 RX1 (TX1 1).2.1 (TX1 1).2.2.1 "LastRest") (by decide +kernel) rfl⟩⟩
theorem fX8_244 : Fl RX8 244 1 0 := ⟨RX1, TX1, rfl, by decide, rfl, inG_X1, Or.inr ⟨"LastRest", nw_at (i := 337) (w := Cond.fieldLinkNest RX8 244 RX1 (TX1 0).2.1 (TX1 0).2.2.1 "LastRest") (by decide +kernel) rfl⟩⟩
theorem fX8_251 : Fl RX8 251 7 7 := ⟨RX7, TX7, rfl, by decide, rfl, inG_X7, Or.inr ⟨"LastRest", nw_at (i := 259) (w := Cond.fieldLinkNest RX8 251 RX7 (TX7 7).2.1 (TX7 7).2.2.1 "LastRest") (by decide +kernel) rfl⟩⟩
theorem fX8_254 : Fl RX8 254 8 8 := ⟨RX8, TX8, rfl, by decide, rfl, inG_X8, Or.inl (gw_at (i := 376) (w := Cond.fieldLink RX8 254 RX8 (TX8 8).2.1 (TX8 8).2.2.1) (by decide +kernel) rfl)⟩
theorem kX8_17 : KlI RX8 17 mX4_init 0 := ⟨⟨Or.inr ⟨"LastRest", nw_at (i := 121) (w := Cond.methodLinkNest RX8 17 mX4_init.2.1 "LastRest") (by decide +kernel) rfl⟩, gw_at (i := 98) (by decide +kernel) rfl, gw_at (i := 123) (by decide +kernel) rfl, ⟨by decide +kernel, by decide +kernel, by decide +kernel⟩, by decide⟩, gw_at (i := 122) (by decide +kernel) rfl, by decide +kernel, rfl⟩
theorem kX8_24 : KlI RX8 24 mX7_init 0 := ⟨⟨Or.inr ⟨"LastRest", nw_at (i := 159) (w := Cond.methodLinkNest RX8 24 mX7_init.2.1 "LastRest") (by decide +kernel) rfl⟩, gw_at (i := 99) (by decide +kernel) rfl, gw_at (i := 161) (by decide +kernel) rfl, ⟨by decide +kernel, by decide +kernel, by decide +kernel⟩, by decide⟩, gw_at (i := 160) (by decide +kernel) rfl, by decide +kernel, rfl⟩
theorem kX8_38 : KlI RX8 38 mX0_init 0 := ⟨⟨Or.inr ⟨"LastRest", nw_at (i := 280) (w := Cond.methodLinkNest RX8 38 mX0_init.2.1 "LastRest") (by decide +kernel) rfl⟩, gw_at (i := 102) (by decide +kernel) rfl, gw_at (i := 282) (by decide +kernel) rfl, ⟨by decide +kernel, by decide +kernel, by decide +kernel⟩, by decide⟩, gw_at (i := 281) (by decide +kernel) rfl, by decide +kernel, rfl⟩
theorem kX8_45 : KlI RX8 45 mX2_init 0 := ⟨⟨Or.inr ⟨"LastRest", nw_at (i := 298) (w := Cond.methodLinkNest RX8 45 mX2_init.2.1 "LastRest") (by decide +kernel) rfl⟩, gw_at (i := 103) (by decide +kernel) rfl, gw_at (i := 300) (by decide +kernel) rfl, ⟨by decide +kernel, by decide +kernel, by decide +kernel⟩, by decide⟩, gw_at (i := 299) (by decide +kernel) rfl, by decide +kernel, rfl⟩
theorem kX8_52 : KlI RX8 52 mX1_init 0 := ⟨⟨Or.inr ⟨"LastRest", nw_at (i := 332) (w := Cond.methodLinkNest RX8 52 mX1_init.2.1 "LastRest") (by decide +kernel) rfl⟩, gw_at (i := 104) (by decide +kernel) rfl, gw_at (i := 334) (by decide +kernel) rfl, ⟨by decide +kernel, by decide +kernel, by decide +kernel⟩, by decide⟩, gw_at (i := 333) (by decide +kernel) rfl, by decide +kernel, rfl⟩
theorem kX8_57 : KlI RX8 57 mX5_init 0 := ⟨⟨Or.inr ⟨"LastRest", nw_at (i := 346) (w := Cond.methodLinkNest RX8 57 mX5_init.2.1 "LastRest") (by decide +kernel) rfl⟩, gw_at (i := 105) (by decide +kernel) rfl, gw_at (i := 348) (by decide +kernel) rfl, ⟨by decide +kernel, by decide +kernel, by decide +kernel⟩, by decide⟩, gw_at (i := 347) (by decide +kernel) rfl, by decide +kernel, rfl⟩
theorem kX8_58 : KlS RX8 58 mX8_isBelow 2 := ⟨⟨Or.inl (gw_at (i := 400) (w := Cond.methodLink RX8 58 mX8_isBelow.2.1) (by decide +kernel) rfl), gw_at (i := 97) (by decide +kernel) rfl, gw_at (i := 402) (by decide +kernel) rfl, ⟨by decide +kernel, by decide +kernel, by decide +kernel⟩, by decide⟩, gw_at (i := 401) (by decide +kernel) rfl⟩
theorem kX8_193 : KlS RX8 193 mX6_mendedBy 1 := ⟨⟨Or.inr ⟨"LastRest", nw_at (i := 631) (w := Cond.methodLinkNest RX8 193 mX6_mendedBy.2.1 "LastRest") (by decide +kernel) rfl⟩, gw_at (i := 101) (by decide +kernel) rfl, gw_at (i := 596) (by decide +kernel) rfl, ⟨by decide +kernel, by decide +kernel, by decide +kernel⟩, by decide⟩, gw_at (i := 595) (by decide +kernel) rfl⟩
theorem kX8_236 : KlS RX8 236 mX1_isSuch 2 := ⟨⟨Or.inr ⟨"LastRest", nw_at (i := 769) (w := Cond.methodLinkNest RX8 236 mX1_isSuch.2.1 "LastRest") (by decide +kernel) rfl⟩, gw_at (i := 104) (by decide +kernel) rfl, gw_at (i := 771) (by decide +kernel) rfl, ⟨by decide +kernel, by decide +kernel, by decide +kernel⟩, by decide⟩, gw_at (i := 770) (by decide +kernel) rfl⟩
theorem kX8_63 : KlV RX8 63 mX8_found 1 8 := ⟨⟨Or.inl (gw_at (i := 404) (w := Cond.methodLink RX8 63 mX8_found.2.1) (by decide +kernel) rfl), gw_at (i := 97) (by decide +kernel) rfl, gw_at (i := 407) (by decide +kernel) rfl, ⟨by decide +kernel, by decide +kernel, by decide +kernel⟩, by decide⟩, gw_at (i := 406) (by decide +kernel) rfl, gw_at (i := 0) (by decide +kernel) rfl, TX8, rfl⟩
theorem kX8_67 : KlV RX8 67 mX5_make 2 5 := ⟨⟨Or.inr ⟨"LastRest", nw_at (i := 409) (w := Cond.methodLinkNest RX8 67 mX5_make.2.1 "LastRest") (by decide +kernel) rfl⟩, gw_at (i := 105) (by decide +kernel) rfl, gw_at (i := 412) (by decide +kernel) rfl, ⟨by decide +kernel, by decide +kernel, by decide +kernel⟩, by decide⟩, gw_at (i := 411) (by decide +kernel) rfl, gw_at (i := 1) (by decide +kernel) rfl, TX5, rfl⟩
theorem kX8_71 : KlV RX8 71 mX8_foundNothing 1 8 := ⟨⟨Or.inl (gw_at (i := 413) (w := Cond.methodLink RX8 71 mX8_foundNothing.2.1) (by decide +kernel) rfl), gw_at (i := 97) (by decide +kernel) rfl, gw_at (i := 416) (by decide +kernel) rfl, ⟨by decide +kernel, by decide +kernel, by decide +kernel⟩, by decide⟩, gw_at (i := 415) (by decide +kernel) rfl, gw_at (i := 2) (by decide +kernel) rfl, TX8, rfl⟩
theorem kX8_82 : KlV RX8 82 mX5_put 2 5 := ⟨⟨Or.inr ⟨"LastRest", nw_at (i := 421) (w := Cond.methodLinkNest RX8 82 mX5_put.2.1 "LastRest") (by decide +kernel) rfl⟩, gw_at (i := 105) (by decide +kernel) rfl, gw_at (i := 424) (by decide +kernel) rfl, ⟨by decide +kernel, by decide +kernel, by decide +kernel⟩, by decide⟩, gw_at (i := 423) (by decide +kernel) rfl, gw_at (i := 3) (by decide +kernel) rfl, TX5, rfl⟩
theorem kX8_89 : KlV RX8 89 mX5_holds 2 5 := ⟨⟨Or.inr ⟨"LastRest", nw_at (i := 433) (w := Cond.methodLinkNest RX8 89 mX5_holds.2.1 "LastRest") (by decide +kernel) rfl⟩, gw_at (i := 105) (by decide +kernel) rfl, gw_at (i := 436) (by decide +kernel) rfl, ⟨by decide +kernel, by decide +kernel, by decide +kernel⟩, by decide⟩, gw_at (i := 435) (by decide +kernel) rfl, gw_at (i := 5) (by decide +kernel) rfl, TX5, rfl⟩
theorem kX8_106 : KlV RX8 106 mX4_append 1 4 := ⟨⟨Or.inr ⟨"LastRest", nw_at (i := 449) (w := Cond.methodLinkNest RX8 106 mX4_append.2.1 "LastRest") (by decide +kernel) rfl⟩, gw_at (i := 98) (by decide +kernel) rfl, gw_at (i := 452) (by decide +kernel) rfl, ⟨by decide +kernel, by decide +kernel, by decide +kernel⟩, by decide⟩, gw_at (i := 451) (by decide +kernel) rfl, gw_at (i := 6) (by decide +kernel) rfl, TX4, rfl⟩
theorem kX8_109 : KlV RX8 109 mX4_readInto 1 4 := ⟨⟨Or.inr ⟨"LastRest", nw_at (i := 457) (w := Cond.methodLinkNest RX8 109 mX4_readInto.2.1 "LastRest") (by decide +kernel) rfl⟩, gw_at (i := 98) (by decide +kernel) rfl, gw_at (i := 460) (by decide +kernel) rfl, ⟨by decide +kernel, by decide +kernel, by decide +kernel⟩, by decide⟩, gw_at (i := 459) (by decide +kernel) rfl, gw_at (i := 7) (by decide +kernel) rfl, TX4, rfl⟩
theorem kX8_117 : KlV RX8 117 mX7_become 1 7 := ⟨⟨Or.inr ⟨"LastRest", nw_at (i := 512) (w := Cond.methodLinkNest RX8 117 mX7_become.2.1 "LastRest") (by decide +kernel) rfl⟩, gw_at (i := 99) (by decide +kernel) rfl, gw_at (i := 515) (by decide +kernel) rfl, ⟨by decide +kernel, by decide +kernel, by decide +kernel⟩, by decide⟩, gw_at (i := 514) (by decide +kernel) rfl, gw_at (i := 19) (by decide +kernel) rfl, TX7, rfl⟩
theorem kX8_121 : KlV RX8 121 mX0_forget 0 0 := ⟨⟨Or.inr ⟨"LastRest", nw_at (i := 525) (w := Cond.methodLinkNest RX8 121 mX0_forget.2.1 "LastRest") (by decide +kernel) rfl⟩, gw_at (i := 102) (by decide +kernel) rfl, gw_at (i := 528) (by decide +kernel) rfl, ⟨by decide +kernel, by decide +kernel, by decide +kernel⟩, by decide⟩, gw_at (i := 527) (by decide +kernel) rfl, gw_at (i := 22) (by decide +kernel) rfl, TX0, rfl⟩
theorem kX8_144 : KlV RX8 144 mX0_keep 1 0 := ⟨⟨Or.inr ⟨"LastRest", nw_at (i := 538) (w := Cond.methodLinkNest RX8 144 mX0_keep.2.1 "LastRest") (by decide +kernel) rfl⟩, gw_at (i := 102) (by decide +kernel) rfl, gw_at (i := 541) (by decide +kernel) rfl, ⟨by decide +kernel, by decide +kernel, by decide +kernel⟩, by decide⟩, gw_at (i := 540) (by decide +kernel) rfl, gw_at (i := 23) (by decide +kernel) rfl, TX0, rfl⟩
theorem kX8_153 : KlV RX8 153 mX7_move 4 7 := ⟨⟨Or.inr ⟨"LastRest", nw_at (i := 547) (w := Cond.methodLinkNest RX8 153 mX7_move.2.1 "LastRest") (by decide +kernel) rfl⟩, gw_at (i := 99) (by decide +kernel) rfl, gw_at (i := 550) (by decide +kernel) rfl, ⟨by decide +kernel, by decide +kernel, by decide +kernel⟩, by decide⟩, gw_at (i := 549) (by decide +kernel) rfl, gw_at (i := 24) (by decide +kernel) rfl, TX7, rfl⟩
theorem kX8_157 : KlV RX8 157 mX8_isWalker 1 8 := ⟨⟨Or.inl (gw_at (i := 605) (w := Cond.methodLink RX8 157 mX8_isWalker.2.1) (by decide +kernel) rfl), gw_at (i := 97) (by decide +kernel) rfl, gw_at (i := 608) (by decide +kernel) rfl, ⟨by decide +kernel, by decide +kernel, by decide +kernel⟩, by decide⟩, gw_at (i := 607) (by decide +kernel) rfl, gw_at (i := 34) (by decide +kernel) rfl, TX8, rfl⟩
theorem kX8_171 : KlV RX8 171 mX0_takeBack 1 0 := ⟨⟨Or.inr ⟨"LastRest", nw_at (i := 613) (w := Cond.methodLinkNest RX8 171 mX0_takeBack.2.1 "LastRest") (by decide +kernel) rfl⟩, gw_at (i := 102) (by decide +kernel) rfl, gw_at (i := 616) (by decide +kernel) rfl, ⟨by decide +kernel, by decide +kernel, by decide +kernel⟩, by decide⟩, gw_at (i := 615) (by decide +kernel) rfl, gw_at (i := 35) (by decide +kernel) rfl, TX0, rfl⟩
theorem kX8_189 : KlV RX8 189 mX6_minutesFor 1 6 := ⟨⟨Or.inr ⟨"LastRest", nw_at (i := 621) (w := Cond.methodLinkNest RX8 189 mX6_minutesFor.2.1 "LastRest") (by decide +kernel) rfl⟩, gw_at (i := 101) (by decide +kernel) rfl, gw_at (i := 566) (by decide +kernel) rfl, ⟨by decide +kernel, by decide +kernel, by decide +kernel⟩, by decide⟩, gw_at (i := 565) (by decide +kernel) rfl, gw_at (i := 28) (by decide +kernel) rfl, TX6, rfl⟩
theorem kX8_196 : KlV RX8 196 mX2_walkToHut 3 2 := ⟨⟨Or.inr ⟨"LastRest", nw_at (i := 636) (w := Cond.methodLinkNest RX8 196 mX2_walkToHut.2.1 "LastRest") (by decide +kernel) rfl⟩, gw_at (i := 103) (by decide +kernel) rfl, gw_at (i := 639) (by decide +kernel) rfl, ⟨by decide +kernel, by decide +kernel, by decide +kernel⟩, by decide⟩, gw_at (i := 638) (by decide +kernel) rfl, gw_at (i := 36) (by decide +kernel) rfl, TX2, rfl⟩
theorem kX8_201 : KlV RX8 201 mX2_findSoonest 1 2 := ⟨⟨Or.inr ⟨"LastRest", nw_at (i := 658) (w := Cond.methodLinkNest RX8 201 mX2_findSoonest.2.1 "LastRest") (by decide +kernel) rfl⟩, gw_at (i := 103) (by decide +kernel) rfl, gw_at (i := 661) (by decide +kernel) rfl, ⟨by decide +kernel, by decide +kernel, by decide +kernel⟩, by decide⟩, gw_at (i := 660) (by decide +kernel) rfl, gw_at (i := 39) (by decide +kernel) rfl, TX2, rfl⟩
theorem kX8_204 : KlV RX8 204 mX2_bestRule 1 2 := ⟨⟨Or.inr ⟨"LastRest", nw_at (i := 675) (w := Cond.methodLinkNest RX8 204 mX2_bestRule.2.1 "LastRest") (by decide +kernel) rfl⟩, gw_at (i := 103) (by decide +kernel) rfl, gw_at (i := 678) (by decide +kernel) rfl, ⟨by decide +kernel, by decide +kernel, by decide +kernel⟩, by decide⟩, gw_at (i := 677) (by decide +kernel) rfl, gw_at (i := 42) (by decide +kernel) rfl, TX2, rfl⟩
theorem kX8_207 : KlV RX8 207 mX2_findFair 1 2 := ⟨⟨Or.inr ⟨"LastRest", nw_at (i := 687) (w := Cond.methodLinkNest RX8 207 mX2_findFair.2.1 "LastRest") (by decide +kernel) rfl⟩, gw_at (i := 103) (by decide +kernel) rfl, gw_at (i := 690) (by decide +kernel) rfl, ⟨by decide +kernel, by decide +kernel, by decide +kernel⟩, by decide⟩, gw_at (i := 689) (by decide +kernel) rfl, gw_at (i := 43) (by decide +kernel) rfl, TX2, rfl⟩
theorem kX8_210 : KlV RX8 210 mX2_findSacks 1 2 := ⟨⟨Or.inr ⟨"LastRest", nw_at (i := 701) (w := Cond.methodLinkNest RX8 210 mX2_findSacks.2.1 "LastRest") (by decide +kernel) rfl⟩, gw_at (i := 103) (by decide +kernel) rfl, gw_at (i := 704) (by decide +kernel) rfl, ⟨by decide +kernel, by decide +kernel, by decide +kernel⟩, by decide⟩, gw_at (i := 703) (by decide +kernel) rfl, gw_at (i := 45) (by decide +kernel) rfl, TX2, rfl⟩
theorem kX8_219 : KlV RX8 219 mX2_findParties 1 2 := ⟨⟨Or.inr ⟨"LastRest", nw_at (i := 718) (w := Cond.methodLinkNest RX8 219 mX2_findParties.2.1 "LastRest") (by decide +kernel) rfl⟩, gw_at (i := 103) (by decide +kernel) rfl, gw_at (i := 721) (by decide +kernel) rfl, ⟨by decide +kernel, by decide +kernel, by decide +kernel⟩, by decide⟩, gw_at (i := 720) (by decide +kernel) rfl, gw_at (i := 48) (by decide +kernel) rfl, TX2, rfl⟩
theorem kX8_225 : KlV RX8 225 mX2_lastTurn 1 2 := ⟨⟨Or.inr ⟨"LastRest", nw_at (i := 730) (w := Cond.methodLinkNest RX8 225 mX2_lastTurn.2.1 "LastRest") (by decide +kernel) rfl⟩, gw_at (i := 103) (by decide +kernel) rfl, gw_at (i := 733) (by decide +kernel) rfl, ⟨by decide +kernel, by decide +kernel, by decide +kernel⟩, by decide⟩, gw_at (i := 732) (by decide +kernel) rfl, gw_at (i := 50) (by decide +kernel) rfl, TX2, rfl⟩
theorem kX8_229 : KlV RX8 229 mX2_findFits 5 2 := ⟨⟨Or.inr ⟨"LastRest", nw_at (i := 745) (w := Cond.methodLinkNest RX8 229 mX2_findFits.2.1 "LastRest") (by decide +kernel) rfl⟩, gw_at (i := 103) (by decide +kernel) rfl, gw_at (i := 748) (by decide +kernel) rfl, ⟨by decide +kernel, by decide +kernel, by decide +kernel⟩, by decide⟩, gw_at (i := 747) (by decide +kernel) rfl, gw_at (i := 52) (by decide +kernel) rfl, TX2, rfl⟩
theorem kX8_239 : KlV RX8 239 mX1_answer 3 1 := ⟨⟨Or.inr ⟨"LastRest", nw_at (i := 778) (w := Cond.methodLinkNest RX8 239 mX1_answer.2.1 "LastRest") (by decide +kernel) rfl⟩, gw_at (i := 104) (by decide +kernel) rfl, gw_at (i := 781) (by decide +kernel) rfl, ⟨by decide +kernel, by decide +kernel, by decide +kernel⟩, by decide⟩, gw_at (i := 780) (by decide +kernel) rfl, gw_at (i := 54) (by decide +kernel) rfl, TX1, rfl⟩
theorem kX8_247 : KlV RX8 247 mX8_countRows 0 8 := ⟨⟨Or.inl (gw_at (i := 813) (w := Cond.methodLink RX8 247 mX8_countRows.2.1) (by decide +kernel) rfl), gw_at (i := 97) (by decide +kernel) rfl, gw_at (i := 816) (by decide +kernel) rfl, ⟨by decide +kernel, by decide +kernel, by decide +kernel⟩, by decide⟩, gw_at (i := 815) (by decide +kernel) rfl, gw_at (i := 59) (by decide +kernel) rfl, TX8, rfl⟩
theorem kX8_62 : Cond.constant RX8 62 (-1000001) ∈ gw := gw_at (i := 403) (by decide +kernel) rfl
theorem kX8_105 : Cond.constant RX8 105 (-1000003) ∈ gw := gw_at (i := 448) (by decide +kernel) rfl
theorem kX8_113 : Cond.constant RX8 113 (-1000100) ∈ gw := gw_at (i := 511) (by decide +kernel) rfl
theorem kX8_143 : Cond.constant RX8 143 (-1000002) ∈ gw := gw_at (i := 537) (by decide +kernel) rfl
theorem kX8_192 : Cond.constant RX8 192 (-1000000) ∈ gw := gw_at (i := 622) (by decide +kernel) rfl
theorem kX8_257 : Cond.constant RX8 257 (-1000010) ∈ gw := gw_at (i := 408) (by decide +kernel) rfl
theorem fX9_7 : Fl RX9 7 9 0 := ⟨RX9, TX9, rfl, by decide, rfl, inG_X9, Or.inl (gw_at (i := 827) (w := Cond.fieldLink RX9 7 RX9 (TX9 0).2.1 (TX9 0).2.2.1) (by decide +kernel) rfl)⟩
theorem fX9_13 : Fl RX9 13 9 1 := ⟨RX9, TX9, rfl, by decide, rfl, inG_X9, Or.inl (gw_at (i := 828) (w := Cond.fieldLink RX9 13 RX9 (TX9 1).2.1 (TX9 1).2.2.1) (by decide +kernel) rfl)⟩
theorem fX9_16 : Fl RX9 16 9 2 := ⟨RX9, TX9, rfl, by decide, rfl, inG_X9, Or.inl (gw_at (i := 829) (w := Cond.fieldLink RX9 16 RX9 (TX9 2).2.1 (TX9 2).2.2.1) (by decide +kernel) rfl)⟩
theorem fX9_19 : Fl RX9 19 9 5 := ⟨RX9, TX9, rfl, by decide, rfl, inG_X9, Or.inl (gw_at (i := 832) (w := Cond.fieldLink RX9 19 RX9 (TX9 5).2.1 (TX9 5).2.2.1) (by decide +kernel) rfl)⟩
theorem fX9_22 : Fl RX9 22 9 6 := ⟨RX9, TX9, rfl, by decide, rfl, inG_X9, Or.inl (gw_at (i := 833) (w := Cond.fieldLink RX9 22 RX9 (TX9 6).2.1 (TX9 6).2.2.1) (by decide +kernel) rfl)⟩
theorem fX9_25 : Fl RX9 25 9 7 := ⟨RX9, TX9, rfl, by decide, rfl, inG_X9, Or.inl (gw_at (i := 834) (w := Cond.fieldLink RX9 25 RX9 (TX9 7).2.1 (TX9 7).2.2.1) (by decide +kernel) rfl)⟩
theorem fX9_28 : Fl RX9 28 9 15 := ⟨RX9, TX9, rfl, by decide, rfl, inG_X9, Or.inl (gw_at (i := 842) (w := Cond.fieldLink RX9 28 RX9 (TX9 15).2.1 (TX9 15).2.2.1) (by decide +kernel) rfl)⟩
theorem fX9_31 : Fl RX9 31 9 17 := ⟨RX9, TX9, rfl, by decide, rfl, inG_X9, Or.inl (gw_at (i := 844) (w := Cond.fieldLink RX9 31 RX9 (TX9 17).2.1 (TX9 17).2.2.1) (by decide +kernel) rfl)⟩
theorem fX9_34 : Fl RX9 34 9 19 := ⟨RX9, TX9, rfl, by decide, rfl, inG_X9, Or.inl (gw_at (i := 846) (w := Cond.fieldLink RX9 34 RX9 (TX9 19).2.1 (TX9 19).2.2.1) (by decide +kernel) rfl)⟩
theorem fX9_37 : Fl RX9 37 9 20 := ⟨RX9, TX9, rfl, by decide, rfl, inG_X9, Or.inl (gw_at (i := 847) (w := Cond.fieldLink RX9 37 RX9 (TX9 20).2.1 (TX9 20).2.2.1) (by decide +kernel) rfl)⟩
theorem fX9_40 : Fl RX9 40 9 21 := ⟨RX9, TX9, rfl, by decide, rfl, inG_X9, Or.inl (gw_at (i := 848) (w := Cond.fieldLink RX9 40 RX9 (TX9 21).2.1 (TX9 21).2.2.1) (by decide +kernel) rfl)⟩
theorem fX9_43 : Fl RX9 43 9 22 := ⟨RX9, TX9, rfl, by decide, rfl, inG_X9, Or.inl (gw_at (i := 849) (w := Cond.fieldLink RX9 43 RX9 (TX9 22).2.1 (TX9 22).2.2.1) (by decide +kernel) rfl)⟩
theorem fX9_46 : Fl RX9 46 9 23 := ⟨RX9, TX9, rfl, by decide, rfl, inG_X9, Or.inl (gw_at (i := 850) (w := Cond.fieldLink RX9 46 RX9 (TX9 23).2.1 (TX9 23).2.2.1) (by decide +kernel) rfl)⟩
theorem fX9_49 : Fl RX9 49 9 24 := ⟨RX9, TX9, rfl, by decide, rfl, inG_X9, Or.inl (gw_at (i := 851) (w := Cond.fieldLink RX9 49 RX9 (TX9 24).2.1 (TX9 24).2.2.1) (by decide +kernel) rfl)⟩
theorem fX9_53 : Fl RX9 53 9 25 := ⟨RX9, TX9, rfl, by decide, rfl, inG_X9, Or.inl (gw_at (i := 852) (w := Cond.fieldLink RX9 53 RX9 (TX9 25).2.1 (TX9 25).2.2.1) (by decide +kernel) rfl)⟩
theorem fX9_56 : Fl RX9 56 9 26 := ⟨RX9, TX9, rfl, by decide, rfl, inG_X9, Or.inl (gw_at (i := 853) (w := Cond.fieldLink RX9 56 RX9 (TX9 26).2.1 (TX9 26).2.2.1) (by decide +kernel) rfl)⟩
theorem fX9_59 : Fl RX9 59 9 3 := ⟨RX9, TX9, rfl, by decide, rfl, inG_X9, Or.inl (gw_at (i := 830) (w := Cond.fieldLink RX9 59 RX9 (TX9 3).2.1 (TX9 3).2.2.1) (by decide +kernel) rfl)⟩
theorem fX9_90 : Fl RX9 90 9 8 := ⟨RX9, TX9, rfl, by decide, rfl, inG_X9, Or.inl (gw_at (i := 835) (w := Cond.fieldLink RX9 90 RX9 (TX9 8).2.1 (TX9 8).2.2.1) (by decide +kernel) rfl)⟩
theorem fX9_98 : Fl RX9 98 9 10 := ⟨RX9, TX9, rfl, by decide, rfl, inG_X9, Or.inl (gw_at (i := 837) (w := Cond.fieldLink RX9 98 RX9 (TX9 10).2.1 (TX9 10).2.2.1) (by decide +kernel) rfl)⟩
theorem fX9_101 : Fl RX9 101 9 13 := ⟨RX9, TX9, rfl, by decide, rfl, inG_X9, Or.inl (gw_at (i := 840) (w := Cond.fieldLink RX9 101 RX9 (TX9 13).2.1 (TX9 13).2.2.1) (by decide +kernel) rfl)⟩
theorem fX9_104 : Fl RX9 104 9 11 := ⟨RX9, TX9, rfl, by decide, rfl, inG_X9, Or.inl (gw_at (i := 838) (w := Cond.fieldLink RX9 104 RX9 (TX9 11).2.1 (TX9 11).2.2.1) (by decide +kernel) rfl)⟩
theorem fX9_107 : Fl RX9 107 9 12 := ⟨RX9, TX9, rfl, by decide, rfl, inG_X9, Or.inl (gw_at (i := 839) (w := Cond.fieldLink RX9 107 RX9 (TX9 12).2.1 (TX9 12).2.2.1) (by decide +kernel) rfl)⟩
theorem fX9_117 : Fl RX9 117 9 14 := ⟨RX9, TX9, rfl, by decide, rfl, inG_X9, Or.inl (gw_at (i := 841) (w := Cond.fieldLink RX9 117 RX9 (TX9 14).2.1 (TX9 14).2.2.1) (by decide +kernel) rfl)⟩
theorem fX9_150 : Fl RX9 150 9 9 := ⟨RX9, TX9, rfl, by decide, rfl, inG_X9, Or.inl (gw_at (i := 836) (w := Cond.fieldLink RX9 150 RX9 (TX9 9).2.1 (TX9 9).2.2.1) (by decide +kernel) rfl)⟩
theorem fX9_154 : Fl RX9 154 9 4 := ⟨RX9, TX9, rfl, by decide, rfl, inG_X9, Or.inl (gw_at (i := 831) (w := Cond.fieldLink RX9 154 RX9 (TX9 4).2.1 (TX9 4).2.2.1) (by decide +kernel) rfl)⟩
theorem fX9_158 : Fl RX9 158 9 18 := ⟨RX9, TX9, rfl, by decide, rfl, inG_X9, Or.inl (gw_at (i := 845) (w := Cond.fieldLink RX9 158 RX9 (TX9 18).2.1 (TX9 18).2.2.1) (by decide +kernel) rfl)⟩
theorem fX9_161 : Fl RX9 161 9 16 := ⟨RX9, TX9, rfl, by decide, rfl, inG_X9, Or.inl (gw_at (i := 843) (w := Cond.fieldLink RX9 161 RX9 (TX9 16).2.1 (TX9 16).2.2.1) (by decide +kernel) rfl)⟩
theorem fX9_242 : Fl RX9 242 9 27 := ⟨RX9, TX9, rfl, by decide, rfl, inG_X9, Or.inl (gw_at (i := 854) (w := Cond.fieldLink RX9 242 RX9 (TX9 27).2.1 (TX9 27).2.2.1) (by decide +kernel) rfl)⟩
theorem kX9_66 : KlS RX9 66 mX9_in 3 := ⟨⟨Or.inl (gw_at (i := 921) (w := Cond.methodLink RX9 66 mX9_in.2.1) (by decide +kernel) rfl), gw_at (i := 106) (by decide +kernel) rfl, gw_at (i := 923) (by decide +kernel) rfl, ⟨by decide +kernel, by decide +kernel, by decide +kernel⟩, by decide⟩, gw_at (i := 922) (by decide +kernel) rfl⟩
theorem kX9_70 : KlS RX9 70 mX9_isRow 1 := ⟨⟨Or.inl (gw_at (i := 917) (w := Cond.methodLink RX9 70 mX9_isRow.2.1) (by decide +kernel) rfl), gw_at (i := 106) (by decide +kernel) rfl, gw_at (i := 919) (by decide +kernel) rfl, ⟨by decide +kernel, by decide +kernel, by decide +kernel⟩, by decide⟩, gw_at (i := 918) (by decide +kernel) rfl⟩
theorem kX9_84 : KlS RX9 84 mX9_asLane 2 := ⟨⟨Or.inl (gw_at (i := 939) (w := Cond.methodLink RX9 84 mX9_asLane.2.1) (by decide +kernel) rfl), gw_at (i := 106) (by decide +kernel) rfl, gw_at (i := 941) (by decide +kernel) rfl, ⟨by decide +kernel, by decide +kernel, by decide +kernel⟩, by decide⟩, gw_at (i := 940) (by decide +kernel) rfl⟩
theorem kX9_114 : KlS RX9 114 mX9_isSign 1 := ⟨⟨Or.inl (gw_at (i := 970) (w := Cond.methodLink RX9 114 mX9_isSign.2.1) (by decide +kernel) rfl), gw_at (i := 106) (by decide +kernel) rfl, gw_at (i := 972) (by decide +kernel) rfl, ⟨by decide +kernel, by decide +kernel, by decide +kernel⟩, by decide⟩, gw_at (i := 971) (by decide +kernel) rfl⟩
theorem kX9_164 : KlS RX9 164 mX9_has 2 := ⟨⟨Or.inl (gw_at (i := 1033) (w := Cond.methodLink RX9 164 mX9_has.2.1) (by decide +kernel) rfl), gw_at (i := 106) (by decide +kernel) rfl, gw_at (i := 1035) (by decide +kernel) rfl, ⟨by decide +kernel, by decide +kernel, by decide +kernel⟩, by decide⟩, gw_at (i := 1034) (by decide +kernel) rfl⟩
theorem kX9_173 : KlS RX9 173 mX9_mendBy 1 := ⟨⟨Or.inl (gw_at (i := 1044) (w := Cond.methodLink RX9 173 mX9_mendBy.2.1) (by decide +kernel) rfl), gw_at (i := 106) (by decide +kernel) rfl, gw_at (i := 1046) (by decide +kernel) rfl, ⟨by decide +kernel, by decide +kernel, by decide +kernel⟩, by decide⟩, gw_at (i := 1045) (by decide +kernel) rfl⟩
theorem kX9_239 : KlS RX9 239 mX9_isKind 2 := ⟨⟨Or.inl (gw_at (i := 1170) (w := Cond.methodLink RX9 239 mX9_isKind.2.1) (by decide +kernel) rfl), gw_at (i := 106) (by decide +kernel) rfl, gw_at (i := 1172) (by decide +kernel) rfl, ⟨by decide +kernel, by decide +kernel, by decide +kernel⟩, by decide⟩, gw_at (i := 1171) (by decide +kernel) rfl⟩
theorem kX9_77 : KlV RX9 77 mX9_find 1 9 := ⟨⟨Or.inl (gw_at (i := 926) (w := Cond.methodLink RX9 77 mX9_find.2.1) (by decide +kernel) rfl), gw_at (i := 106) (by decide +kernel) rfl, gw_at (i := 929) (by decide +kernel) rfl, ⟨by decide +kernel, by decide +kernel, by decide +kernel⟩, by decide⟩, gw_at (i := 928) (by decide +kernel) rfl, gw_at (i := 60) (by decide +kernel) rfl, TX9, rfl⟩
theorem kX9_81 : KlV RX9 81 mX9_well 1 9 := ⟨⟨Or.inl (gw_at (i := 931) (w := Cond.methodLink RX9 81 mX9_well.2.1) (by decide +kernel) rfl), gw_at (i := 106) (by decide +kernel) rfl, gw_at (i := 934) (by decide +kernel) rfl, ⟨by decide +kernel, by decide +kernel, by decide +kernel⟩, by decide⟩, gw_at (i := 933) (by decide +kernel) rfl, gw_at (i := 61) (by decide +kernel) rfl, TX9, rfl⟩
theorem kX9_120 : KlV RX9 120 mX9_faults 1 9 := ⟨⟨Or.inl (gw_at (i := 983) (w := Cond.methodLink RX9 120 mX9_faults.2.1) (by decide +kernel) rfl), gw_at (i := 106) (by decide +kernel) rfl, gw_at (i := 986) (by decide +kernel) rfl, ⟨by decide +kernel, by decide +kernel, by decide +kernel⟩, by decide⟩, gw_at (i := 985) (by decide +kernel) rfl, gw_at (i := 66) (by decide +kernel) rfl, TX9, rfl⟩
theorem kX9_123 : KlV RX9 123 mX9_nextToken 0 9 := ⟨⟨Or.inl (gw_at (i := 964) (w := Cond.methodLink RX9 123 mX9_nextToken.2.1) (by decide +kernel) rfl), gw_at (i := 106) (by decide +kernel) rfl, gw_at (i := 967) (by decide +kernel) rfl, ⟨by decide +kernel, by decide +kernel, by decide +kernel⟩, by decide⟩, gw_at (i := 966) (by decide +kernel) rfl, gw_at (i := 63) (by decide +kernel) rfl, TX9, rfl⟩
theorem kX9_126 : KlV RX9 126 mX9_takes 1 9 := ⟨⟨Or.inl (gw_at (i := 979) (w := Cond.methodLink RX9 126 mX9_takes.2.1) (by decide +kernel) rfl), gw_at (i := 106) (by decide +kernel) rfl, gw_at (i := 982) (by decide +kernel) rfl, ⟨by decide +kernel, by decide +kernel, by decide +kernel⟩, by decide⟩, gw_at (i := 981) (by decide +kernel) rfl, gw_at (i := 65) (by decide +kernel) rfl, TX9, rfl⟩
theorem kX9_129 : KlV RX9 129 mX9_isNumber 2 9 := ⟨⟨Or.inl (gw_at (i := 987) (w := Cond.methodLink RX9 129 mX9_isNumber.2.1) (by decide +kernel) rfl), gw_at (i := 106) (by decide +kernel) rfl, gw_at (i := 990) (by decide +kernel) rfl, ⟨by decide +kernel, by decide +kernel, by decide +kernel⟩, by decide⟩, gw_at (i := 989) (by decide +kernel) rfl, gw_at (i := 67) (by decide +kernel) rfl, TX9, rfl⟩
theorem kX9_133 : KlV RX9 133 mX9_taken 0 9 := ⟨⟨Or.inl (gw_at (i := 991) (w := Cond.methodLink RX9 133 mX9_taken.2.1) (by decide +kernel) rfl), gw_at (i := 106) (by decide +kernel) rfl, gw_at (i := 994) (by decide +kernel) rfl, ⟨by decide +kernel, by decide +kernel, by decide +kernel⟩, by decide⟩, gw_at (i := 993) (by decide +kernel) rfl, gw_at (i := 68) (by decide +kernel) rfl, TX9, rfl⟩
theorem kX9_137 : KlV RX9 137 mX9_readLegs 0 9 := ⟨⟨Or.inl (gw_at (i := 975) (w := Cond.methodLink RX9 137 mX9_readLegs.2.1) (by decide +kernel) rfl), gw_at (i := 106) (by decide +kernel) rfl, gw_at (i := 978) (by decide +kernel) rfl, ⟨by decide +kernel, by decide +kernel, by decide +kernel⟩, by decide⟩, gw_at (i := 977) (by decide +kernel) rfl, gw_at (i := 64) (by decide +kernel) rfl, TX9, rfl⟩
theorem kX9_141 : KlV RX9 141 mX9_readRule 0 9 := ⟨⟨Or.inl (gw_at (i := 995) (w := Cond.methodLink RX9 141 mX9_readRule.2.1) (by decide +kernel) rfl), gw_at (i := 106) (by decide +kernel) rfl, gw_at (i := 998) (by decide +kernel) rfl, ⟨by decide +kernel, by decide +kernel, by decide +kernel⟩, by decide⟩, gw_at (i := 997) (by decide +kernel) rfl, gw_at (i := 69) (by decide +kernel) rfl, TX9, rfl⟩
theorem kX9_144 : KlV RX9 144 mX9_readWalker 0 9 := ⟨⟨Or.inl (gw_at (i := 999) (w := Cond.methodLink RX9 144 mX9_readWalker.2.1) (by decide +kernel) rfl), gw_at (i := 106) (by decide +kernel) rfl, gw_at (i := 1002) (by decide +kernel) rfl, ⟨by decide +kernel, by decide +kernel, by decide +kernel⟩, by decide⟩, gw_at (i := 1001) (by decide +kernel) rfl, gw_at (i := 70) (by decide +kernel) rfl, TX9, rfl⟩
theorem kX9_147 : KlV RX9 147 mX9_readWay 0 9 := ⟨⟨Or.inl (gw_at (i := 960) (w := Cond.methodLink RX9 147 mX9_readWay.2.1) (by decide +kernel) rfl), gw_at (i := 106) (by decide +kernel) rfl, gw_at (i := 963) (by decide +kernel) rfl, ⟨by decide +kernel, by decide +kernel, by decide +kernel⟩, by decide⟩, gw_at (i := 962) (by decide +kernel) rfl, gw_at (i := 62) (by decide +kernel) rfl, TX9, rfl⟩
theorem kX9_167 : KlV RX9 167 mX9_first 0 9 := ⟨⟨Or.inl (gw_at (i := 1029) (w := Cond.methodLink RX9 167 mX9_first.2.1) (by decide +kernel) rfl), gw_at (i := 106) (by decide +kernel) rfl, gw_at (i := 1032) (by decide +kernel) rfl, ⟨by decide +kernel, by decide +kernel, by decide +kernel⟩, by decide⟩, gw_at (i := 1031) (by decide +kernel) rfl, gw_at (i := 75) (by decide +kernel) rfl, TX9, rfl⟩
theorem kX9_170 : KlV RX9 170 mX9_takesFor 2 9 := ⟨⟨Or.inl (gw_at (i := 1036) (w := Cond.methodLink RX9 170 mX9_takesFor.2.1) (by decide +kernel) rfl), gw_at (i := 106) (by decide +kernel) rfl, gw_at (i := 1039) (by decide +kernel) rfl, ⟨by decide +kernel, by decide +kernel, by decide +kernel⟩, by decide⟩, gw_at (i := 1038) (by decide +kernel) rfl, gw_at (i := 76) (by decide +kernel) rfl, TX9, rfl⟩
theorem kX9_176 : KlV RX9 176 mX9_walk 1 9 := ⟨⟨Or.inl (gw_at (i := 1025) (w := Cond.methodLink RX9 176 mX9_walk.2.1) (by decide +kernel) rfl), gw_at (i := 106) (by decide +kernel) rfl, gw_at (i := 1028) (by decide +kernel) rfl, ⟨by decide +kernel, by decide +kernel, by decide +kernel⟩, by decide⟩, gw_at (i := 1027) (by decide +kernel) rfl, gw_at (i := 74) (by decide +kernel) rfl, TX9, rfl⟩
theorem kX9_180 : KlV RX9 180 mX9_leave 0 9 := ⟨⟨Or.inl (gw_at (i := 1040) (w := Cond.methodLink RX9 180 mX9_leave.2.1) (by decide +kernel) rfl), gw_at (i := 106) (by decide +kernel) rfl, gw_at (i := 1043) (by decide +kernel) rfl, ⟨by decide +kernel, by decide +kernel, by decide +kernel⟩, by decide⟩, gw_at (i := 1042) (by decide +kernel) rfl, gw_at (i := 77) (by decide +kernel) rfl, TX9, rfl⟩
theorem kX9_184 : KlV RX9 184 mX9_note 0 9 := ⟨⟨Or.inl (gw_at (i := 1013) (w := Cond.methodLink RX9 184 mX9_note.2.1) (by decide +kernel) rfl), gw_at (i := 106) (by decide +kernel) rfl, gw_at (i := 1016) (by decide +kernel) rfl, ⟨by decide +kernel, by decide +kernel, by decide +kernel⟩, by decide⟩, gw_at (i := 1015) (by decide +kernel) rfl, gw_at (i := 71) (by decide +kernel) rfl, TX9, rfl⟩
theorem kX9_187 : KlV RX9 187 mX9_all 0 9 := ⟨⟨Or.inl (gw_at (i := 1017) (w := Cond.methodLink RX9 187 mX9_all.2.1) (by decide +kernel) rfl), gw_at (i := 106) (by decide +kernel) rfl, gw_at (i := 1020) (by decide +kernel) rfl, ⟨by decide +kernel, by decide +kernel, by decide +kernel⟩, by decide⟩, gw_at (i := 1019) (by decide +kernel) rfl, gw_at (i := 72) (by decide +kernel) rfl, TX9, rfl⟩
theorem kX9_190 : KlV RX9 190 mX9_goOn 0 9 := ⟨⟨Or.inl (gw_at (i := 1021) (w := Cond.methodLink RX9 190 mX9_goOn.2.1) (by decide +kernel) rfl), gw_at (i := 106) (by decide +kernel) rfl, gw_at (i := 1024) (by decide +kernel) rfl, ⟨by decide +kernel, by decide +kernel, by decide +kernel⟩, by decide⟩, gw_at (i := 1023) (by decide +kernel) rfl, gw_at (i := 73) (by decide +kernel) rfl, TX9, rfl⟩
theorem kX9_197 : KlV RX9 197 mX9_isWalker 1 9 := ⟨⟨Or.inl (gw_at (i := 1057) (w := Cond.methodLink RX9 197 mX9_isWalker.2.1) (by decide +kernel) rfl), gw_at (i := 106) (by decide +kernel) rfl, gw_at (i := 1060) (by decide +kernel) rfl, ⟨by decide +kernel, by decide +kernel, by decide +kernel⟩, by decide⟩, gw_at (i := 1059) (by decide +kernel) rfl, gw_at (i := 78) (by decide +kernel) rfl, TX9, rfl⟩
theorem kX9_203 : KlV RX9 203 mX9_putAside 0 9 := ⟨⟨Or.inl (gw_at (i := 1083) (w := Cond.methodLink RX9 203 mX9_putAside.2.1) (by decide +kernel) rfl), gw_at (i := 106) (by decide +kernel) rfl, gw_at (i := 1086) (by decide +kernel) rfl, ⟨by decide +kernel, by decide +kernel, by decide +kernel⟩, by decide⟩, gw_at (i := 1085) (by decide +kernel) rfl, gw_at (i := 79) (by decide +kernel) rfl, TX9, rfl⟩
theorem kX9_206 : KlV RX9 206 mX9_toHut 1 9 := ⟨⟨Or.inl (gw_at (i := 1087) (w := Cond.methodLink RX9 206 mX9_toHut.2.1) (by decide +kernel) rfl), gw_at (i := 106) (by decide +kernel) rfl, gw_at (i := 1090) (by decide +kernel) rfl, ⟨by decide +kernel, by decide +kernel, by decide +kernel⟩, by decide⟩, gw_at (i := 1089) (by decide +kernel) rfl, gw_at (i := 80) (by decide +kernel) rfl, TX9, rfl⟩
theorem kX9_209 : KlV RX9 209 mX9_takeBack 0 9 := ⟨⟨Or.inl (gw_at (i := 1091) (w := Cond.methodLink RX9 209 mX9_takeBack.2.1) (by decide +kernel) rfl), gw_at (i := 106) (by decide +kernel) rfl, gw_at (i := 1094) (by decide +kernel) rfl, ⟨by decide +kernel, by decide +kernel, by decide +kernel⟩, by decide⟩, gw_at (i := 1093) (by decide +kernel) rfl, gw_at (i := 81) (by decide +kernel) rfl, TX9, rfl⟩
theorem kX9_212 : KlV RX9 212 mX9_tryAll 2 9 := ⟨⟨Or.inl (gw_at (i := 1099) (w := Cond.methodLink RX9 212 mX9_tryAll.2.1) (by decide +kernel) rfl), gw_at (i := 106) (by decide +kernel) rfl, gw_at (i := 1102) (by decide +kernel) rfl, ⟨by decide +kernel, by decide +kernel, by decide +kernel⟩, by decide⟩, gw_at (i := 1101) (by decide +kernel) rfl, gw_at (i := 82) (by decide +kernel) rfl, TX9, rfl⟩
theorem kX9_215 : KlV RX9 215 mX9_findThen 3 9 := ⟨⟨Or.inl (gw_at (i := 1111) (w := Cond.methodLink RX9 215 mX9_findThen.2.1) (by decide +kernel) rfl), gw_at (i := 106) (by decide +kernel) rfl, gw_at (i := 1114) (by decide +kernel) rfl, ⟨by decide +kernel, by decide +kernel, by decide +kernel⟩, by decide⟩, gw_at (i := 1113) (by decide +kernel) rfl, gw_at (i := 83) (by decide +kernel) rfl, TX9, rfl⟩
theorem kX9_219 : KlV RX9 219 mX9_exchange 2 9 := ⟨⟨Or.inl (gw_at (i := 1128) (w := Cond.methodLink RX9 219 mX9_exchange.2.1) (by decide +kernel) rfl), gw_at (i := 106) (by decide +kernel) rfl, gw_at (i := 1131) (by decide +kernel) rfl, ⟨by decide +kernel, by decide +kernel, by decide +kernel⟩, by decide⟩, gw_at (i := 1130) (by decide +kernel) rfl, gw_at (i := 85) (by decide +kernel) rfl, TX9, rfl⟩
theorem kX9_225 : KlV RX9 225 mX9_nextRow 1 9 := ⟨⟨Or.inl (gw_at (i := 1124) (w := Cond.methodLink RX9 225 mX9_nextRow.2.1) (by decide +kernel) rfl), gw_at (i := 106) (by decide +kernel) rfl, gw_at (i := 1127) (by decide +kernel) rfl, ⟨by decide +kernel, by decide +kernel, by decide +kernel⟩, by decide⟩, gw_at (i := 1126) (by decide +kernel) rfl, gw_at (i := 84) (by decide +kernel) rfl, TX9, rfl⟩
theorem kX9_228 : KlV RX9 228 mX9_isBack 0 9 := ⟨⟨Or.inl (gw_at (i := 1140) (w := Cond.methodLink RX9 228 mX9_isBack.2.1) (by decide +kernel) rfl), gw_at (i := 106) (by decide +kernel) rfl, gw_at (i := 1143) (by decide +kernel) rfl, ⟨by decide +kernel, by decide +kernel, by decide +kernel⟩, by decide⟩, gw_at (i := 1142) (by decide +kernel) rfl, gw_at (i := 86) (by decide +kernel) rfl, TX9, rfl⟩
theorem kX9_233 : KlV RX9 233 mX9_fitsBy 5 9 := ⟨⟨Or.inl (gw_at (i := 1149) (w := Cond.methodLink RX9 233 mX9_fitsBy.2.1) (by decide +kernel) rfl), gw_at (i := 106) (by decide +kernel) rfl, gw_at (i := 1152) (by decide +kernel) rfl, ⟨by decide +kernel, by decide +kernel, by decide +kernel⟩, by decide⟩, gw_at (i := 1151) (by decide +kernel) rfl, gw_at (i := 87) (by decide +kernel) rfl, TX9, rfl⟩
theorem kX9_245 : KlV RX9 245 mX9_begin 1 9 := ⟨⟨Or.inl (gw_at (i := 1181) (w := Cond.methodLink RX9 245 mX9_begin.2.1) (by decide +kernel) rfl), gw_at (i := 106) (by decide +kernel) rfl, gw_at (i := 1184) (by decide +kernel) rfl, ⟨by decide +kernel, by decide +kernel, by decide +kernel⟩, by decide⟩, gw_at (i := 1183) (by decide +kernel) rfl, gw_at (i := 89) (by decide +kernel) rfl, TX9, rfl⟩
theorem kX9_248 : KlV RX9 248 mX9_lent 2 9 := ⟨⟨Or.inl (gw_at (i := 1189) (w := Cond.methodLink RX9 248 mX9_lent.2.1) (by decide +kernel) rfl), gw_at (i := 106) (by decide +kernel) rfl, gw_at (i := 1192) (by decide +kernel) rfl, ⟨by decide +kernel, by decide +kernel, by decide +kernel⟩, by decide⟩, gw_at (i := 1191) (by decide +kernel) rfl, gw_at (i := 91) (by decide +kernel) rfl, TX9, rfl⟩
theorem kX9_251 : KlV RX9 251 mX9_oldSize 1 9 := ⟨⟨Or.inl (gw_at (i := 1205) (w := Cond.methodLink RX9 251 mX9_oldSize.2.1) (by decide +kernel) rfl), gw_at (i := 106) (by decide +kernel) rfl, gw_at (i := 1208) (by decide +kernel) rfl, ⟨by decide +kernel, by decide +kernel, by decide +kernel⟩, by decide⟩, gw_at (i := 1207) (by decide +kernel) rfl, gw_at (i := 95) (by decide +kernel) rfl, TX9, rfl⟩
theorem kX9_254 : KlV RX9 254 mX9_steadyMark 1 9 := ⟨⟨Or.inl (gw_at (i := 1197) (w := Cond.methodLink RX9 254 mX9_steadyMark.2.1) (by decide +kernel) rfl), gw_at (i := 106) (by decide +kernel) rfl, gw_at (i := 1200) (by decide +kernel) rfl, ⟨by decide +kernel, by decide +kernel, by decide +kernel⟩, by decide⟩, gw_at (i := 1199) (by decide +kernel) rfl, gw_at (i := 93) (by decide +kernel) rfl, TX9, rfl⟩
theorem kX9_257 : KlV RX9 257 mX9_sizeOfOld 1 9 := ⟨⟨Or.inl (gw_at (i := 1201) (w := Cond.methodLink RX9 257 mX9_sizeOfOld.2.1) (by decide +kernel) rfl), gw_at (i := 106) (by decide +kernel) rfl, gw_at (i := 1204) (by decide +kernel) rfl, ⟨by decide +kernel, by decide +kernel, by decide +kernel⟩, by decide⟩, gw_at (i := 1203) (by decide +kernel) rfl, gw_at (i := 94) (by decide +kernel) rfl, TX9, rfl⟩
theorem kX9_260 : KlV RX9 260 mX9_markOf 1 9 := ⟨⟨Or.inl (gw_at (i := 1193) (w := Cond.methodLink RX9 260 mX9_markOf.2.1) (by decide +kernel) rfl), gw_at (i := 106) (by decide +kernel) rfl, gw_at (i := 1196) (by decide +kernel) rfl, ⟨by decide +kernel, by decide +kernel, by decide +kernel⟩, by decide⟩, gw_at (i := 1195) (by decide +kernel) rfl, gw_at (i := 92) (by decide +kernel) rfl, TX9, rfl⟩
theorem kX9_263 : KlV RX9 263 mX9_steadySize 1 9 := ⟨⟨Or.inl (gw_at (i := 1185) (w := Cond.methodLink RX9 263 mX9_steadySize.2.1) (by decide +kernel) rfl), gw_at (i := 106) (by decide +kernel) rfl, gw_at (i := 1188) (by decide +kernel) rfl, ⟨by decide +kernel, by decide +kernel, by decide +kernel⟩, by decide⟩, gw_at (i := 1187) (by decide +kernel) rfl, gw_at (i := 90) (by decide +kernel) rfl, TX9, rfl⟩
theorem kX9_266 : KlV RX9 266 mX9_sizeOf 1 9 := ⟨⟨Or.inl (gw_at (i := 1177) (w := Cond.methodLink RX9 266 mX9_sizeOf.2.1) (by decide +kernel) rfl), gw_at (i := 106) (by decide +kernel) rfl, gw_at (i := 1180) (by decide +kernel) rfl, ⟨by decide +kernel, by decide +kernel, by decide +kernel⟩, by decide⟩, gw_at (i := 1179) (by decide +kernel) rfl, gw_at (i := 88) (by decide +kernel) rfl, TX9, rfl⟩
theorem kX9_63 : Cond.constant RX9 63 (-1000010) ∈ gw := gw_at (i := 930) (by decide +kernel) rfl
theorem kX9_76 : Cond.constant RX9 76 (-1000001) ∈ gw := gw_at (i := 925) (by decide +kernel) rfl
theorem kX9_93 : Cond.constant RX9 93 (-1000003) ∈ gw := gw_at (i := 955) (by decide +kernel) rfl
theorem kX9_153 : Cond.constant RX9 153 (-1000100) ∈ gw := gw_at (i := 1003) (by decide +kernel) rfl
theorem kX9_183 : Cond.constant RX9 183 (-1000002) ∈ gw := gw_at (i := 1012) (by decide +kernel) rfl
theorem kX9_200 : Cond.constant RX9 200 (-1000000) ∈ gw := gw_at (i := 1069) (by decide +kernel) rfl
theorem kX9_64 : Cond.constantLong RX9 64 (7) ∈ gw := gw_at (i := 920) (by decide +kernel) rfl
theorem kX9_74 : Cond.constantLong RX9 74 (2) ∈ gw := gw_at (i := 924) (by decide +kernel) rfl
theorem kX9_88 : Cond.constantLong RX9 88 (255) ∈ gw := gw_at (i := 954) (by decide +kernel) rfl
theorem kX9_94 : Cond.constantLong RX9 94 (97) ∈ gw := gw_at (i := 973) (by decide +kernel) rfl
theorem kX9_96 : Cond.constantLong RX9 96 (122) ∈ gw := gw_at (i := 974) (by decide +kernel) rfl
theorem kX9_110 : Cond.constantLong RX9 110 (48) ∈ gw := gw_at (i := 968) (by decide +kernel) rfl
theorem kX9_112 : Cond.constantLong RX9 112 (57) ∈ gw := gw_at (i := 969) (by decide +kernel) rfl
theorem kX9_193 : Cond.constantLong RX9 193 (3) ∈ gw := gw_at (i := 1051) (by decide +kernel) rfl
theorem kX9_195 : Cond.constantLong RX9 195 (30) ∈ gw := gw_at (i := 1052) (by decide +kernel) rfl
theorem kX9_201 : Cond.constantLong RX9 201 (999) ∈ gw := gw_at (i := 1078) (by decide +kernel) rfl
theorem kX9_223 : Cond.constantLong RX9 223 (-1) ∈ gw := gw_at (i := 1123) (by decide +kernel) rfl
theorem kX9_231 : Cond.constantLong RX9 231 (8) ∈ gw := gw_at (i := 1148) (by decide +kernel) rfl
theorem kX9_237 : Cond.constantLong RX9 237 (5) ∈ gw := gw_at (i := 1169) (by decide +kernel) rfl
end
section
/-! ROWS: arraycopy, static tables, things made -/
section RM1
variable {X : XT} {G : GG} {M : MD} {lv mc ms N0 : Nat} {cs sl : Nat} {Q : State → Prop} {N : Nat} {sh : SH} {f : MM} {pc : Nat} {ls : List (Option Value)} {st : List Value}
def Kcopy (own : String) (idx : Nat) : Prop := Cond.methodLink own idx arraycopyName ∈ gw ∧ Cond.native arraycopyName ∈ gw ∧ Cond.static arraycopyName ∈ gw ∧ Cond.initialized "java/lang/System" ∈ gw
theorem r_copyi (C : Cx X G M lv mc ms N0) {idx a b na nb : Nat} {sp dp n : Int32} (hw : Kcopy M.1 idx) (hd : decode M.2.2.1 pc = .ok (.invokestatic idx, 3)) (ha : a < N ∧ (sh a).1 = 10) (hna : (sh a).2.1 = na) (hb : b < N ∧ (sh b).1 = 10) (hnb : (sh b).2.1 = nb) (h1 : ¬ sp < 0) (h2 : ¬ dp < 0) (h3 : ¬ n < 0) (h4 : sp.toNatClampNeg + n.toNatClampNeg ≤ na) (h5 : dp.toNatClampNeg + n.toNatClampNeg ≤ nb) (hcs : N = N0 ∧ cs = 0) (hlv : 1 ≤ lv) (hr : (st.map fun v => v.category).sum ≤ 8)
    (K : Vw X G M.2.2.2.1 cs sl Q N sh (va_up f b (va_cpy (f a) (f b) sp.toNatClampNeg dp.toNatClampNeg n.toNatClampNeg)) (pc + 3) ls st) : Vw X G M.2.2.2.1 cs sl Q N sh f pc ls (.int n :: .int dp :: .ref (G.1 + b) :: .int sp :: .ref (G.1 + a) :: st) := by
  intro H locs arr hP hz hS hl
  obtain ⟨w1, w2, w3, w4⟩ := hw
  have Cc := C
  obtain ⟨hx, hbb, hml, hown, hts, ⟨hK, hN⟩, -, -, -, -, hR, hsz⟩ := C
  subst hna; subst hnb
  obtain ⟨rfl, rfl⟩ := hcs
  have ea : (wl G N sh f)[a]? = some (G.1 + a, .inl (G.2.2.1 0, (sh a).2.1, .inl (f a))) := by rw [wl_at ha.1, cel_i ha.2]
  have eb : (wl G N sh f)[b]? = some (G.1 + b, .inl (G.2.2.1 0, (sh b).2.1, .inl (f b))) := by rw [wl_at hb.1, cel_i hb.2]
  refine va_copyi hx hbb (hml.trans hl.1.symm) hown (hts _ w1) (hts _ w2) (hts _ w3) (hts _ w4) hK hP wl_D hS a b 0 0 ea eb (tys_i G) (tys_i G) rfl h1 h2 h3 h4 h5 (fun _ _ => rfl) (by rw [hR]; exact hlv) (by
    rw [hR]
    show _ + (nativeFrameWords "java/lang/System" "arraycopy" 5 + 11) ≤ 64 * lv + 64
    have : nativeFrameWords "java/lang/System" "arraycopy" 5 + 11 ≤ 64 := by decide +kernel
    omega) hd (fun H1 locs1 hP1 _ hS1 => ?_)
  rw [← cel_i (G := G) (q := sh b) hb.2, wl_setf] at hP1
  intro T hT XX
  have g3 : T.heap.size ≤ X.2.2.2.2.1.heap.size + 0 := XX.same.2.2.1
  have g4 := hS1.1
  rw [hT] at g3
  exact K H1 locs1 arr hP1 (by omega) hS1 hl T hT XX
theorem r_gets (C : Cx X G M lv mc ms N0) {idx t : Nat} (ht : t < 3) (hw : Cond.fieldLink M.1 idx RX1 (vz_tabN t) "[I" ∈ gw) (hd : decode M.2.2.1 pc = .ok (.getstatic idx, 3)) (K : Vw X G M.2.2.2.1 cs sl Q N sh f (pc + 3) ls (.ref (G.2.2.2 t) :: st)) : Vw X G M.2.2.2.1 cs sl Q N sh f pc ls st := by
  intro H locs arr hP hz hS hl
  exact va_gets C.1 C.2.1 (C.2.2.2.2.2.2.1 t ht).1 hS C.2.2.2.1 (C.2.2.2.2.1 _ hw) (fun _ h => h) hd (K H locs arr hP hz hS hl)
theorem r_tald (C : Cx X G M lv mc ms N0) {t : Nat} {i : Int32} (ht : t < 3) (hd : decode M.2.2.1 pc = .ok (.iaload, 1)) (hin : vp_in i 6) (K : Vw X G M.2.2.2.1 cs sl Q N sh f (pc + 1) ls (.int (vz_tab t i.toNatClampNeg) :: st)) : Vw X G M.2.2.2.1 cs sl Q N sh f pc ls (.int i :: .ref (G.2.2.2 t) :: st) := by
  intro H locs arr hP hz hS hl
  obtain ⟨cell, h1, h2, h3, h4, h5, h6, h7⟩ := (C.2.2.2.2.2.2.1 t ht).2.kept hS.2.1
  have hlt : i.toNatClampNeg < 6 := Nat.not_le.mp fun q => hin (Or.inr q)
  exact W.iald (v := .int (vz_tab t i.toNatClampNeg)) C.1 C.2.1 h1 h2 h3 (fun q => hin (q.elim Or.inl (fun q => Or.inr (Nat.le_trans h4 q)))) (h6 _ hlt) rfl rfl hd (K H locs arr hP hz hS hl)
theorem r_objInit (C : Cx X G M lv mc ms N0) {idx a : Nat} (h1 : Cond.methodLink M.1 idx Lib.objectInit ∈ gw) (h2 : Cond.instanceMethod Lib.objectInit ∈ gw) (h3 : Cond.code Lib.objectInit ⟨#[0xb1]⟩ 1 none ∈ gw) (hd : decode M.2.2.1 pc = .ok (.invokespecial idx, 3)) (hlv : 1 ≤ lv) (hr : (st.map fun v => v.category).sum ≤ 8) (K : Vw X G M.2.2.2.1 cs sl Q N sh f (pc + 3) ls st) : Vw X G M.2.2.2.1 cs sl Q N sh f pc ls (.ref a :: st) := by
  intro H locs arr hP hz hS hl
  obtain ⟨hx, hbb, hml, hown, hts, ⟨hK, hN⟩, -, -, -, -, hR, hsz⟩ := C
  refine W.objInit hx hbb hown (hts _ h1) (hts _ h2) (hts _ h3) rfl (hl.1.trans hml.symm) rfl hd (by rw [hR]; exact hlv) ?_ (K H locs arr hP hz hS hl)
  have := cat_room (m := X.2.2.2.2.2.1) (pc := pc) (arr := arr) (st := .ref a :: st) hr
  rw [hR]
  show _ ≤ 64 * lv + 64
  omega
end RM1
section RM2
variable {X : XT} {G : GG} {M : MD} {lv mc ms N0 : Nat} {cs sl : Nat} {Q : State → Prop} {N : Nat} {sh : SH} {f : MM} {pc : Nat} {ls : List (Option Value)} {st : List Value}
theorem wl_new {H H1 : Heap} {q : Nat × Nat × (Nat → Option Nat)} {fk : Nat → Int32} (hP : va_P G.2.1 vwCl (wl G N sh f) H) (hz : H.size = G.1 + N) (ho : ∀ q : Nat, q < G.1 + N → H1[q]? = H[q]?) (hc : va_at G.2.1 vwCl (G.1 + N, cel G q fk) H1) : va_P G.2.1 vwCl (wl G (N + 1) (va_up sh N q) (va_up f N fk)) H1 := by
  rw [← wl_push]
  refine va_P.app (hP.kept (fun k x hx => ho x.1 ?_)) (fun k x hx => ?_)
  · have := (hP k x hx).lt
    omega
  · have hz : k < 1 := (List.getElem?_eq_some_iff.mp hx).1
    rw [show k = 0 by omega] at hx
    cases hx
    exact hc
theorem sS_new {H0 H H1 : Heap} {locs : List Loc} (hS : va_S (fun q => G.1 ≤ q) H0 H locs) (hz : H.size = G.1 + N) (hz1 : H1.size = G.1 + N + 1) (ho : ∀ q : Nat, q < G.1 + N → H1[q]? = H[q]?) : va_S (fun q => G.1 ≤ q) H0 H1 locs :=
  ⟨Nat.le_trans hS.1 (by omega), fun x h1 h2 => (ho x (by have := hS.1; omega)).trans (hS.2.1 x h1 h2), hS.2.2⟩
theorem r_new (C : Cx X G M lv mc ms N0) {idx ci : Nat} {Cn : String} {T : u_T} {ty : Nat → FieldType} (h1 : Cond.classLink M.1 idx Cn ∈ gw) (h2 : Cond.instantiable Cn (nfl ci) ∈ gw) (h3 : Cond.initialized Cn ∈ gw) (hcl : vwCl[ci]? = some (Cn, T, nfl ci)) (hin : ∀ w ∈ u_ws Cn T (nfl ci), w ∈ gw) (hty : ∀ k, k < nfl ci → parseFieldDescriptor (T k).2.2.1 = some (ty k)) (hdf : ∀ k, k < nfl ci → defaultValue (ty k) = if rft ci k = true then .null else .int 0) (hd : decode M.2.2.1 pc = .ok (.new idx, 3)) (hc : cs + 1 ≤ mc ∧ sl + nfl ci ≤ ms)
    (K : Vw X G M.2.2.2.1 (cs + 1) (sl + nfl ci) Q (N + 1) (va_up sh N (ci, 0, fun _ => none)) (va_up f N (fun _ => 0)) (pc + 3) ls (.ref (G.1 + N) :: st)) : Vw X G M.2.2.2.1 cs sl Q N sh f pc ls st := by
  intro H locs arr hP hz hS hl
  obtain ⟨hx, hbb, hml, hown, hts, ⟨hK, hN⟩, -, -, -, -, hR, hsz⟩ := C
  have hKn := hK.1 ci _ hcl
  have hcc := cells_ok (mc2 := 1) (ms2 := nfl ci) hR hc
  refine W.newcK hx hbb hown (hts _ h1) (hts _ h2) (hts _ h3) rfl hd hcc.1 hcc.2 hKn.2.1 hz fun H1 kC hkC e1 z1 o1 => ?_
  refine K H1 locs arr (wl_new hP hz o1 ?_) (by rw [z1]; omega) (sS_new hS hz z1 o1) hl
  rw [cel_o rfl (cl_lt hcl)]
  refine ⟨_, hcl, (u_born ty hts hin hKn hkC e1 hty).to (fun j hj => ?_)⟩
  rw [hdf j hj]
  show _ = (fso G ci (fun _ => none) (fun _ => 0)).getD j .null
  rw [List.getD_eq_getElem?_getD, fso_at hj]
  by_cases hr : rft ci j = true
  · simp [hr, va_rf]
  · simp [hr]
theorem r_newi (C : Cx X G M lv mc ms N0) {n : Int32} (Nn : Nat) (hw : Cond.arrayClass .int ∈ gw) (hn : ¬ n < 0) (hN : n.toNatClampNeg = Nn) (hb : Nn ≤ 2000) (hd : decode M.2.2.1 pc = .ok (.newarray .int, 2)) (hc : cs + 1 ≤ mc ∧ sl + Nn ≤ ms)
    (K : Vw X G M.2.2.2.1 (cs + 1) (sl + Nn) Q (N + 1) (va_up sh N (10, Nn, fun _ => none)) (va_up f N (fun _ => 0)) (pc + 2) ls (.ref (G.1 + N) :: st)) : Vw X G M.2.2.2.1 cs sl Q N sh f pc ls (.int n :: st) := by
  intro H locs arr hP hz hS hl
  obtain ⟨hx, hbb, hml, hown, hts, ⟨hK, hN2⟩, -, -, -, -, hR, hsz⟩ := C
  have hcc := cells_ok (mc2 := 1) (ms2 := Nn) hR hc
  refine va_newaK (atype := .int) hx hbb (hts _ hw) rfl hd rfl hn hN (by show Nn * 4 ≤ _; omega) hcc.1 hcc.2 hz fun H1 cA e1 z1 o1 hAr hNm => ?_
  refine K H1 locs arr (wl_new hP hz o1 ?_) (by rw [z1]; omega) (sS_new hS hz z1 o1) hl
  rw [cel_i rfl]
  have hRA := (hK.2 0 _ (tys_i G)).2
  have : cA = G.2.2.1 0 := Option.some.inj (hNm.symm.trans hRA)
  subst this
  exact e1
theorem r_newz (C : Cx X G M lv mc ms N0) {n : Int32} (Nn : Nat) (hw : Cond.arrayClass .boolean ∈ gw) (hn : ¬ n < 0) (hN : n.toNatClampNeg = Nn) (hb : Nn ≤ 2000) (hd : decode M.2.2.1 pc = .ok (.newarray .boolean, 2)) (hc : cs + 1 ≤ mc ∧ sl + Nn ≤ ms)
    (K : Vw X G M.2.2.2.1 (cs + 1) (sl + Nn) Q (N + 1) (va_up sh N (11, Nn, fun _ => none)) (va_up f N (fun _ => 0)) (pc + 2) ls (.ref (G.1 + N) :: st)) : Vw X G M.2.2.2.1 cs sl Q N sh f pc ls (.int n :: st) := by
  intro H locs arr hP hz hS hl
  obtain ⟨hx, hbb, hml, hown, hts, ⟨hK, hN2⟩, -, -, -, -, hR, hsz⟩ := C
  have hcc := cells_ok (mc2 := 1) (ms2 := Nn) hR hc
  refine va_newaK (atype := .boolean) hx hbb (hts _ hw) rfl hd rfl hn hN (by show Nn * 1 ≤ _; omega) hcc.1 hcc.2 hz fun H1 cA e1 z1 o1 hAr hNm => ?_
  refine K H1 locs arr (wl_new hP hz o1 ?_) (by rw [z1]; omega) (sS_new hS hz z1 o1) hl
  rw [cel_z rfl]
  have hRA := (hK.2 1 _ (tys_z G)).2
  have : cA = G.2.2.1 1 := Option.some.inj (hNm.symm.trans hRA)
  subst this
  exact e1
theorem r_anew (C : Cx X G M lv mc ms N0) {idx b : Nat} {Cn : String} {n : Int32} (Nn : Nat) (h1 : Cond.classLink M.1 idx Cn ∈ gw) (h2 : Cond.arrayOver (.object Cn) ∈ gw) (hty : (tysG G)[b + 2]? = some (G.2.2.1 (b + 2), .object Cn)) (hn : ¬ n < 0) (hN : n.toNatClampNeg = Nn) (hb : Nn ≤ 2000) (hd : decode M.2.2.1 pc = .ok (.anewarray idx, 3)) (hc : cs + 1 ≤ mc ∧ sl + Nn ≤ ms)
    (K : Vw X G M.2.2.2.1 (cs + 1) (sl + Nn) Q (N + 1) (va_up sh N (b + 12, Nn, fun _ => none)) (va_up f N (fun _ => 0)) (pc + 3) ls (.ref (G.1 + N) :: st)) : Vw X G M.2.2.2.1 cs sl Q N sh f pc ls (.int n :: st) := by
  intro H locs arr hP hz hS hl
  subst hN
  obtain ⟨hx, hbb, hml, hown, hts, ⟨hK, hN2⟩, -, -, -, -, hR, hsz⟩ := C
  have hcc := cells_ok (mc2 := 1) (ms2 := n.toNatClampNeg) hR hc
  refine W.anew hx hbb hown (hts _ h1) (hts _ h2) rfl hd rfl hn (by omega) hcc.1 hcc.2 fun cA kA comp f1 f2 f3 f4 => ?_
  rw [hz]
  generalize hH1 : H.push ({ cls := cA, slots := Array.replicate n.toNatClampNeg .null, vm := .none } : Cell) = H1
  have z1 : H1.size = G.1 + N + 1 := by rw [← hH1, Array.size_push, hz]
  have e1 : H1[G.1 + N]? = some (arrV cA n.toNatClampNeg (fun _ => .null)) := by rw [← hH1, ← hz, Array.getElem?_push_size, ← arrV_new]
  have o1 : ∀ q : Nat, q < G.1 + N → H1[q]? = H[q]? := fun q hq => by rw [← hH1, Array.getElem?_push, if_neg (by omega)]
  refine K H1 locs arr (wl_new hP hz o1 ?_) (by rw [z1]; omega) (sS_new hS hz z1 o1) hl
  rw [cel_r rfl]
  obtain ⟨kA', comp', r1, r2, r3, r4⟩ := (hK.2 (b + 2) _ hty).2
  have : cA = G.2.2.1 (b + 2) := Option.some.inj (f1.symm.trans r4)
  subst this
  exact e1
theorem r_aast (C : Cx X G M lv mc ms N0) {k n t b ci : Nat} {r : vw_C} {i : Int32} (hd : decode M.2.2.1 pc = .ok (.aastore, 1)) (hk : k < N ∧ (sh k).1 = b + 12) (hn : (sh k).2.1 = n) (hty : (tysG G)[b + 2]? = some (G.2.2.1 (b + 2), .object r.1)) (hin : vp_in i n) (ht : t < N ∧ (sh t).1 = ci) (hcl : vwCl[ci]? = some r)
    (K : Vw X G M.2.2.2.1 cs sl Q N (va_up sh k (b + 12, n, va_up (sh k).2.2 i.toNatClampNeg (some t))) f (pc + 1) ls st) : Vw X G M.2.2.2.1 cs sl Q N sh f pc ls (.ref (G.1 + t) :: .int i :: .ref (G.1 + k) :: st) := by
  intro H locs arr hP hz hS hl
  subst hn
  obtain ⟨hx, hbb, hml, hown, hts, ⟨hK, hN2⟩, -, -, -, -, hR, hsz⟩ := C
  have ha : (wl G N sh f)[k]? = some (G.1 + k, .inl (G.2.2.1 (b + 2), (sh k).2.1, .inr (.inr (.inr (.inr (fun j => ((sh k).2.2 j).map (fun t => G.1 + t))))))) := by rw [wl_at hk.1, cel_r hk.2]
  have hv : (wl G N sh f)[t]? = some (G.1 + t, .inr (ci, fso G ci (sh t).2.2 (f t))) := by rw [wl_at ht.1, cel_o ht.2 (cl_lt hcl)]
  have hlt : i.toNatClampNeg < (sh k).2.1 := Nat.not_le.mp fun q => hin (Or.inr q)
  have h0 : ¬ i < 0 := fun q => hin (Or.inl q)
  obtain ⟨r', hr', cellV, g1, g2, g3, -⟩ := hP t _ hv
  have hcls := (hK.1 ci r hcl).2
  obtain ⟨kA, comp, k1, k2, k3, -⟩ := (hK.2 (b + 2) _ hty).2
  have hcomp : comp = G.2.1.1 ci := Option.some.inj (k3.symm.trans hcls.1)
  subst hcomp
  obtain ⟨kC, hkC, -⟩ := hcls.2
  refine W.aast hx hbb (hP k _ ha) (fun q h => by cases h) (fun h => by cases h) k1 k2 rfl hkC ⟨h0, by show _ < (arrV _ _ _).slots.size; rw [arrV_size]; exact hlt⟩ g1 (fun q h => by rw [g3] at h; cases h) (by rw [g2]; exact hkC) (by rw [g2]; exact va_assign hcls) rfl rfl hd fun H1 e z oq => ?_
  refine K H1 _ arr ?_ (z.trans hz) (hS.put z oq (Nat.le_add_right _ _)) hl
  have hP2 := hP.set wl_D ha (e := .inl (G.2.2.1 (b + 2), (sh k).2.1, .inr (.inr (.inr (.inr (fun j => ((va_up (sh k).2.2 i.toNatClampNeg (some t)) j).map (fun t => G.1 + t))))))) (H1 := H1) (by
    show H1[G.1 + k]? = some (vp_cell _ _)
    rw [e, vp_cell_q, vp_cell_q, arrV_store]
    congr 2
    funext q
    by_cases hq : q = i.toNatClampNeg
    · subst hq
      simp [updV, va_up, va_rf]
    · simp [updV, va_up, hq]) oq
  rw [← cel_r (G := G) (q := (b + 12, (sh k).2.1, va_up (sh k).2.2 i.toNatClampNeg (some t))) (fk := f k) rfl, wl_set] at hP2
  have e2 : va_up f k (f k) = f := by
    funext i
    by_cases h : i = k
    · subst h; simp [va_up]
    · simp [va_up, h]
  rw [e2] at hP2
  exact hP2
theorem r_putF (C : Cx X G M lv mc ms N0) {idx ci j k t : Nat} {ty : FieldType} (hf : Fl M.1 idx ci j) (hft : Ft ci j ty true) (hd : decode M.2.2.1 pc = .ok (.putfield idx, 3)) (hk : k < N ∧ (sh k).1 = ci) (hr : rft ci j = true) (hnm : M.2.1.name = "<init>") (hown2 : ∃ T, vwCl[ci]? = some (M.1, T, nfl ci)) (hpl : ∀ T, vwCl[ci]? = some (M.1, T, nfl ci) → Cond.fieldLink M.1 idx M.1 (T j).2.1 (T j).2.2.1 ∈ gw) (hn : narrow ty (.ref (G.1 + t)) = .ref (G.1 + t)) (hfit : fits ty (.ref (G.1 + t)) = true)
    (K : Vw X G M.2.2.2.1 cs sl Q N (va_up sh k (ci, (sh k).2.1, va_up (sh k).2.2 j (some t))) f (pc + 3) ls st) : Vw X G M.2.2.2.1 cs sl Q N sh f pc ls (.ref (G.1 + t) :: .ref (G.1 + k) :: st) := by
  intro H locs arr hP hz hS hl
  obtain ⟨hx, hb, -, hown, hts, ⟨hK, hNw⟩, -, -, -, hmn, -⟩ := C
  obtain ⟨T, h1⟩ := hown2
  obtain ⟨Cn2, T2, b1, h2, h3, h4, -⟩ := hf
  have e00 := Option.some.inj (b1.symm.trans h1)
  simp only [Prod.mk.injEq] at e00
  obtain ⟨rfl, rfl, -⟩ := e00
  obtain ⟨Cn', T', ty0, g1, hty, hnmm, gt, gf⟩ := hft
  have e0 := Option.some.inj (g1.symm.trans h1)
  simp only [Prod.mk.injEq] at e0
  obtain ⟨rfl, rfl, -⟩ := e0
  have hlk := hpl _ h1
  have he : (wl G N sh f)[k]? = some (G.1 + k, .inr (ci, fso G ci (sh k).2.2 (f k))) := by rw [wl_at hk.1, cel_o hk.2 (cl_lt h1)]
  have hap := va_apart (own := M.1) hts h4 ty0 hty hnmm hK h1
  obtain ⟨r, r1, cell, q1, q2, q3, q4⟩ := hP k _ he
  have hrr : r = _ := Option.some.inj (r1.symm.trans h1)
  subst hrr
  obtain ⟨hSl, hfc, kC, hkC, hkind⟩ := hK.1 ci _ h1
  obtain ⟨cf, kf, fi, fd, hi, hsl⟩ := hSl j h2
  have hlay := hts _ (h4 _ (u_in_lay h2))
  unfold u_lay at hlay
  rw [if_pos gf] at hlay
  have hst := (u_facts hfc hkC (u_lays hts h4 h2) hi).1
  have hcf : X.2.2.2.2.2.1.cls = cf := by
    obtain ⟨_, _, c', _, _, _, -, -, hf', -, -, -, hownn, -⟩ := Cond.laysFinal_spec hlay
    have e1 : c' = cf := by have := hi.symm.trans hf'; simp at this; exact this.1.symm
    rw [h3] at hownn
    rw [← e1]; exact Option.some.inj (hown.symm.trans hownn)
  have h6 := u_fits hfc hkC hkind (Or.inr hlay) hi (by rw [hty j h2, gt]) hn hfit
  refine W.putFinK hx hb hown (hts _ hlk) (by rw [h3] at hi; exact hi) hst hcf (hmn.trans hnm) (by rw [q2]; exact h6) q1 q3 (by rw [hsl]; exact k2_hasslot (q4 j h2)) rfl rfl hd fun H' e1 e2 e3 => ?_
  refine K H' _ arr ?_ (e2.trans hz) (hS.put e2 e3 (Nat.le_add_right _ _)) hl
  rw [hsl] at e1
  have hP2 := hP.set wl_D he (e := .inr (ci, (fso G ci (sh k).2.2 (f k)).set j (.ref (G.1 + t)))) ⟨_, h1, t_OB.to (V := updV (vp_V (fso G ci (sh k).2.2 (f k))) j (.ref (G.1 + t))) ⟨_, e1, q2, q3, t_set q4 hap h2 _⟩ (fun i _ => vp_updV_set (by rw [fso_len]; exact h2) _ i)⟩ e3
  rw [fso_setr hr, ← cel_o (G := G) (q := (ci, (sh k).2.1, va_up (sh k).2.2 j (some t))) (fk := f k) rfl (cl_lt h1), wl_set] at hP2
  have e4 : va_up f k (f k) = f := by
    funext i
    by_cases h : i = k
    · subst h; simp [va_up]
    · simp [va_up, h]
  rw [e4] at hP2
  exact hP2
end RM2
end
section
/-! WHERE THE CELLS LIE: the class's objects, the reference's rows, the ways that were kept -/
def wayS (o d : Nat) : Nat × Nat × (Nat → Option Nat) := match d with
  | 0 => (7, 0, fun j => if j = 0 then some (o + 1) else if j = 1 then some (o + 2) else none)
  | 1 => (10, 8, fun _ => none)
  | 2 => (3, 0, fun j => if j = 0 then some (o + 3) else none)
  | 3 => (13, 6, fun j => if j < 6 then some (o + 4 + j) else none)
  | _ => (6, 0, fun _ => none)
def ptyS (p d : Nat) : Nat × Nat × (Nat → Option Nat) := match d with
  | 0 => (3, 0, fun j => if j = 0 then some (p + 1) else none)
  | 1 => (13, 6, fun j => if j < 6 then some (p + 2 + j) else none)
  | _ => (6, 0, fun _ => none)
def NN (kn : Nat) : Nat := 102 + 10 * kn
/-- the reference's rows: field, place, length -/
def refT : List (Nat × Nat × Nat) := [(0, 86, 8), (1, 87, 8), (2, 88, 320), (5, 89, 56), (6, 90, 40), (7, 91, 120), (15, 92, 56), (17, 93, 1344), (19, 94, 56), (20, 95, 6), (21, 96, 6), (22, 97, 6), (23, 98, 6), (24, 99, 2), (25, 100, 112), (26, 101, 16)]
def refTg (j : Nat) : Option Nat := match j with
  | 0 => some 86
  | 1 => some 87
  | 2 => some 88
  | 5 => some 89
  | 6 => some 90
  | 7 => some 91
  | 15 => some 92
  | 17 => some 93
  | 19 => some 94
  | 20 => some 95
  | 21 => some 96
  | 22 => some 97
  | 23 => some 98
  | 24 => some 99
  | 25 => some 100
  | 26 => some 101
  | _ => none
def refLen (k : Nat) : Nat := [8, 8, 320, 56, 40, 120, 56, 1344, 56, 6, 6, 6, 6, 2, 112, 16].getD (k - 86) 0
def shF (kn k : Nat) : Nat × Nat × (Nat → Option Nat) :=
  if k = 0 then (8, 0, fun j => [some 1, some 2, some 4, some 14, some 24, some 25, some 27, some 47].getD j none)
  else if k = 1 then (12, 8, fun j => if j < 8 then some (49 + 2 * j) else none)
  else if k = 2 then (4, 0, fun j => if j = 0 then some 3 else none)
  else if k = 3 then (10, 120, fun _ => none)
  else if k < 14 then wayS 4 (k - 4)
  else if k < 24 then wayS 14 (k - 14)
  else if k = 24 then (14, 2, fun j => if j < 2 then some (65 + 10 * j) else none)
  else if k = 25 then (0, 0, fun j => if j = 0 then some 26 else none)
  else if k = 26 then (14, 24, fun j => if j < kn then some (102 + 10 * j) else none)
  else if k = 27 then (2, 0, fun j => [some 28, some 36, some 44, some 45, some 46].getD j none)
  else if k < 36 then ptyS 28 (k - 28)
  else if k < 44 then ptyS 36 (k - 36)
  else if k < 47 then (10, 6, fun _ => none)
  else if k = 47 then (1, 0, fun j => if j = 0 then some 48 else none)
  else if k = 48 then (10, 16, fun _ => none)
  else if k < 65 then (if (k - 49) % 2 = 0 then (5, 0, fun j => if j = 0 then some (k + 1) else none) else (10, 40, fun _ => none))
  else if k < 75 then wayS 65 (k - 65)
  else if k < 85 then wayS 75 (k - 75)
  else if k = 85 then (9, 0, refTg)
  else if k = 99 then (11, 2, fun _ => none)
  else if k < 102 then (10, refLen k, fun _ => none)
  else wayS (102 + 10 * ((k - 102) / 10)) ((k - 102) % 10)
theorem nn_le {kn k : Nat} (h : k < 102) : k < NN kn := by unfold NN; omega
theorem s_0 (kn : Nat) : 0 < NN kn ∧ (shF kn 0).1 = 8 := ⟨nn_le (by decide), rfl⟩
theorem s_1 (kn : Nat) : 1 < NN kn ∧ (shF kn 1).1 = 12 := ⟨nn_le (by decide), rfl⟩
theorem s_2 (kn : Nat) : 2 < NN kn ∧ (shF kn 2).1 = 4 := ⟨nn_le (by decide), rfl⟩
theorem s_3 (kn : Nat) : 3 < NN kn ∧ (shF kn 3).1 = 10 := ⟨nn_le (by decide), rfl⟩
theorem s_24 (kn : Nat) : 24 < NN kn ∧ (shF kn 24).1 = 14 := ⟨nn_le (by decide), rfl⟩
theorem s_25 (kn : Nat) : 25 < NN kn ∧ (shF kn 25).1 = 0 := ⟨nn_le (by decide), rfl⟩
theorem s_26 (kn : Nat) : 26 < NN kn ∧ (shF kn 26).1 = 14 := ⟨nn_le (by decide), rfl⟩
theorem s_27 (kn : Nat) : 27 < NN kn ∧ (shF kn 27).1 = 2 := ⟨nn_le (by decide), rfl⟩
theorem s_44 (kn : Nat) : 44 < NN kn ∧ (shF kn 44).1 = 10 := ⟨nn_le (by decide), rfl⟩
theorem s_45 (kn : Nat) : 45 < NN kn ∧ (shF kn 45).1 = 10 := ⟨nn_le (by decide), rfl⟩
theorem s_46 (kn : Nat) : 46 < NN kn ∧ (shF kn 46).1 = 10 := ⟨nn_le (by decide), rfl⟩
theorem s_47 (kn : Nat) : 47 < NN kn ∧ (shF kn 47).1 = 1 := ⟨nn_le (by decide), rfl⟩
theorem s_48 (kn : Nat) : 48 < NN kn ∧ (shF kn 48).1 = 10 := ⟨nn_le (by decide), rfl⟩
theorem s_85 (kn : Nat) : 85 < NN kn ∧ (shF kn 85).1 = 9 := ⟨nn_le (by decide), rfl⟩
theorem s_86 (kn : Nat) : 86 < NN kn ∧ (shF kn 86).1 = 10 := ⟨nn_le (by decide), rfl⟩
theorem s_87 (kn : Nat) : 87 < NN kn ∧ (shF kn 87).1 = 10 := ⟨nn_le (by decide), rfl⟩
theorem s_88 (kn : Nat) : 88 < NN kn ∧ (shF kn 88).1 = 10 := ⟨nn_le (by decide), rfl⟩
theorem s_89 (kn : Nat) : 89 < NN kn ∧ (shF kn 89).1 = 10 := ⟨nn_le (by decide), rfl⟩
theorem s_90 (kn : Nat) : 90 < NN kn ∧ (shF kn 90).1 = 10 := ⟨nn_le (by decide), rfl⟩
theorem s_91 (kn : Nat) : 91 < NN kn ∧ (shF kn 91).1 = 10 := ⟨nn_le (by decide), rfl⟩
theorem s_92 (kn : Nat) : 92 < NN kn ∧ (shF kn 92).1 = 10 := ⟨nn_le (by decide), rfl⟩
theorem s_93 (kn : Nat) : 93 < NN kn ∧ (shF kn 93).1 = 10 := ⟨nn_le (by decide), rfl⟩
theorem s_94 (kn : Nat) : 94 < NN kn ∧ (shF kn 94).1 = 10 := ⟨nn_le (by decide), rfl⟩
theorem s_95 (kn : Nat) : 95 < NN kn ∧ (shF kn 95).1 = 10 := ⟨nn_le (by decide), rfl⟩
theorem s_96 (kn : Nat) : 96 < NN kn ∧ (shF kn 96).1 = 10 := ⟨nn_le (by decide), rfl⟩
theorem s_97 (kn : Nat) : 97 < NN kn ∧ (shF kn 97).1 = 10 := ⟨nn_le (by decide), rfl⟩
theorem s_98 (kn : Nat) : 98 < NN kn ∧ (shF kn 98).1 = 10 := ⟨nn_le (by decide), rfl⟩
theorem s_99 (kn : Nat) : 99 < NN kn ∧ (shF kn 99).1 = 11 := ⟨nn_le (by decide), rfl⟩
theorem s_100 (kn : Nat) : 100 < NN kn ∧ (shF kn 100).1 = 10 := ⟨nn_le (by decide), rfl⟩
theorem s_101 (kn : Nat) : 101 < NN kn ∧ (shF kn 101).1 = 10 := ⟨nn_le (by decide), rfl⟩
theorem sn_1 (kn : Nat) : (shF kn 1).2.1 = 8 := rfl
theorem sn_3 (kn : Nat) : (shF kn 3).2.1 = 120 := rfl
theorem sn_24 (kn : Nat) : (shF kn 24).2.1 = 2 := rfl
theorem sn_26 (kn : Nat) : (shF kn 26).2.1 = 24 := rfl
theorem sn_44 (kn : Nat) : (shF kn 44).2.1 = 6 := rfl
theorem sn_45 (kn : Nat) : (shF kn 45).2.1 = 6 := rfl
theorem sn_46 (kn : Nat) : (shF kn 46).2.1 = 6 := rfl
theorem sn_48 (kn : Nat) : (shF kn 48).2.1 = 16 := rfl
theorem sn_86 (kn : Nat) : (shF kn 86).2.1 = 8 := rfl
theorem sn_87 (kn : Nat) : (shF kn 87).2.1 = 8 := rfl
theorem sn_88 (kn : Nat) : (shF kn 88).2.1 = 320 := rfl
theorem sn_89 (kn : Nat) : (shF kn 89).2.1 = 56 := rfl
theorem sn_90 (kn : Nat) : (shF kn 90).2.1 = 40 := rfl
theorem sn_91 (kn : Nat) : (shF kn 91).2.1 = 120 := rfl
theorem sn_92 (kn : Nat) : (shF kn 92).2.1 = 56 := rfl
theorem sn_93 (kn : Nat) : (shF kn 93).2.1 = 1344 := rfl
theorem sn_94 (kn : Nat) : (shF kn 94).2.1 = 56 := rfl
theorem sn_95 (kn : Nat) : (shF kn 95).2.1 = 6 := rfl
theorem sn_96 (kn : Nat) : (shF kn 96).2.1 = 6 := rfl
theorem sn_97 (kn : Nat) : (shF kn 97).2.1 = 6 := rfl
theorem sn_98 (kn : Nat) : (shF kn 98).2.1 = 6 := rfl
theorem sn_99 (kn : Nat) : (shF kn 99).2.1 = 2 := rfl
theorem sn_100 (kn : Nat) : (shF kn 100).2.1 = 112 := rfl
theorem sn_101 (kn : Nat) : (shF kn 101).2.1 = 16 := rfl
def isW (kn o : Nat) : Prop := o = 4 ∨ o = 14 ∨ o = 65 ∨ o = 75 ∨ ∃ i, i < kn ∧ o = 102 + 10 * i
theorem isW.now {kn : Nat} : isW kn 4 := Or.inl rfl
theorem isW.spare {kn : Nat} : isW kn 14 := Or.inr (Or.inl rfl)
theorem isW.img {kn i : Nat} (h : i < 2) : isW kn (65 + 10 * i) := by
  have : i = 0 ∨ i = 1 := by omega
  rcases this with rfl | rfl
  · exact Or.inr (Or.inr (Or.inl rfl))
  · exact Or.inr (Or.inr (Or.inr (Or.inl rfl)))
theorem isW.kept {kn i : Nat} (h : i < kn) : isW kn (102 + 10 * i) := Or.inr (Or.inr (Or.inr (Or.inr ⟨i, h, rfl⟩)))
theorem isW.sh {kn o : Nat} (h : isW kn o) {d : Nat} (hd : d < 10) : o + d < NN kn ∧ shF kn (o + d) = wayS o d := by
  have hd' : d = 0 ∨ d = 1 ∨ d = 2 ∨ d = 3 ∨ d = 4 ∨ d = 5 ∨ d = 6 ∨ d = 7 ∨ d = 8 ∨ d = 9 := by omega
  rcases h with rfl | rfl | rfl | rfl | ⟨i, hi, rfl⟩
  · exact ⟨nn_le (by omega), by rcases hd' with rfl | rfl | rfl | rfl | rfl | rfl | rfl | rfl | rfl | rfl <;> rfl⟩
  · exact ⟨nn_le (by omega), by rcases hd' with rfl | rfl | rfl | rfl | rfl | rfl | rfl | rfl | rfl | rfl <;> rfl⟩
  · exact ⟨nn_le (by omega), by rcases hd' with rfl | rfl | rfl | rfl | rfl | rfl | rfl | rfl | rfl | rfl <;> rfl⟩
  · exact ⟨nn_le (by omega), by rcases hd' with rfl | rfl | rfl | rfl | rfl | rfl | rfl | rfl | rfl | rfl <;> rfl⟩
  · refine ⟨by unfold NN; omega, ?_⟩
    have e1 : (102 + 10 * i + d - 102) / 10 = i := by omega
    have e2 : (102 + 10 * i + d - 102) % 10 = d := by omega
    unfold shF
    repeat rw [if_neg (by omega)]
    rw [e1, e2]
def isP (kn p : Nat) : Prop := p = 28 ∨ p = 36 ∨ ∃ o, isW kn o ∧ p = o + 2
theorem isP.way {kn o : Nat} (h : isW kn o) : isP kn (o + 2) := Or.inr (Or.inr ⟨o, h, rfl⟩)
theorem isP.go {kn : Nat} : isP kn 28 := Or.inl rfl
theorem isP.back {kn : Nat} : isP kn 36 := Or.inr (Or.inl rfl)
theorem isP.sh {kn p : Nat} (h : isP kn p) {d : Nat} (hd : d < 8) : p + d < NN kn ∧ shF kn (p + d) = ptyS p d := by
  have hd' : d = 0 ∨ d = 1 ∨ d = 2 ∨ d = 3 ∨ d = 4 ∨ d = 5 ∨ d = 6 ∨ d = 7 := by omega
  rcases h with rfl | rfl | ⟨o, ho, rfl⟩
  · exact ⟨nn_le (by omega), by rcases hd' with rfl | rfl | rfl | rfl | rfl | rfl | rfl | rfl <;> rfl⟩
  · exact ⟨nn_le (by omega), by rcases hd' with rfl | rfl | rfl | rfl | rfl | rfl | rfl | rfl <;> rfl⟩
  · have := ho.sh (d := d + 2) (by omega)
    rw [show o + 2 + d = o + (d + 2) by omega]
    refine ⟨this.1, ?_⟩
    rw [this.2]
    rcases hd' with rfl | rfl | rfl | rfl | rfl | rfl | rfl | rfl <;> rfl
def isK (kn a : Nat) : Prop := ∃ p i, isP kn p ∧ i < 6 ∧ a = p + 2 + i
theorem isK.of {kn p i : Nat} (h : isP kn p) (hi : i < 6) : isK kn (p + 2 + i) := ⟨p, i, h, hi, rfl⟩
theorem w_0 {kn o : Nat} (h : isW kn o) : o < NN kn ∧ (shF kn o).1 = 7 := by
  have := h.sh (d := 0) (by omega)
  rw [Nat.add_zero] at this
  exact ⟨this.1, by rw [this.2]; rfl⟩
theorem w_t0 {kn o : Nat} (h : isW kn o) : (shF kn o).2.2 0 = some (o + 1) := by
  have := (h.sh (d := 0) (by omega)).2
  rw [Nat.add_zero] at this
  rw [this]; rfl
theorem w_t1 {kn o : Nat} (h : isW kn o) : (shF kn o).2.2 1 = some (o + 2) := by
  have := (h.sh (d := 0) (by omega)).2
  rw [Nat.add_zero] at this
  rw [this]; rfl
theorem w_1 {kn o : Nat} (h : isW kn o) : o + 1 < NN kn ∧ (shF kn (o + 1)).1 = 10 := ⟨(h.sh (by omega)).1, by rw [(h.sh (d := 1) (by omega)).2]; rfl⟩
theorem w_1n {kn o : Nat} (h : isW kn o) : (shF kn (o + 1)).2.1 = 8 := by rw [(h.sh (d := 1) (by omega)).2]; rfl
theorem p_0 {kn p : Nat} (h : isP kn p) : p < NN kn ∧ (shF kn p).1 = 3 := by
  have := h.sh (d := 0) (by omega)
  rw [Nat.add_zero] at this
  exact ⟨this.1, by rw [this.2]; rfl⟩
theorem p_t0 {kn p : Nat} (h : isP kn p) : (shF kn p).2.2 0 = some (p + 1) := by
  have := (h.sh (d := 0) (by omega)).2
  rw [Nat.add_zero] at this
  rw [this]; rfl
theorem p_1 {kn p : Nat} (h : isP kn p) : p + 1 < NN kn ∧ (shF kn (p + 1)).1 = 1 + 12 := ⟨(h.sh (by omega)).1, by rw [(h.sh (d := 1) (by omega)).2]; rfl⟩
theorem p_1a {kn p : Nat} (h : isP kn p) : p + 1 < NN kn ∧ 10 ≤ (shF kn (p + 1)).1 ∧ (shF kn (p + 1)).1 < 15 := ⟨(p_1 h).1, by rw [(p_1 h).2]; decide, by rw [(p_1 h).2]; decide⟩
theorem p_1n {kn p : Nat} (h : isP kn p) : (shF kn (p + 1)).2.1 = 6 := by rw [(h.sh (d := 1) (by omega)).2]; rfl
theorem p_1t {kn p i : Nat} (h : isP kn p) (hi : i < 6) : (shF kn (p + 1)).2.2 i = some (p + 2 + i) := by
  rw [(h.sh (d := 1) (by omega)).2]
  show (if i < 6 then some (p + 2 + i) else none) = _
  rw [if_pos hi]
theorem k_0 {kn a : Nat} (h : isK kn a) : a < NN kn ∧ (shF kn a).1 = 6 := by
  obtain ⟨p, i, hp, hi, rfl⟩ := h
  have h2 := hp.sh (d := 2 + i) (by omega)
  rw [show p + (2 + i) = p + 2 + i by omega] at h2
  have hi' : i = 0 ∨ i = 1 ∨ i = 2 ∨ i = 3 ∨ i = 4 ∨ i = 5 := by omega
  refine ⟨h2.1, ?_⟩
  rw [h2.2]
  rcases hi' with rfl | rfl | rfl | rfl | rfl | rfl <;> rfl
theorem x_0 {kn r : Nat} (h : r < 8) : 49 + 2 * r < NN kn ∧ (shF kn (49 + 2 * r)).1 = 5 := by
  have hr : r = 0 ∨ r = 1 ∨ r = 2 ∨ r = 3 ∨ r = 4 ∨ r = 5 ∨ r = 6 ∨ r = 7 := by omega
  refine ⟨nn_le (by omega), ?_⟩
  rcases hr with rfl | rfl | rfl | rfl | rfl | rfl | rfl | rfl <;> rfl
theorem x_t0 {kn r : Nat} (h : r < 8) : (shF kn (49 + 2 * r)).2.2 0 = some (50 + 2 * r) := by
  have hr : r = 0 ∨ r = 1 ∨ r = 2 ∨ r = 3 ∨ r = 4 ∨ r = 5 ∨ r = 6 ∨ r = 7 := by omega
  rcases hr with rfl | rfl | rfl | rfl | rfl | rfl | rfl | rfl <;> rfl
theorem x_1 {kn r : Nat} (h : r < 8) : 50 + 2 * r < NN kn ∧ (shF kn (50 + 2 * r)).1 = 10 := by
  have hr : r = 0 ∨ r = 1 ∨ r = 2 ∨ r = 3 ∨ r = 4 ∨ r = 5 ∨ r = 6 ∨ r = 7 := by omega
  refine ⟨nn_le (by omega), ?_⟩
  rcases hr with rfl | rfl | rfl | rfl | rfl | rfl | rfl | rfl <;> rfl
theorem x_1n {kn r : Nat} (h : r < 8) : (shF kn (50 + 2 * r)).2.1 = 40 := by
  have hr : r = 0 ∨ r = 1 ∨ r = 2 ∨ r = 3 ∨ r = 4 ∨ r = 5 ∨ r = 6 ∨ r = 7 := by omega
  rcases hr with rfl | rfl | rfl | rfl | rfl | rfl | rfl | rfl <;> rfl
theorem ra_t {kn r : Nat} (h : r < 8) : (shF kn 1).2.2 r = some (49 + 2 * r) := by
  show (if r < 8 then some (49 + 2 * r) else none) = _
  rw [if_pos h]
theorem ia_t {kn r : Nat} (h : r < 2) : (shF kn 24).2.2 r = some (65 + 10 * r) := by
  show (if r < 2 then some (65 + 10 * r) else none) = _
  rw [if_pos h]
theorem ka_t {kn r : Nat} (h : r < kn) : (shF kn 26).2.2 r = some (102 + 10 * r) := by
  show (if r < kn then some (102 + 10 * r) else none) = _
  rw [if_pos h]
theorem ka_n {kn r : Nat} (h : kn ≤ r) : (shF kn 26).2.2 r = none := by
  show (if r < kn then some (102 + 10 * r) else none) = _
  rw [if_neg (by omega)]
/-! contracts over this layout, of methods that make nothing -/
abbrev pI (kn : Nat) (post : Int32 → MM → Prop) : PoT := fun r N sh f => ∃ v : Int32, r = some (.int v) ∧ N = NN kn ∧ sh = shF kn ∧ post v f
abbrev pV (kn : Nat) (post : MM → Prop) : PoT := fun r N sh f => r = none ∧ N = NN kn ∧ sh = shF kn ∧ post f
abbrev RI (G : GG) (M : MD) (lv : Nat) (kn : Nat) (av : List Value) (f : MM) (post : Int32 → MM → Prop) : Prop := Ct G M lv 0 0 av (NN kn) (shF kn) f (pI kn post)
abbrev RV (G : GG) (M : MD) (lv : Nat) (kn : Nat) (av : List Value) (f : MM) (post : MM → Prop) : Prop := Ct G M lv 0 0 av (NN kn) (shF kn) f (pV kn post)
abbrev CI (G : GG) (M : MD) (lv : Nat) (kn : Nat) (av : List Value) (f : MM) (v : Int32) (f' : MM) : Prop := RI G M lv kn av f (fun w g => w = v ∧ g = f')
abbrev CV (G : GG) (M : MD) (lv : Nat) (kn : Nat) (av : List Value) (f : MM) (f' : MM) : Prop := RV G M lv kn av f (fun g => g = f')
theorem nI_inc (i : Nat) : nI i + Int32.ofInt 1 = nI (i + 1) := (nI_1 i)
theorem nI_dec (i : Nat) : nI (i + 1) + Int32.ofInt (-1) = nI i := pk_m1 i
section RL
variable {X : XT} {G : GG} {M : MD} {lv mc ms N0 kn : Nat} {cs sl : Nat} {Q : State → Prop} {N : Nat} {sh : SH} {f : MM} {pc : Nat} {ls : List (Option Value)} {st : List Value}
theorem q_iret (C : Cx X G M lv 0 0 N0) {v : Int32} {post : Int32 → MM → Prop} (hd : decode M.2.2.1 pc = .ok (.ireturn, 1)) (hr : M.2.2.2.2 = some .int) (hp : post v f) : Vw X G M.2.2.2.1 0 0 (QQ X G (pI kn post) 0 0) (NN kn) (shF kn) f pc ls [.int v] :=
  r_iret C hd hr ⟨Nat.le_refl _, Nat.le_refl _⟩ ⟨v, rfl, rfl, rfl, hp⟩
theorem q_zret (C : Cx X G M lv 0 0 N0) {v : Int32} {post : Int32 → MM → Prop} (hd : decode M.2.2.1 pc = .ok (.ireturn, 1)) (hr : M.2.2.2.2 = some .boolean) (hv : v = 0 ∨ v = 1) (hp : post v f) : Vw X G M.2.2.2.1 0 0 (QQ X G (pI kn post) 0 0) (NN kn) (shF kn) f pc ls [.int v] :=
  r_zret C hd hr hv ⟨Nat.le_refl _, Nat.le_refl _⟩ ⟨v, rfl, rfl, rfl, hp⟩
theorem q_vret (C : Cx X G M lv 0 0 N0) {post : MM → Prop} (hd : decode M.2.2.1 pc = .ok (.return_, 1)) (hr : M.2.2.2.2 = none) (hp : post f) : Vw X G M.2.2.2.1 0 0 (QQ X G (pV kn post) 0 0) (NN kn) (shF kn) f pc ls [] :=
  r_vret C hd hr ⟨Nat.le_refl _, Nat.le_refl _⟩ ⟨rfl, rfl, rfl, hp⟩
theorem q_iald (C : Cx X G M lv mc ms N0) {k len : Nat} {x : Int32} (n : Nat) (hd : decode M.2.2.1 pc = .ok (.iaload, 1)) (hk : k < N ∧ (sh k).1 = 10) (hn : (sh k).2.1 = len) (hx : x = nI n) (hl : n < len) (hb : len ≤ 2000) (K : Vw X G M.2.2.2.1 cs sl Q N sh f (pc + 1) ls (.int (f k n) :: st)) : Vw X G M.2.2.2.1 cs sl Q N sh f pc ls (.int x :: .ref (G.1 + k) :: st) := by
  subst hx
  refine r_iald C hd hk hn (vp_in_nI hl (by omega)) ?_
  rw [nI_clamp (by omega)]
  exact K
theorem q_iast (C : Cx X G M lv mc ms N0) {k len : Nat} {x v : Int32} (n : Nat) (hd : decode M.2.2.1 pc = .ok (.iastore, 1)) (hk : k < N ∧ (sh k).1 = 10) (hn : (sh k).2.1 = len) (hx : x = nI n) (hl : n < len) (hb : len ≤ 2000) (K : Vw X G M.2.2.2.1 cs sl Q N sh (u2 f k n v) (pc + 1) ls st) : Vw X G M.2.2.2.1 cs sl Q N sh f pc ls (.int v :: .int x :: .ref (G.1 + k) :: st) := by
  subst hx
  refine r_iast C hd hk hn (vp_in_nI hl (by omega)) ?_
  rw [nI_clamp (by omega)]
  exact K
theorem q_aald (C : Cx X G M lv mc ms N0) {k len t b : Nat} {x : Int32} (n : Nat) (hd : decode M.2.2.1 pc = .ok (.aaload, 1)) (hk : k < N ∧ (sh k).1 = b + 12) (hb3 : b < 3) (hn : (sh k).2.1 = len) (hx : x = nI n) (hl : n < len) (hb : len ≤ 2000) (ht : (sh k).2.2 n = some t) (K : Vw X G M.2.2.2.1 cs sl Q N sh f (pc + 1) ls (.ref (G.1 + t) :: st)) : Vw X G M.2.2.2.1 cs sl Q N sh f pc ls (.int x :: .ref (G.1 + k) :: st) := by
  subst hx
  exact r_aald C hd hk hb3 hn (vp_in_nI hl (by omega)) (by rw [nI_clamp (by omega)]; exact ht) K
theorem q_ge (C : Cx X G M lv mc ms N0) {x y : Int32} {off : Int} (a b tgt : Nat) (hx : x = nI a) (hy : y = nI b) (ha : a < 2147483648) (hb : b < 2147483648) (hd : decode M.2.2.1 pc = .ok (.if_icmp .ge off, 3)) (ht : (pc : Int) + off = (tgt : Int)) (Kt : b ≤ a → Vw X G M.2.2.2.1 cs sl Q N sh f tgt ls st) (Kf : a < b → Vw X G M.2.2.2.1 cs sl Q N sh f (pc + 3) ls st) : Vw X G M.2.2.2.1 cs sl Q N sh f pc ls (.int y :: .int x :: st) := by
  subst hx; subst hy
  exact r_icmp_ge C tgt hd ht (fun h => Kt ((nI_leI hb ha).mp h)) (fun h => Kf (by rcases Nat.lt_or_ge a b with q | q; exact q; exact absurd ((nI_leI hb ha).mpr q) h))
theorem q_lt (C : Cx X G M lv mc ms N0) {x y : Int32} {off : Int} (a b tgt : Nat) (hx : x = nI a) (hy : y = nI b) (ha : a < 2147483648) (hb : b < 2147483648) (hd : decode M.2.2.1 pc = .ok (.if_icmp .lt off, 3)) (ht : (pc : Int) + off = (tgt : Int)) (Kt : a < b → Vw X G M.2.2.2.1 cs sl Q N sh f tgt ls st) (Kf : b ≤ a → Vw X G M.2.2.2.1 cs sl Q N sh f (pc + 3) ls st) : Vw X G M.2.2.2.1 cs sl Q N sh f pc ls (.int y :: .int x :: st) := by
  subst hx; subst hy
  exact r_icmp_lt C tgt hd ht (fun h => Kt ((nI_ltI ha hb).mp h)) (fun h => Kf (by rcases Nat.lt_or_ge a b with q | q; exact absurd ((nI_ltI ha hb).mpr q) h; exact q))
theorem q_gt (C : Cx X G M lv mc ms N0) {x y : Int32} {off : Int} (a b tgt : Nat) (hx : x = nI a) (hy : y = nI b) (ha : a < 2147483648) (hb : b < 2147483648) (hd : decode M.2.2.1 pc = .ok (.if_icmp .gt off, 3)) (ht : (pc : Int) + off = (tgt : Int)) (Kt : b < a → Vw X G M.2.2.2.1 cs sl Q N sh f tgt ls st) (Kf : a ≤ b → Vw X G M.2.2.2.1 cs sl Q N sh f (pc + 3) ls st) : Vw X G M.2.2.2.1 cs sl Q N sh f pc ls (.int y :: .int x :: st) := by
  subst hx; subst hy
  exact r_icmp_gt C tgt hd ht (fun h => Kt ((nI_ltI hb ha).mp h)) (fun h => Kf (by rcases Nat.lt_or_ge b a with q | q; exact absurd ((nI_ltI hb ha).mpr q) h; exact q))
theorem q_le (C : Cx X G M lv mc ms N0) {x y : Int32} {off : Int} (a b tgt : Nat) (hx : x = nI a) (hy : y = nI b) (ha : a < 2147483648) (hb : b < 2147483648) (hd : decode M.2.2.1 pc = .ok (.if_icmp .le off, 3)) (ht : (pc : Int) + off = (tgt : Int)) (Kt : a ≤ b → Vw X G M.2.2.2.1 cs sl Q N sh f tgt ls st) (Kf : b < a → Vw X G M.2.2.2.1 cs sl Q N sh f (pc + 3) ls st) : Vw X G M.2.2.2.1 cs sl Q N sh f pc ls (.int y :: .int x :: st) := by
  subst hx; subst hy
  exact r_icmp_le C tgt hd ht (fun h => Kt ((nI_leI ha hb).mp h)) (fun h => Kf (by rcases Nat.lt_or_ge b a with q | q; exact q; exact absurd ((nI_leI ha hb).mpr q) h))
theorem q_eq (C : Cx X G M lv mc ms N0) {x y : Int32} {off : Int} (a b tgt : Nat) (hx : x = nI a) (hy : y = nI b) (ha : a < 2147483648) (hb : b < 2147483648) (hd : decode M.2.2.1 pc = .ok (.if_icmp .eq off, 3)) (ht : (pc : Int) + off = (tgt : Int)) (Kt : a = b → Vw X G M.2.2.2.1 cs sl Q N sh f tgt ls st) (Kf : ¬ a = b → Vw X G M.2.2.2.1 cs sl Q N sh f (pc + 3) ls st) : Vw X G M.2.2.2.1 cs sl Q N sh f pc ls (.int y :: .int x :: st) := by
  subst hx; subst hy
  exact r_icmp_eq C tgt hd ht (fun h => Kt ((nI_eq ha hb).mp h)) (fun h => Kf (fun q => h ((nI_eq ha hb).mpr q)))
theorem q_ne (C : Cx X G M lv mc ms N0) {x y : Int32} {off : Int} (a b tgt : Nat) (hx : x = nI a) (hy : y = nI b) (ha : a < 2147483648) (hb : b < 2147483648) (hd : decode M.2.2.1 pc = .ok (.if_icmp .ne off, 3)) (ht : (pc : Int) + off = (tgt : Int)) (Kt : ¬ a = b → Vw X G M.2.2.2.1 cs sl Q N sh f tgt ls st) (Kf : a = b → Vw X G M.2.2.2.1 cs sl Q N sh f (pc + 3) ls st) : Vw X G M.2.2.2.1 cs sl Q N sh f pc ls (.int y :: .int x :: st) := by
  subst hx; subst hy
  exact r_icmp_ne C tgt hd ht (fun h => Kt (fun q => h ((nI_eq ha hb).mpr q))) (fun h => Kf ((nI_eq ha hb).mp h))
end RL
section RQ
variable {X : XT} {G : GG} {M : MD} {lv mc ms N0 kn : Nat} {cs sl : Nat} {Q : State → Prop} {f : MM} {pc : Nat} {ls : List (Option Value)} {st : List Value}
theorem q_vI (C : Cx X G M lv mc ms N0) {M2 : MD} {lv2 n ci k idx : Nat} {As rest : List Value} {post : Int32 → MM → Prop} (hl : KlV M.1 idx M2 n ci) (hd : decode M.2.2.1 pc = .ok (.invokevirtual idx, 3)) (hM : RI G M2 lv2 kn (.ref (G.1 + k) :: As) f post) (hk : k < NN kn ∧ (shF kn k).1 = ci) (hst : st = As.reverse ++ .ref (G.1 + k) :: rest) (hn : As.length = n) (hr : (rest.map fun v => v.category).sum ≤ 8) (hlv : lv2 + 1 ≤ lv) (hc : cs ≤ mc ∧ sl ≤ ms) (K : ∀ (v : Int32) (f' : MM), post v f' → Vw X G M.2.2.2.1 cs sl Q (NN kn) (shF kn) f' (pc + 3) ls (.int v :: rest)) : Vw X G M.2.2.2.1 cs sl Q (NN kn) (shF kn) f pc ls st :=
  r_callv C hl hd hM hk hst hn hr hlv hc (fun r N' sh' f' h => by obtain ⟨v, rfl, rfl, rfl, hp⟩ := h; exact K v f' hp)
theorem q_vV (C : Cx X G M lv mc ms N0) {M2 : MD} {lv2 n ci k idx : Nat} {As rest : List Value} {post : MM → Prop} (hl : KlV M.1 idx M2 n ci) (hd : decode M.2.2.1 pc = .ok (.invokevirtual idx, 3)) (hM : RV G M2 lv2 kn (.ref (G.1 + k) :: As) f post) (hk : k < NN kn ∧ (shF kn k).1 = ci) (hst : st = As.reverse ++ .ref (G.1 + k) :: rest) (hn : As.length = n) (hr : (rest.map fun v => v.category).sum ≤ 8) (hlv : lv2 + 1 ≤ lv) (hc : cs ≤ mc ∧ sl ≤ ms) (K : ∀ (f' : MM), post f' → Vw X G M.2.2.2.1 cs sl Q (NN kn) (shF kn) f' (pc + 3) ls rest) : Vw X G M.2.2.2.1 cs sl Q (NN kn) (shF kn) f pc ls st :=
  r_callv C hl hd hM hk hst hn hr hlv hc (fun r N' sh' f' h => by obtain ⟨rfl, rfl, rfl, hp⟩ := h; exact K f' hp)
theorem q_vIf (C : Cx X G M lv mc ms N0) {M2 : MD} {lv2 n ci k idx : Nat} {As rest : List Value} {v : Int32} {f' : MM} (hl : KlV M.1 idx M2 n ci) (hd : decode M.2.2.1 pc = .ok (.invokevirtual idx, 3)) (hM : CI G M2 lv2 kn (.ref (G.1 + k) :: As) f v f') (hk : k < NN kn ∧ (shF kn k).1 = ci) (hst : st = As.reverse ++ .ref (G.1 + k) :: rest) (hn : As.length = n) (hr : (rest.map fun v => v.category).sum ≤ 8) (hlv : lv2 + 1 ≤ lv) (hc : cs ≤ mc ∧ sl ≤ ms) (K : Vw X G M.2.2.2.1 cs sl Q (NN kn) (shF kn) f' (pc + 3) ls (.int v :: rest)) : Vw X G M.2.2.2.1 cs sl Q (NN kn) (shF kn) f pc ls st :=
  q_vI C hl hd hM hk hst hn hr hlv hc (fun w g h => by obtain ⟨rfl, rfl⟩ := h; exact K)
theorem q_vVf (C : Cx X G M lv mc ms N0) {M2 : MD} {lv2 n ci k idx : Nat} {As rest : List Value} {f' : MM} (hl : KlV M.1 idx M2 n ci) (hd : decode M.2.2.1 pc = .ok (.invokevirtual idx, 3)) (hM : CV G M2 lv2 kn (.ref (G.1 + k) :: As) f f') (hk : k < NN kn ∧ (shF kn k).1 = ci) (hst : st = As.reverse ++ .ref (G.1 + k) :: rest) (hn : As.length = n) (hr : (rest.map fun v => v.category).sum ≤ 8) (hlv : lv2 + 1 ≤ lv) (hc : cs ≤ mc ∧ sl ≤ ms) (K : Vw X G M.2.2.2.1 cs sl Q (NN kn) (shF kn) f' (pc + 3) ls rest) : Vw X G M.2.2.2.1 cs sl Q (NN kn) (shF kn) f pc ls st :=
  q_vV C hl hd hM hk hst hn hr hlv hc (fun g h => by cases h; exact K)
theorem q_sI (C : Cx X G M lv mc ms N0) {M2 : MD} {lv2 n idx : Nat} {As rest : List Value} {post : Int32 → MM → Prop} (hl : KlS M.1 idx M2 n) (hd : decode M.2.2.1 pc = .ok (.invokestatic idx, 3)) (hM : RI G M2 lv2 kn As f post) (hst : st = As.reverse ++ rest) (hn : As.length = n) (hr : (rest.map fun v => v.category).sum ≤ 8) (hlv : lv2 + 1 ≤ lv) (hc : cs ≤ mc ∧ sl ≤ ms) (K : ∀ (v : Int32) (f' : MM), post v f' → Vw X G M.2.2.2.1 cs sl Q (NN kn) (shF kn) f' (pc + 3) ls (.int v :: rest)) : Vw X G M.2.2.2.1 cs sl Q (NN kn) (shF kn) f pc ls st :=
  r_calls C hl hd hM hst hn hr hlv hc (fun r N' sh' f' h => by obtain ⟨v, rfl, rfl, rfl, hp⟩ := h; exact K v f' hp)
theorem q_sV (C : Cx X G M lv mc ms N0) {M2 : MD} {lv2 n idx : Nat} {As rest : List Value} {post : MM → Prop} (hl : KlS M.1 idx M2 n) (hd : decode M.2.2.1 pc = .ok (.invokestatic idx, 3)) (hM : RV G M2 lv2 kn As f post) (hst : st = As.reverse ++ rest) (hn : As.length = n) (hr : (rest.map fun v => v.category).sum ≤ 8) (hlv : lv2 + 1 ≤ lv) (hc : cs ≤ mc ∧ sl ≤ ms) (K : ∀ (f' : MM), post f' → Vw X G M.2.2.2.1 cs sl Q (NN kn) (shF kn) f' (pc + 3) ls rest) : Vw X G M.2.2.2.1 cs sl Q (NN kn) (shF kn) f pc ls st :=
  r_calls C hl hd hM hst hn hr hlv hc (fun r N' sh' f' h => by obtain ⟨rfl, rfl, rfl, hp⟩ := h; exact K f' hp)
theorem q_sIf (C : Cx X G M lv mc ms N0) {M2 : MD} {lv2 n idx : Nat} {As rest : List Value} {v : Int32} {f' : MM} (hl : KlS M.1 idx M2 n) (hd : decode M.2.2.1 pc = .ok (.invokestatic idx, 3)) (hM : CI G M2 lv2 kn As f v f') (hst : st = As.reverse ++ rest) (hn : As.length = n) (hr : (rest.map fun v => v.category).sum ≤ 8) (hlv : lv2 + 1 ≤ lv) (hc : cs ≤ mc ∧ sl ≤ ms) (K : Vw X G M.2.2.2.1 cs sl Q (NN kn) (shF kn) f' (pc + 3) ls (.int v :: rest)) : Vw X G M.2.2.2.1 cs sl Q (NN kn) (shF kn) f pc ls st :=
  q_sI C hl hd hM hst hn hr hlv hc (fun w g h => by obtain ⟨rfl, rfl⟩ := h; exact K)
theorem q_sVf (C : Cx X G M lv mc ms N0) {M2 : MD} {lv2 n idx : Nat} {As rest : List Value} {f' : MM} (hl : KlS M.1 idx M2 n) (hd : decode M.2.2.1 pc = .ok (.invokestatic idx, 3)) (hM : CV G M2 lv2 kn As f f') (hst : st = As.reverse ++ rest) (hn : As.length = n) (hr : (rest.map fun v => v.category).sum ≤ 8) (hlv : lv2 + 1 ≤ lv) (hc : cs ≤ mc ∧ sl ≤ ms) (K : Vw X G M.2.2.2.1 cs sl Q (NN kn) (shF kn) f' (pc + 3) ls rest) : Vw X G M.2.2.2.1 cs sl Q (NN kn) (shF kn) f pc ls st :=
  q_sV C hl hd hM hst hn hr hlv hc (fun g h => by cases h; exact K)
end RQ
end
section
/-! small rows more, and the leaves -/
def b1 (b : Bool) : Int32 := if b = true then 1 else 0
theorem b1t {p : Prop} [Decidable p] (h : p) : (1 : Int32) = b1 (decide p) := by simp [b1, h]
theorem b1f {p : Prop} [Decidable p] (h : ¬ p) : (0 : Int32) = b1 (decide p) := by simp [b1, h]
theorem b1_0 {b : Bool} (h : b1 b = 0) : b = false := by cases b; rfl; simp [b1] at h
theorem b1_1 {b : Bool} (h : ¬ b1 b = 0) : b = true := by cases b; simp [b1] at h; rfl
theorem b1_z (b : Bool) : b1 b = 0 ∨ b1 b = 1 := by cases b <;> simp [b1]
theorem d0 {p : Prop} [Decidable p] (h : b1 (decide p) = 0) : ¬ p := of_decide_eq_false (b1_0 h)
theorem d1 {p : Prop} [Decidable p] (h : ¬ b1 (decide p) = 0) : p := of_decide_eq_true (b1_1 h)
section RE
variable {X : XT} {G : GG} {M : MD} {lv mc ms N0 : Nat} {cs sl : Nat} {Q : State → Prop} {N : Nat} {sh : SH} {f : MM} {pc : Nat} {ls : List (Option Value)} {st : List Value}
theorem r_tableEq (C : Cx X G M lv mc ms N0) {dflt lo hi : Int} {offs : Array Int} {len : Nat} {x : Int32} {off : Int} (tgt : Nat) (v : Int32) (hx : x = v) (hd : decode M.2.2.1 pc = .ok (.tableswitch dflt lo hi offs, len)) (h1 : ¬ v.toInt < lo) (h2 : ¬ hi < v.toInt) (ho : offs[(v.toInt - lo).toNat]? = some off) (ht : (pc : Int) + off = (tgt : Int)) (K : Vw X G M.2.2.2.1 cs sl Q N sh f tgt ls st) : Vw X G M.2.2.2.1 cs sl Q N sh f pc ls (.int x :: st) := by
  subst hx
  exact r_tableIn C tgt hd h1 h2 ho ht K
theorem q_is {x : Int32} (n : Nat) (hx : x = nI n) (K : Vw X G M.2.2.2.1 cs sl Q N sh f pc ls (.int (nI n) :: st)) : Vw X G M.2.2.2.1 cs sl Q N sh f pc ls (.int x :: st) := by
  subst hx
  exact K
theorem q_val {x : Int32} (y : Int32) (hx : x = y) (K : Vw X G M.2.2.2.1 cs sl Q N sh f pc ls (.int y :: st)) : Vw X G M.2.2.2.1 cs sl Q N sh f pc ls (.int x :: st) := by
  subst hx
  exact K
theorem q_f {f' : MM} (hx : f = f') (K : Vw X G M.2.2.2.1 cs sl Q N sh f' pc ls st) : Vw X G M.2.2.2.1 cs sl Q N sh f pc ls st := by
  subst hx
  exact K
theorem r_ldc_w (C : Cx X G M lv mc ms N0) {idx : Nat} (v : Int32) (hw : Cond.constant M.1 idx v ∈ gw) (hd : decode M.2.2.1 pc = .ok (.ldc_w idx, 3)) (K : Vw X G M.2.2.2.1 cs sl Q N sh f (pc + 3) ls (.int v :: st)) : Vw X G M.2.2.2.1 cs sl Q N sh f pc ls st :=
  fun H locs arr hP hz hS hl => lv_ldcw C.1 C.2.1 C.2.2.2.1 (C.2.2.2.2.1 _ hw) hd (K H locs arr hP hz hS hl)
theorem r_lload_n (C : Cx X G M lv mc ms N0) {k : Fin 4} {x : Int64} (hd : decode M.2.2.1 pc = .ok (.lload_n k, 1)) (h : ls[(k : Nat)]? = some (some (.long x))) (K : Vw X G M.2.2.2.1 cs sl Q N sh f (pc + 1) ls (.long x :: st)) : Vw X G M.2.2.2.1 cs sl Q N sh f pc ls st :=
  fun H locs arr hP hz hS hl => lv_lload_n C.1 C.2.1 hd rfl (hl.at h) (K H locs arr hP hz hS hl)
theorem r_lload (C : Cx X G M lv mc ms N0) {i : Nat} {x : Int64} (hd : decode M.2.2.1 pc = .ok (.lload i, 2)) (h : ls[i]? = some (some (.long x))) (K : Vw X G M.2.2.2.1 cs sl Q N sh f (pc + 2) ls (.long x :: st)) : Vw X G M.2.2.2.1 cs sl Q N sh f pc ls st :=
  fun H locs arr hP hz hS hl => lv_lload C.1 C.2.1 hd (hl.at h) (K H locs arr hP hz hS hl)
theorem r_lcmp (C : Cx X G M lv mc ms N0) {x y : Int64} (hd : decode M.2.2.1 pc = .ok (.lcmp, 1)) (K : Vw X G M.2.2.2.1 cs sl Q N sh f (pc + 1) ls (.int (lg_cmp x y) :: st)) : Vw X G M.2.2.2.1 cs sl Q N sh f pc ls (.long y :: .long x :: st) :=
  fun H locs arr hP hz hS hl => W.lcmp C.1 C.2.1 hd (K H locs arr hP hz hS hl)
end RE
theorem Ct.ofL {G : GG} {M : MD} {lv mc ms : Nat} {av : List Value} {N : Nat} {sh : SH} {f : MM} {post : PoT} (ls : List (Option Value)) (hls : ∀ (i : Nat) (v : Value), ls[i]? = some (some v) → (i, v) ∈ lv_args 0 av) (hy : plainName M.2.1.cls = true) (ho : M.2.1.cls = M.1) (hn : (lg_sl av).length ≤ M.2.2.2.1)
    (body : ∀ X : XT, Cx X G M lv mc ms N → Vw X G M.2.2.2.1 0 0 (QQ X G post mc ms) N sh f 0 ls []) : Ct G M lv mc ms av N sh f post := by
  intro l
  refine Met.ofW (cc := M.2.2.1) (maxL := M.2.2.2.1) (ret := M.2.2.2.2) hy rfl ?_
  intro p e s m args below meth c s₁ B hml hv
  obtain ⟨rfl, hP, hsz, hk, hz⟩ := hv
  have hts := atoms_spec (ws := wsM M) B.pre
  have hown : s.vm.findClass M.1 = some m.cls := by rw [← ho]; exact findClass_of_methodNamed B.named
  have hb := body (p, l, e, rmL lv mc ms, s, m, av.toArray, below, meth, c) ⟨B.exec, B.bytes, hml, hown, fun w hw => hts w (List.mem_cons_of_mem _ hw), hk, hz, B.notSynchronized, B.returns, (name_of_methodNamed B.named B.method).1, rfl, hsz⟩
  rw [lg_entry_eq]
  have h0 := lv_entry av (n := M.2.2.2.1) hn
  exact hb s.heap [] _ hP hsz va_S.rf ⟨h0.1, h0.2.1, fun i v hv => h0.2.2 _ (hls i v hv)⟩
theorem i64le (x y : Int32) : x.toInt64 ≤ y.toInt64 ↔ x ≤ y := by rw [Int64.le_iff_toInt_le, Int32.le_iff_toInt_le, Int32.toInt_toInt64, Int32.toInt_toInt64]
theorem cmp_lt {x y : Int64} : lg_cmp x y < 0 ↔ x < y := by
  unfold lg_cmp
  by_cases h1 : y < x
  · have h3 : ¬ x < y := by
      rw [Int64.lt_iff_toInt_lt] at h1 ⊢
      omega
    simp [h1, h3]
  · by_cases h2 : x = y
    · subst h2; simp
    · have h4 : x < y := by
        rw [Int64.lt_iff_toInt_lt] at h1
        have h3 : x.toInt ≠ y.toInt := fun e => h2 (Int64.toInt_inj.mp e)
        rw [Int64.lt_iff_toInt_lt]
        omega
      simp [h1, h2, h4]
theorem cmp_gt {x y : Int64} : 0 < lg_cmp x y ↔ y < x := by
  unfold lg_cmp
  by_cases h1 : y < x
  · simp [h1]
  · by_cases h2 : x = y
    · subst h2; simp
    · simp [h1, h2]
theorem ts0_5 (x : Int32) : (x.toInt < 0 ∨ 5 < x.toInt) ∨ x = 0 ∨ x = 1 ∨ x = 2 ∨ x = 3 ∨ x = 4 ∨ x = 5 := by
  rcases Int.lt_or_le x.toInt 0 with h | h
  · exact Or.inl (Or.inl h)
  · rcases Int.lt_or_le 5 x.toInt with g | g
    · exact Or.inl (Or.inr g)
    · refine Or.inr ?_
      have key : ∀ v : Int32, x.toInt = v.toInt → x = v := fun v e => Int32.toInt_inj.mp e
      obtain ⟨n, hn⟩ : ∃ n : Nat, x.toInt = 0 + n := ⟨(x.toInt - 0).toNat, by omega⟩
      have hn2 : n < 6 := by omega
      match n, hn2, hn with
      | 0, _, hn => exact Or.inl (key 0 hn)
      | 1, _, hn => exact Or.inr (Or.inl (key 1 hn))
      | 2, _, hn => exact Or.inr (Or.inr (Or.inl (key 2 hn)))
      | 3, _, hn => exact Or.inr (Or.inr (Or.inr (Or.inl (key 3 hn))))
      | 4, _, hn => exact Or.inr (Or.inr (Or.inr (Or.inr (Or.inl (key 4 hn)))))
      | 5, _, hn => exact Or.inr (Or.inr (Or.inr (Or.inr (Or.inr (key 5 hn)))))
theorem ts0_8 (x : Int32) : (x.toInt < 0 ∨ 8 < x.toInt) ∨ x = 0 ∨ x = 1 ∨ x = 2 ∨ x = 3 ∨ x = 4 ∨ x = 5 ∨ x = 6 ∨ x = 7 ∨ x = 8 := by
  rcases Int.lt_or_le x.toInt 0 with h | h
  · exact Or.inl (Or.inl h)
  · rcases Int.lt_or_le 8 x.toInt with g | g
    · exact Or.inl (Or.inr g)
    · refine Or.inr ?_
      have key : ∀ v : Int32, x.toInt = v.toInt → x = v := fun v e => Int32.toInt_inj.mp e
      obtain ⟨n, hn⟩ : ∃ n : Nat, x.toInt = 0 + n := ⟨(x.toInt - 0).toNat, by omega⟩
      have hn2 : n < 9 := by omega
      match n, hn2, hn with
      | 0, _, hn => exact Or.inl (key 0 hn)
      | 1, _, hn => exact Or.inr (Or.inl (key 1 hn))
      | 2, _, hn => exact Or.inr (Or.inr (Or.inl (key 2 hn)))
      | 3, _, hn => exact Or.inr (Or.inr (Or.inr (Or.inl (key 3 hn))))
      | 4, _, hn => exact Or.inr (Or.inr (Or.inr (Or.inr (Or.inl (key 4 hn)))))
      | 5, _, hn => exact Or.inr (Or.inr (Or.inr (Or.inr (Or.inr (Or.inl (key 5 hn))))))
      | 6, _, hn => exact Or.inr (Or.inr (Or.inr (Or.inr (Or.inr (Or.inr (Or.inl (key 6 hn)))))))
      | 7, _, hn => exact Or.inr (Or.inr (Or.inr (Or.inr (Or.inr (Or.inr (Or.inr (Or.inl (key 7 hn))))))))
      | 8, _, hn => exact Or.inr (Or.inr (Or.inr (Or.inr (Or.inr (Or.inr (Or.inr (Or.inr (key 8 hn))))))))
theorem ts0_3 (x : Int32) : (x.toInt < 0 ∨ 3 < x.toInt) ∨ x = 0 ∨ x = 1 ∨ x = 2 ∨ x = 3 := by
  rcases Int.lt_or_le x.toInt 0 with h | h
  · exact Or.inl (Or.inl h)
  · rcases Int.lt_or_le 3 x.toInt with g | g
    · exact Or.inl (Or.inr g)
    · refine Or.inr ?_
      have key : ∀ v : Int32, x.toInt = v.toInt → x = v := fun v e => Int32.toInt_inj.mp e
      obtain ⟨n, hn⟩ : ∃ n : Nat, x.toInt = 0 + n := ⟨(x.toInt - 0).toNat, by omega⟩
      have hn2 : n < 4 := by omega
      match n, hn2, hn with
      | 0, _, hn => exact Or.inl (key 0 hn)
      | 1, _, hn => exact Or.inr (Or.inl (key 1 hn))
      | 2, _, hn => exact Or.inr (Or.inr (Or.inl (key 2 hn)))
      | 3, _, hn => exact Or.inr (Or.inr (Or.inr (key 3 hn)))
theorem ts10_24 (x : Int32) : (x.toInt < 10 ∨ 24 < x.toInt) ∨ x = 10 ∨ x = 11 ∨ x = 12 ∨ x = 13 ∨ x = 14 ∨ x = 15 ∨ x = 16 ∨ x = 17 ∨ x = 18 ∨ x = 19 ∨ x = 20 ∨ x = 21 ∨ x = 22 ∨ x = 23 ∨ x = 24 := by
  rcases Int.lt_or_le x.toInt 10 with h | h
  · exact Or.inl (Or.inl h)
  · rcases Int.lt_or_le 24 x.toInt with g | g
    · exact Or.inl (Or.inr g)
    · refine Or.inr ?_
      have key : ∀ v : Int32, x.toInt = v.toInt → x = v := fun v e => Int32.toInt_inj.mp e
      obtain ⟨n, hn⟩ : ∃ n : Nat, x.toInt = 10 + n := ⟨(x.toInt - 10).toNat, by omega⟩
      have hn2 : n < 15 := by omega
      match n, hn2, hn with
      | 0, _, hn => exact Or.inl (key 10 hn)
      | 1, _, hn => exact Or.inr (Or.inl (key 11 hn))
      | 2, _, hn => exact Or.inr (Or.inr (Or.inl (key 12 hn)))
      | 3, _, hn => exact Or.inr (Or.inr (Or.inr (Or.inl (key 13 hn))))
      | 4, _, hn => exact Or.inr (Or.inr (Or.inr (Or.inr (Or.inl (key 14 hn)))))
      | 5, _, hn => exact Or.inr (Or.inr (Or.inr (Or.inr (Or.inr (Or.inl (key 15 hn))))))
      | 6, _, hn => exact Or.inr (Or.inr (Or.inr (Or.inr (Or.inr (Or.inr (Or.inl (key 16 hn)))))))
      | 7, _, hn => exact Or.inr (Or.inr (Or.inr (Or.inr (Or.inr (Or.inr (Or.inr (Or.inl (key 17 hn))))))))
      | 8, _, hn => exact Or.inr (Or.inr (Or.inr (Or.inr (Or.inr (Or.inr (Or.inr (Or.inr (Or.inl (key 18 hn)))))))))
      | 9, _, hn => exact Or.inr (Or.inr (Or.inr (Or.inr (Or.inr (Or.inr (Or.inr (Or.inr (Or.inr (Or.inl (key 19 hn))))))))))
      | 10, _, hn => exact Or.inr (Or.inr (Or.inr (Or.inr (Or.inr (Or.inr (Or.inr (Or.inr (Or.inr (Or.inr (Or.inl (key 20 hn)))))))))))
      | 11, _, hn => exact Or.inr (Or.inr (Or.inr (Or.inr (Or.inr (Or.inr (Or.inr (Or.inr (Or.inr (Or.inr (Or.inr (Or.inl (key 21 hn))))))))))))
      | 12, _, hn => exact Or.inr (Or.inr (Or.inr (Or.inr (Or.inr (Or.inr (Or.inr (Or.inr (Or.inr (Or.inr (Or.inr (Or.inr (Or.inl (key 22 hn)))))))))))))
      | 13, _, hn => exact Or.inr (Or.inr (Or.inr (Or.inr (Or.inr (Or.inr (Or.inr (Or.inr (Or.inr (Or.inr (Or.inr (Or.inr (Or.inr (Or.inl (key 23 hn))))))))))))))
      | 14, _, hn => exact Or.inr (Or.inr (Or.inr (Or.inr (Or.inr (Or.inr (Or.inr (Or.inr (Or.inr (Or.inr (Or.inr (Or.inr (Or.inr (Or.inr (key 24 hn))))))))))))))

set_option maxRecDepth 100000 in
theorem c_X8_isBelow {G : GG} {kn : Nat} {f : MM} {a b : Int32} : CI G mX8_isBelow 1 kn [.int a, .int b] f (b1 (decide (0 ≤ a ∧ a < b))) f := by
  refine Ct.of [some (.int a), some (.int b)] rfl (by decide +kernel) rfl (Nat.le_of_ble_eq_true rfl) rfl ?_
  intro X C
  refine r_iload_n (pc := 0) C dX8_isBelow_0 rfl ?_
  refine r_if_lt (pc := 1) C 13 dX8_isBelow_1 (by decide) (fun c1 => ?_) (fun c1 => ?_)
  · refine r_iconst (pc := 13) C (0) dX8_isBelow_13 (by decide) ?_
    refine q_zret (pc := 14) C dX8_isBelow_14 rfl (Or.inl rfl) ?_
    exact ⟨b1f (fun h => absurd c1 (Int32.not_lt.mpr h.1)), rfl⟩
  · refine r_iload_n (pc := 4) C dX8_isBelow_4 rfl ?_
    refine r_iload_n (pc := 5) C dX8_isBelow_5 rfl ?_
    refine r_icmp_ge (pc := 6) C 13 dX8_isBelow_6 (by decide) (fun c6 => ?_) (fun c6 => ?_)
    · refine r_iconst (pc := 13) C (0) dX8_isBelow_13 (by decide) ?_
      refine q_zret (pc := 14) C dX8_isBelow_14 rfl (Or.inl rfl) ?_
      exact ⟨b1f (fun h => absurd h.2 (Int32.not_lt.mpr c6)), rfl⟩
    · refine r_iconst (pc := 9) C (1) dX8_isBelow_9 (by decide) ?_
      refine r_goto (pc := 10) C 14 dX8_isBelow_10 (by decide) ?_
      refine q_zret (pc := 14) C dX8_isBelow_14 rfl (Or.inr rfl) ?_
      exact ⟨b1t ⟨Int32.not_lt.mp c1, Int32.not_le.mp c6⟩, rfl⟩
set_option maxRecDepth 100000 in
theorem c_X9_in64 {G : GG} {kn : Nat} {f : MM} {a b c : Int64} : CI G mX9_in 1 kn [.long a, .long b, .long c] f (b1 (decide (b ≤ a ∧ a ≤ c))) f := by
  refine Ct.ofL [some (.long a), none, some (.long b), none, some (.long c), none] (fun i v h => ?_) (by decide +kernel) rfl (Nat.le_of_ble_eq_true rfl) ?_
  · match i, h with
    | 0, h => cases h; exact List.mem_cons_self
    | 2, h => cases h; exact List.mem_cons_of_mem _ List.mem_cons_self
    | 4, h => cases h; exact List.mem_cons_of_mem _ (List.mem_cons_of_mem _ List.mem_cons_self)
    | 1, h => cases h
    | 3, h => cases h
    | 5, h => cases h
    | n + 6, h => cases h
  intro X C
  refine r_lload_n (pc := 0) C dX9_in_0 rfl ?_
  refine r_lload_n (pc := 1) C dX9_in_1 rfl ?_
  refine r_lcmp (pc := 2) C dX9_in_2 ?_
  refine r_if_lt (pc := 3) C 17 dX9_in_3 (by decide) (fun c3 => ?_) (fun c3 => ?_)
  · refine r_iconst (pc := 17) C (0) dX9_in_17 (by decide) ?_
    refine q_zret (pc := 18) C dX9_in_18 rfl (Or.inl rfl) ?_
    exact ⟨b1f (fun h => absurd (cmp_lt.mp c3) (Int64.not_lt.mpr h.1)), rfl⟩
  · refine r_lload_n (pc := 6) C dX9_in_6 rfl ?_
    refine r_lload (pc := 7) C dX9_in_7 rfl ?_
    refine r_lcmp (pc := 9) C dX9_in_9 ?_
    refine r_if_gt (pc := 10) C 17 dX9_in_10 (by decide) (fun c10 => ?_) (fun c10 => ?_)
    · refine r_iconst (pc := 17) C (0) dX9_in_17 (by decide) ?_
      refine q_zret (pc := 18) C dX9_in_18 rfl (Or.inl rfl) ?_
      exact ⟨b1f (fun h => absurd (cmp_gt.mp c10) (Int64.not_lt.mpr h.2)), rfl⟩
    · refine r_iconst (pc := 13) C (1) dX9_in_13 (by decide) ?_
      refine r_goto (pc := 14) C 18 dX9_in_14 (by decide) ?_
      refine q_zret (pc := 18) C dX9_in_18 rfl (Or.inr rfl) ?_
      exact ⟨b1t ⟨Int64.not_lt.mp (fun h => c3 (cmp_lt.mpr h)), Int64.not_lt.mp (fun h => c10 (cmp_gt.mpr h))⟩, rfl⟩
theorem c_X9_in {G : GG} {kn : Nat} {f : MM} {x lo hi : Int32} {b c : Int64} (hb : b = lo.toInt64) (hc : c = hi.toInt64) : CI G mX9_in 1 kn [.long x.toInt64, .long b, .long c] f (b1 (decide (lo ≤ x ∧ x ≤ hi))) f := by
  subst hb; subst hc
  have e : decide (lo.toInt64 ≤ x.toInt64 ∧ x.toInt64 ≤ hi.toInt64) = decide (lo ≤ x ∧ x ≤ hi) := decide_eq_decide.mpr (by rw [i64le, i64le])
  rw [← e]
  exact c_X9_in64
section RMX
variable {X : XT} {G : GG} {M : MD} {lv mc ms N0 : Nat} {cs sl : Nat} {Q : State → Prop} {N : Nat} {sh : SH} {f : MM} {pc : Nat} {ls : List (Option Value)} {st : List Value}
theorem r_mmax (C : Cx X G M lv mc ms N0) {n idx : Nat} {x y : Int32} (hw : KlS M.1 idx mJ9_max_7cf53 n) (hd : decode M.2.2.1 pc = .ok (.invokestatic idx, 3)) (hlv : 1 ≤ lv) (hr : (st.map fun v => v.category).sum ≤ 8) (hc : cs ≤ mc ∧ sl ≤ ms) (hp : Cond.methodLink M.1 idx yJ9_max_7cf53 ∈ gw) (K : Vw X G M.2.2.2.1 cs sl Q N sh f (pc + 3) ls (.int (if x < y then y else x) :: st)) : Vw X G M.2.2.2.1 cs sl Q N sh f pc ls (.int y :: .int x :: st) := by
  intro H locs arr hP hz hS hl
  obtain ⟨hx, hbb, hml, hown, hts, ⟨hK, hN⟩, -, -, -, -, hR, hsz⟩ := C
  obtain ⟨⟨-, h2, h3, -, -⟩, h4⟩ := hw
  exact va_mmax hx hbb (hml.trans hl.1.symm) hown (hts _ hp) (hts _ h4) (hts _ h2) (hts _ h3) (by rw [hR]; exact hlv) (by rw [hR]; show _ + 13 ≤ 64 * lv + 64; omega) (by rw [hR]; exact hc.1) (by rw [hR]; exact hc.2) hd (K H locs arr hP hz hS hl)
theorem r_mmin (C : Cx X G M lv mc ms N0) {n idx : Nat} {x y : Int32} (hw : KlS M.1 idx mJ9_min_7cf53 n) (hd : decode M.2.2.1 pc = .ok (.invokestatic idx, 3)) (hlv : 1 ≤ lv) (hr : (st.map fun v => v.category).sum ≤ 8) (hc : cs ≤ mc ∧ sl ≤ ms) (hp : Cond.methodLink M.1 idx yJ9_min_7cf53 ∈ gw) (K : Vw X G M.2.2.2.1 cs sl Q N sh f (pc + 3) ls (.int (if y < x then y else x) :: st)) : Vw X G M.2.2.2.1 cs sl Q N sh f pc ls (.int y :: .int x :: st) := by
  intro H locs arr hP hz hS hl
  obtain ⟨hx, hbb, hml, hown, hts, ⟨hK, hN⟩, -, -, -, -, hR, hsz⟩ := C
  obtain ⟨⟨-, h2, h3, -, -⟩, h4⟩ := hw
  exact va_mmin hx hbb (hml.trans hl.1.symm) hown (hts _ hp) (hts _ h4) (hts _ h2) (hts _ h3) (by rw [hR]; exact hlv) (by rw [hR]; show _ + 13 ≤ 64 * lv + 64; omega) (by rw [hR]; exact hc.1) (by rw [hR]; exact hc.2) hd (K H locs arr hP hz hS hl)
end RMX
end
section
/-! THE REFERENCE: rows, tape, small reads -/
def inR (x : Int32) (n : Nat) : Bool := decide (0 ≤ x.toInt ∧ x.toInt < n)
theorem inR_of {x : Int32} {n : Nat} (h : inR x n = true) : ∃ j : Nat, j < n ∧ x = nI j := by
  have h1 := of_decide_eq_true h
  obtain ⟨j, hj, e⟩ := nI_of (x := x) (by rw [Int32.lt_iff_toInt_lt]; simp; exact h1.1)
  subst e
  rw [nI_toInt hj] at h1
  exact ⟨j, by omega, rfl⟩
theorem inR_nI {j n : Nat} (h : j < n) (hb : j < 2147483648) : inR (nI j) n = true := by
  unfold inR
  rw [nI_toInt hb]
  simp; omega
theorem inR_not {j n : Nat} (h : n ≤ j) (hb : j < 2147483648) : inR (nI j) n = false := by
  unfold inR
  rw [nI_toInt hb]
  simp; omega
theorem c_in0 {G : GG} {kn : Nat} {f : MM} {x hi : Int32} {b c : Int64} (n : Nat) (hb : b = 0) (hc : c = hi.toInt64) (hn : hi.toInt + 1 = n) : CI G mX9_in 1 kn [.long x.toInt64, .long b, .long c] f (b1 (inR x n)) f := by
  subst hb
  have e : inR x n = decide ((0 : Int32) ≤ x ∧ x ≤ hi) := decide_eq_decide.mpr (by rw [Int32.le_iff_toInt_le, Int32.le_iff_toInt_le, ← hn]; simp; omega)
  rw [e]
  exact c_X9_in (lo := 0) (by decide) hc
theorem c_blw {G : GG} {kn : Nat} {f : MM} {a b : Int32} (n : Nat) (hb : b = nI n) (hn : n < 2147483648) : CI G mX8_isBelow 1 kn [.int a, .int b] f (b1 (inR a n)) f := by
  subst hb
  have e : inR a n = decide (0 ≤ a ∧ a < nI n) := decide_eq_decide.mpr (by rw [Int32.le_iff_toInt_le, Int32.lt_iff_toInt_lt, nI_toInt hn]; simp)
  rw [e]
  exact c_X8_isBelow
def tn (x : Int32) : Nat := x.toNatClampNeg
theorem tn_nI {j : Nat} (h : j < 2147483648) : tn (nI j) = j := nI_clamp h
theorem pr {α β : Type} {p : α × β} {v : α} {g : β} (h : p = (v, g)) : v = p.1 ∧ g = p.2 := by subst h; exact ⟨rfl, rfl⟩
theorem nI_nat {x : Int32} (h : 0 ≤ x) : x = nI (tn x) := by
  obtain ⟨j, hj, e⟩ := nI_of (x := x) (Int32.not_lt.mpr h)
  subst e
  rw [tn_nI hj]
theorem i32nn {x : Int32} : ¬ x < 0 ↔ 0 ≤ x := Int32.not_lt
theorem nI_m1 {n : Nat} (h : n ≤ 100000) : (nI n - 1).toInt + 1 = (n : Int) := by
  have h2 := pk_sub_toInt (a := n) (b := 1) (by omega) (by omega)
  rw [show (1 : Int32) = nI 1 from rfl, h2]
  omega
/-- a stretch of a row filled with 0, one place more -/
theorem fill_step {g0 : MM} {c a i : Nat} (h : 0 < 1) : u2 (fun k b => if k = c ∧ a ≤ b ∧ b < a + i then 0 else g0 k b) c (a + i) 0 = (fun k b => if k = c ∧ a ≤ b ∧ b < a + (i + 1) then 0 else g0 k b) := by
  funext k b
  simp only [u2]
  by_cases hk : k = c
  · by_cases hb : b = a + i
    · subst hb
      rw [if_pos ⟨hk, rfl⟩, if_pos ⟨hk, by omega, by omega⟩]
    · rw [if_neg (fun q => hb q.2)]
      by_cases h1 : k = c ∧ a ≤ b ∧ b < a + i
      · rw [if_pos h1, if_pos ⟨hk, h1.2.1, by omega⟩]
      · rw [if_neg h1, if_neg (fun q => h1 ⟨hk, q.2.1, by omega⟩)]
  · rw [if_neg (fun q => hk q.1), if_neg (fun q => hk q.1), if_neg (fun q => hk q.1)]
/-- a number cut to a lane -/
def asL (lane v : Int32) : Int32 := if lane = 0 then v <<< ((24 : Int32) &&& 31) >>> ((24 : Int32) &&& 31) else if lane = 1 then v <<< ((16 : Int32) &&& 31) >>> ((16 : Int32) &&& 31) else v

set_option maxRecDepth 100000 in
set_option maxHeartbeats 4000000 in
theorem c_X9_find {G : GG} {kn : Nat} {f : MM} {a : Int32} : CI G mX9_find 1 kn [.ref (G.1 + 85), .int a] f (-1000010 - a) (u2 f 85 3 a) := by
  refine Ct.of [some (.ref (G.1 + 85)), some (.int a)] rfl (by decide +kernel) rfl (Nat.le_of_ble_eq_true rfl) rfl ?_
  intro X C
  refine r_aload_n (pc := 0) C dX9_find_0 rfl ?_
  refine r_iload_n (pc := 1) C dX9_find_1 rfl ?_
  refine r_put (pc := 2) C fX9_59 ftX9_3 dX9_find_2 (s_85 _) rfl ?_
  refine r_ldc (pc := 5) C (-1000010) kX9_63 dX9_find_5 ?_
  refine r_iload_n (pc := 7) C dX9_find_7 rfl ?_
  refine r_isub (pc := 8) C dX9_find_8 ?_
  refine q_iret (pc := 9) C dX9_find_9 rfl ?_
  exact ⟨rfl, rfl⟩
set_option maxRecDepth 100000 in
set_option maxHeartbeats 4000000 in
theorem c_X9_well {G : GG} {kn : Nat} {f : MM} {a : Int32} : CI G mX9_well 1 kn [.ref (G.1 + 85), .int a] f a (u2 f 85 3 0) := by
  refine Ct.of [some (.ref (G.1 + 85)), some (.int a)] rfl (by decide +kernel) rfl (Nat.le_of_ble_eq_true rfl) rfl ?_
  intro X C
  refine r_aload_n (pc := 0) C dX9_well_0 rfl ?_
  refine r_iconst (pc := 1) C (0) dX9_well_1 (by decide) ?_
  refine r_put (pc := 2) C fX9_59 ftX9_3 dX9_well_2 (s_85 _) rfl ?_
  refine r_iload_n (pc := 5) C dX9_well_5 rfl ?_
  refine q_iret (pc := 6) C dX9_well_6 rfl ?_
  exact ⟨rfl, rfl⟩
set_option maxRecDepth 100000 in
set_option maxHeartbeats 4000000 in
theorem c_X9_isRow {G : GG} {kn : Nat} {f : MM} {a : Int32} : CI G mX9_isRow 2 kn [.int a] f (b1 (inR a 8)) f := by
  refine Ct.of [some (.int a)] rfl (by decide +kernel) rfl (Nat.le_of_ble_eq_true rfl) rfl ?_
  intro X C
  refine r_iload_n (pc := 0) C dX9_isRow_0 rfl ?_
  refine r_i2l (pc := 1) C dX9_isRow_1 ?_
  refine r_lconst (pc := 2) C (0) dX9_isRow_2 (by decide) ?_
  refine r_ldc2 (pc := 3) C (7) kX9_64 dX9_isRow_3 ?_
  refine q_sIf (pc := 6) C kX9_66 dX9_isRow_6 (c_in0 (hi := 7) 8 rfl (by decide) (by decide)) rfl rfl (Nat.le_of_ble_eq_true rfl) (by decide) ⟨by decide, by decide⟩ ?_
  refine q_zret (pc := 9) C dX9_isRow_9 rfl (b1_z _) ?_
  exact ⟨rfl, rfl⟩
def R_rowF (f : MM) (j : Nat) (l n : Int32) : MM := u2 (fun k b => if k = 88 ∧ 40 * j ≤ b ∧ b < 40 * j + 40 then 0 else u2 (u2 f 86 j l) 87 j n k b) 85 3 0
def R_row (f : MM) (r l n : Int32) : Int32 × MM :=
  if inR r 8 = true then if inR l 3 = true then if n ≤ 40 then if 0 ≤ n then (n, R_rowF f (tn r) l n) else (-1000014, u2 f 85 3 4) else (-1000001, f) else (-1000001, f) else (-1000001, f)
set_option maxRecDepth 100000 in
set_option maxHeartbeats 4000000 in
theorem l_X9_row {X : XT} {G : GG} {kn : Nat} {Q : State → Prop} {g0 : MM} {j : Nat} {l n : Int32} (C : Cx X G mX9_row 3 0 0 (NN kn)) (hj : j < 8) (K : ∀ g : MM, (fun i g => g = (fun k b => if k = 88 ∧ 40 * j ≤ b ∧ b < 40 * j + i then 0 else g0 k b)) 40 g → Vw X G mX9_row.2.2.2.1 0 0 Q (NN kn) (shF kn) g 81 [some (.ref (G.1 + 85)), some (.int (nI j)), some (.int l), some (.int n), some (.int (nI 40))] []) : ∀ (m i : Nat) (g : MM), i + m = 40 → (fun i g => g = (fun k b => if k = 88 ∧ 40 * j ≤ b ∧ b < 40 * j + i then 0 else g0 k b)) i g → Vw X G mX9_row.2.2.2.1 0 0 Q (NN kn) (shF kn) g 55 [some (.ref (G.1 + 85)), some (.int (nI j)), some (.int l), some (.int n), some (.int (nI i))] [] := by
  intro m
  induction m with
  | zero =>
    intro i g hm hg
    obtain rfl : 40 = i := by omega
    refine r_iload (pc := 55) C dX9_row_55 rfl ?_
    refine r_bipush (pc := 57) C (40) dX9_row_57 (by decide) ?_
    refine q_ge (pc := 59) C 40 40 81 rfl rfl (by omega) (by omega) dX9_row_59 (by decide) (fun c59 => ?_) (fun c59 => ?_)
    · exact K _ hg
    · exact absurd c59 (by omega)
  | succ m ih =>
    intro i g hm hg
    refine r_iload (pc := 55) C dX9_row_55 rfl ?_
    refine r_bipush (pc := 57) C (40) dX9_row_57 (by decide) ?_
    refine q_ge (pc := 59) C i 40 81 rfl rfl (by omega) (by omega) dX9_row_59 (by decide) (fun c59 => ?_) (fun c59 => ?_)
    · exact absurd c59 (by omega)
    · refine r_aload_n (pc := 62) C dX9_row_62 rfl ?_
      refine r_getr (pc := 63) C fX9_16 dX9_row_63 (s_85 _) rfl rfl ?_
      refine r_bipush (pc := 66) C (40) dX9_row_66 (by decide) ?_
      refine r_iload_n (pc := 68) C dX9_row_68 rfl ?_
      refine r_imul (pc := 69) C dX9_row_69 ?_
      refine r_iload (pc := 70) C dX9_row_70 rfl ?_
      refine r_iadd (pc := 72) C dX9_row_72 ?_
      refine r_iconst (pc := 73) C (0) dX9_row_73 (by decide) ?_
      refine q_iast (pc := 74) C ((40 * j) + i) dX9_row_74 (s_88 _) (sn_88 _) ((congr (congrArg _ (pk_mul 40 j)) rfl).trans (nI_add (40 * j) i)) (by omega) (by decide) ?_
      refine r_iinc (pc := 75) C (nI (i + 1)) dX9_row_75 rfl (nI_inc _) (by decide) rfl ?_
      refine r_goto (pc := 78) C 55 dX9_row_78 (by decide) ?_
      refine ih (i + 1) _ (by omega) ?_
      subst hg
      exact fill_step (by omega)
set_option maxRecDepth 100000 in
set_option maxHeartbeats 4000000 in
theorem c_X9_row {G : GG} {kn : Nat} {f : MM} {a b c : Int32} : CI G mX9_row 3 kn [.ref (G.1 + 85), .int a, .int b, .int c] f (R_row f a b c).1 (R_row f a b c).2 := by
  refine Ct.of [some (.ref (G.1 + 85)), some (.int a), some (.int b), some (.int c), none] rfl (by decide +kernel) rfl (Nat.le_of_ble_eq_true rfl) rfl ?_
  intro X C
  refine r_iload_n (pc := 0) C dX9_row_0 rfl ?_
  refine q_sIf (pc := 1) C kX9_70 dX9_row_1 (c_X9_isRow) rfl rfl (Nat.le_of_ble_eq_true rfl) (by decide) ⟨by decide, by decide⟩ ?_
  refine r_if_eq (pc := 4) C 25 dX9_row_4 (by decide) (fun c4 => ?_) (fun c4 => ?_)
  · replace c4 := b1_0 c4
    refine r_ldc (pc := 25) C (-1000001) kX9_76 dX9_row_25 ?_
    refine q_iret (pc := 27) C dX9_row_27 rfl ?_
    exact pr (by simp [R_row, *])
  · replace c4 := b1_1 c4
    obtain ⟨j, hj, rfl⟩ := inR_of c4
    refine r_iload_n (pc := 7) C dX9_row_7 rfl ?_
    refine r_i2l (pc := 8) C dX9_row_8 ?_
    refine r_lconst (pc := 9) C (0) dX9_row_9 (by decide) ?_
    refine r_ldc2 (pc := 10) C (2) kX9_74 dX9_row_10 ?_
    refine q_sIf (pc := 13) C kX9_66 dX9_row_13 (c_in0 (hi := 2) 3 rfl (by decide) (by decide)) rfl rfl (Nat.le_of_ble_eq_true rfl) (by decide) ⟨by decide, by decide⟩ ?_
    refine r_if_eq (pc := 16) C 25 dX9_row_16 (by decide) (fun c16 => ?_) (fun c16 => ?_)
    · replace c16 := b1_0 c16
      refine r_ldc (pc := 25) C (-1000001) kX9_76 dX9_row_25 ?_
      refine q_iret (pc := 27) C dX9_row_27 rfl ?_
      exact pr (by simp [R_row, *])
    · replace c16 := b1_1 c16
      refine r_iload_n (pc := 19) C dX9_row_19 rfl ?_
      refine r_bipush (pc := 20) C (40) dX9_row_20 (by decide) ?_
      refine r_icmp_le (pc := 22) C 28 dX9_row_22 (by decide) (fun c22 => ?_) (fun c22 => ?_)
      · refine r_iload_n (pc := 28) C dX9_row_28 rfl ?_
        refine r_if_ge (pc := 29) C 38 dX9_row_29 (by decide) (fun c29 => ?_) (fun c29 => ?_)
        · refine r_aload_n (pc := 38) C dX9_row_38 rfl ?_
          refine r_getr (pc := 39) C fX9_7 dX9_row_39 (s_85 _) rfl rfl ?_
          refine r_iload_n (pc := 42) C dX9_row_42 rfl ?_
          refine r_iload_n (pc := 43) C dX9_row_43 rfl ?_
          refine q_iast (pc := 44) C j dX9_row_44 (s_86 _) (sn_86 _) rfl (by omega) (by decide) ?_
          refine r_aload_n (pc := 45) C dX9_row_45 rfl ?_
          refine r_getr (pc := 46) C fX9_13 dX9_row_46 (s_85 _) rfl rfl ?_
          refine r_iload_n (pc := 49) C dX9_row_49 rfl ?_
          refine r_iload_n (pc := 50) C dX9_row_50 rfl ?_
          refine q_iast (pc := 51) C j dX9_row_51 (s_87 _) (sn_87 _) rfl (by omega) (by decide) ?_
          refine r_iconst (pc := 52) C (0) dX9_row_52 (by decide) ?_
          refine r_istore (pc := 53) C dX9_row_53 (by decide) rfl ?_
          refine l_X9_row (j := j) (g0 := u2 (u2 f 86 j b) 87 j c) C hj ?_ 40 0 _ rfl (by funext k b; rw [if_neg (by omega)])
          intro g hg
          subst hg
          refine r_aload_n (pc := 81) C dX9_row_81 rfl ?_
          refine r_iload_n (pc := 82) C dX9_row_82 rfl ?_
          refine q_vIf (pc := 83) C kX9_81 dX9_row_83 (c_X9_well) (s_85 _) rfl rfl (Nat.le_of_ble_eq_true rfl) (by decide) ⟨by decide, by decide⟩ ?_
          refine q_iret (pc := 86) C dX9_row_86 rfl ?_
          exact pr (by simp [R_row, R_rowF, c4, c16, c22, c29, tn_nI (show j < 2147483648 by omega)])
        · refine r_aload_n (pc := 32) C dX9_row_32 rfl ?_
          refine r_iconst (pc := 33) C (4) dX9_row_33 (by decide) ?_
          refine q_vIf (pc := 34) C kX9_77 dX9_row_34 (c_X9_find) (s_85 _) rfl rfl (Nat.le_of_ble_eq_true rfl) (by decide) ⟨by decide, by decide⟩ ?_
          refine q_iret (pc := 37) C dX9_row_37 rfl ?_
          exact pr (by simp [R_row, *])
      · refine r_ldc (pc := 25) C (-1000001) kX9_76 dX9_row_25 ?_
        refine q_iret (pc := 27) C dX9_row_27 rfl ?_
        exact pr (by simp [R_row, *])
set_option maxRecDepth 100000 in
set_option maxHeartbeats 4000000 in
theorem c_X9_asLane {G : GG} {kn : Nat} {f : MM} {a b : Int32} : CI G mX9_asLane 1 kn [.int a, .int b] f (asL a b) f := by
  refine Ct.of [some (.int a), some (.int b)] rfl (by decide +kernel) rfl (Nat.le_of_ble_eq_true rfl) rfl ?_
  intro X C
  refine r_iload_n (pc := 0) C dX9_asLane_0 rfl ?_
  refine r_if_ne (pc := 1) C 14 dX9_asLane_1 (by decide) (fun c1 => ?_) (fun c1 => ?_)
  · refine r_iload_n (pc := 14) C dX9_asLane_14 rfl ?_
    refine r_iconst (pc := 15) C (1) dX9_asLane_15 (by decide) ?_
    refine r_icmp_ne (pc := 16) C 29 dX9_asLane_16 (by decide) (fun c16 => ?_) (fun c16 => ?_)
    · refine r_iload_n (pc := 29) C dX9_asLane_29 rfl ?_
      refine q_iret (pc := 30) C dX9_asLane_30 rfl ?_
      exact ⟨by simp [asL, *], rfl⟩
    · refine r_iload_n (pc := 19) C dX9_asLane_19 rfl ?_
      refine r_bipush (pc := 20) C (16) dX9_asLane_20 (by decide) ?_
      refine r_ishl (pc := 22) C dX9_asLane_22 ?_
      refine r_bipush (pc := 23) C (16) dX9_asLane_23 (by decide) ?_
      refine r_ishr (pc := 25) C dX9_asLane_25 ?_
      refine r_goto (pc := 26) C 30 dX9_asLane_26 (by decide) ?_
      refine q_iret (pc := 30) C dX9_asLane_30 rfl ?_
      exact ⟨by simp [asL, *], rfl⟩
  · refine r_iload_n (pc := 4) C dX9_asLane_4 rfl ?_
    refine r_bipush (pc := 5) C (24) dX9_asLane_5 (by decide) ?_
    refine r_ishl (pc := 7) C dX9_asLane_7 ?_
    refine r_bipush (pc := 8) C (24) dX9_asLane_8 (by decide) ?_
    refine r_ishr (pc := 10) C dX9_asLane_10 ?_
    refine r_goto (pc := 11) C 30 dX9_asLane_11 (by decide) ?_
    refine q_iret (pc := 30) C dX9_asLane_30 rfl ?_
    exact ⟨by simp [asL, *], rfl⟩
/-- the sizes that are there are sizes -/
def szOK (f : MM) : Prop := ∀ j, j < 8 → (f 87 j = -1 ∨ ∃ n, n ≤ 40 ∧ f 87 j = nI n)
theorem szOK.of {f : MM} (h : szOK f) {j : Nat} (hj : j < 8) (h0 : 0 ≤ f 87 j) : ∃ n, n ≤ 40 ∧ f 87 j = nI n := by
  rcases h j hj with e | e
  · rw [e] at h0; exact absurd h0 (by decide)
  · exact e
def R_set (f : MM) (r i v : Int32) : Int32 × MM :=
  if inR r 8 = true then if 0 ≤ f 87 (tn r) then if inR i (tn (f 87 (tn r))) = true then (asL (f 86 (tn r)) v, u2 (u2 f 88 (40 * tn r + tn i) (asL (f 86 (tn r)) v)) 85 3 0) else (-1000012, u2 f 85 3 2) else (-1000011, u2 f 85 3 1) else (-1000001, f)
set_option maxRecDepth 100000 in
set_option maxHeartbeats 4000000 in
theorem c_X9_set {G : GG} {kn : Nat} {f : MM} (hsz : szOK f) {a b c : Int32} : CI G mX9_set 3 kn [.ref (G.1 + 85), .int a, .int b, .int c] f (R_set f a b c).1 (R_set f a b c).2 := by
  refine Ct.of [some (.ref (G.1 + 85)), some (.int a), some (.int b), some (.int c)] rfl (by decide +kernel) rfl (Nat.le_of_ble_eq_true rfl) rfl ?_
  intro X C
  refine r_iload_n (pc := 0) C dX9_set_0 rfl ?_
  refine q_sIf (pc := 1) C kX9_70 dX9_set_1 (c_X9_isRow) rfl rfl (Nat.le_of_ble_eq_true rfl) (by decide) ⟨by decide, by decide⟩ ?_
  refine r_if_ne (pc := 4) C 10 dX9_set_4 (by decide) (fun c4 => ?_) (fun c4 => ?_)
  · replace c4 := b1_1 c4
    obtain ⟨j, hj, rfl⟩ := inR_of c4
    have tj : tn (nI j) = j := tn_nI (by omega)
    refine r_aload_n (pc := 10) C dX9_set_10 rfl ?_
    refine r_getr (pc := 11) C fX9_13 dX9_set_11 (s_85 _) rfl rfl ?_
    refine r_iload_n (pc := 14) C dX9_set_14 rfl ?_
    refine q_iald (pc := 15) C j dX9_set_15 (s_87 _) (sn_87 _) rfl (by omega) (by decide) ?_
    refine r_if_ge (pc := 16) C 25 dX9_set_16 (by decide) (fun c16 => ?_) (fun c16 => ?_)
    · obtain ⟨n, hn, en⟩ := hsz.of hj c16
      have tnn : tn (f 87 j) = n := by rw [en, tn_nI (by omega)]
      refine r_iload_n (pc := 25) C dX9_set_25 rfl ?_
      refine r_i2l (pc := 26) C dX9_set_26 ?_
      refine r_lconst (pc := 27) C (0) dX9_set_27 (by decide) ?_
      refine r_aload_n (pc := 28) C dX9_set_28 rfl ?_
      refine r_getr (pc := 29) C fX9_13 dX9_set_29 (s_85 _) rfl rfl ?_
      refine r_iload_n (pc := 32) C dX9_set_32 rfl ?_
      refine q_iald (pc := 33) C j dX9_set_33 (s_87 _) (sn_87 _) rfl (by omega) (by decide) ?_
      refine r_iconst (pc := 34) C (1) dX9_set_34 (by decide) ?_
      refine r_isub (pc := 35) C dX9_set_35 ?_
      refine r_i2l (pc := 36) C dX9_set_36 ?_
      refine q_sIf (pc := 37) C kX9_66 dX9_set_37 (c_in0 (hi := f 87 j - 1) n rfl rfl (by rw [en]; exact nI_m1 (by omega))) rfl rfl (Nat.le_of_ble_eq_true rfl) (by decide) ⟨by decide, by decide⟩ ?_
      refine r_if_ne (pc := 40) C 49 dX9_set_40 (by decide) (fun c40 => ?_) (fun c40 => ?_)
      · replace c40 := b1_1 c40
        obtain ⟨i, hi, rfl⟩ := inR_of c40
        have ti : tn (nI i) = i := tn_nI (by omega)
        refine r_aload_n (pc := 49) C dX9_set_49 rfl ?_
        refine r_getr (pc := 50) C fX9_16 dX9_set_50 (s_85 _) rfl rfl ?_
        refine r_bipush (pc := 53) C (40) dX9_set_53 (by decide) ?_
        refine r_iload_n (pc := 55) C dX9_set_55 rfl ?_
        refine r_imul (pc := 56) C dX9_set_56 ?_
        refine r_iload_n (pc := 57) C dX9_set_57 rfl ?_
        refine r_iadd (pc := 58) C dX9_set_58 ?_
        refine r_aload_n (pc := 59) C dX9_set_59 rfl ?_
        refine r_getr (pc := 60) C fX9_7 dX9_set_60 (s_85 _) rfl rfl ?_
        refine r_iload_n (pc := 63) C dX9_set_63 rfl ?_
        refine q_iald (pc := 64) C j dX9_set_64 (s_86 _) (sn_86 _) rfl (by omega) (by decide) ?_
        refine r_iload_n (pc := 65) C dX9_set_65 rfl ?_
        refine q_sIf (pc := 66) C kX9_84 dX9_set_66 (c_X9_asLane) rfl rfl (Nat.le_of_ble_eq_true rfl) (by decide) ⟨by decide, by decide⟩ ?_
        refine q_iast (pc := 69) C ((40 * j) + i) dX9_set_69 (s_88 _) (sn_88 _) ((congr (congrArg _ (pk_mul 40 j)) rfl).trans (nI_add (40 * j) i)) (by omega) (by decide) ?_
        refine r_aload_n (pc := 70) C dX9_set_70 rfl ?_
        refine r_aload_n (pc := 71) C dX9_set_71 rfl ?_
        refine r_getr (pc := 72) C fX9_16 dX9_set_72 (s_85 _) rfl rfl ?_
        refine r_bipush (pc := 75) C (40) dX9_set_75 (by decide) ?_
        refine r_iload_n (pc := 77) C dX9_set_77 rfl ?_
        refine r_imul (pc := 78) C dX9_set_78 ?_
        refine r_iload_n (pc := 79) C dX9_set_79 rfl ?_
        refine r_iadd (pc := 80) C dX9_set_80 ?_
        refine q_iald (pc := 81) C ((40 * j) + i) dX9_set_81 (s_88 _) (sn_88 _) ((congr (congrArg _ (pk_mul 40 j)) rfl).trans (nI_add (40 * j) i)) (by omega) (by decide) ?_
        refine q_vIf (pc := 82) C kX9_81 dX9_set_82 (c_X9_well) (s_85 _) rfl rfl (Nat.le_of_ble_eq_true rfl) (by decide) ⟨by decide, by decide⟩ ?_
        refine q_iret (pc := 85) C dX9_set_85 rfl ?_
        exact pr (by simp [R_set, u2, c4, tj, c16, tnn, c40, ti])
      · replace c40 := b1_0 c40
        refine r_aload_n (pc := 43) C dX9_set_43 rfl ?_
        refine r_iconst (pc := 44) C (2) dX9_set_44 (by decide) ?_
        refine q_vIf (pc := 45) C kX9_77 dX9_set_45 (c_X9_find) (s_85 _) rfl rfl (Nat.le_of_ble_eq_true rfl) (by decide) ⟨by decide, by decide⟩ ?_
        refine q_iret (pc := 48) C dX9_set_48 rfl ?_
        exact pr (by simp [R_set, u2, c4, tj, c16, tnn, c40])
    · refine r_aload_n (pc := 19) C dX9_set_19 rfl ?_
      refine r_iconst (pc := 20) C (1) dX9_set_20 (by decide) ?_
      refine q_vIf (pc := 21) C kX9_77 dX9_set_21 (c_X9_find) (s_85 _) rfl rfl (Nat.le_of_ble_eq_true rfl) (by decide) ⟨by decide, by decide⟩ ?_
      refine q_iret (pc := 24) C dX9_set_24 rfl ?_
      exact pr (by simp [R_set, u2, c4, tj, c16])
  · replace c4 := b1_0 c4
    refine r_ldc (pc := 7) C (-1000001) kX9_76 dX9_set_7 ?_
    refine q_iret (pc := 9) C dX9_set_9 rfl ?_
    exact pr (by simp [R_set, u2, c4])
def R_drop (f : MM) (r : Int32) : Int32 × MM :=
  if inR r 8 = true then if 0 ≤ f 87 (tn r) then (f 87 (tn r), u2 (u2 f 87 (tn r) (-1)) 85 3 0) else (-1000011, u2 f 85 3 1) else (-1000001, f)
set_option maxRecDepth 100000 in
set_option maxHeartbeats 4000000 in
theorem c_X9_drop {G : GG} {kn : Nat} {f : MM} {a : Int32} : CI G mX9_drop 3 kn [.ref (G.1 + 85), .int a] f (R_drop f a).1 (R_drop f a).2 := by
  refine Ct.of [some (.ref (G.1 + 85)), some (.int a), none] rfl (by decide +kernel) rfl (Nat.le_of_ble_eq_true rfl) rfl ?_
  intro X C
  refine r_iload_n (pc := 0) C dX9_drop_0 rfl ?_
  refine q_sIf (pc := 1) C kX9_70 dX9_drop_1 (c_X9_isRow) rfl rfl (Nat.le_of_ble_eq_true rfl) (by decide) ⟨by decide, by decide⟩ ?_
  refine r_if_ne (pc := 4) C 10 dX9_drop_4 (by decide) (fun c4 => ?_) (fun c4 => ?_)
  · replace c4 := b1_1 c4
    obtain ⟨j, hj, rfl⟩ := inR_of c4
    have tj : tn (nI j) = j := tn_nI (by omega)
    refine r_aload_n (pc := 10) C dX9_drop_10 rfl ?_
    refine r_getr (pc := 11) C fX9_13 dX9_drop_11 (s_85 _) rfl rfl ?_
    refine r_iload_n (pc := 14) C dX9_drop_14 rfl ?_
    refine q_iald (pc := 15) C j dX9_drop_15 (s_87 _) (sn_87 _) rfl (by omega) (by decide) ?_
    refine r_if_ge (pc := 16) C 25 dX9_drop_16 (by decide) (fun c16 => ?_) (fun c16 => ?_)
    · refine r_aload_n (pc := 25) C dX9_drop_25 rfl ?_
      refine r_getr (pc := 26) C fX9_13 dX9_drop_26 (s_85 _) rfl rfl ?_
      refine r_iload_n (pc := 29) C dX9_drop_29 rfl ?_
      refine q_iald (pc := 30) C j dX9_drop_30 (s_87 _) (sn_87 _) rfl (by omega) (by decide) ?_
      refine r_istore_n (pc := 31) C dX9_drop_31 (by decide) rfl ?_
      refine r_aload_n (pc := 32) C dX9_drop_32 rfl ?_
      refine r_getr (pc := 33) C fX9_13 dX9_drop_33 (s_85 _) rfl rfl ?_
      refine r_iload_n (pc := 36) C dX9_drop_36 rfl ?_
      refine r_iconst (pc := 37) C (-1) dX9_drop_37 (by decide) ?_
      refine q_iast (pc := 38) C j dX9_drop_38 (s_87 _) (sn_87 _) rfl (by omega) (by decide) ?_
      refine r_aload_n (pc := 39) C dX9_drop_39 rfl ?_
      refine r_iload_n (pc := 40) C dX9_drop_40 rfl ?_
      refine q_vIf (pc := 41) C kX9_81 dX9_drop_41 (c_X9_well) (s_85 _) rfl rfl (Nat.le_of_ble_eq_true rfl) (by decide) ⟨by decide, by decide⟩ ?_
      refine q_iret (pc := 44) C dX9_drop_44 rfl ?_
      exact pr (by simp [R_drop, *])
    · refine r_aload_n (pc := 19) C dX9_drop_19 rfl ?_
      refine r_iconst (pc := 20) C (1) dX9_drop_20 (by decide) ?_
      refine q_vIf (pc := 21) C kX9_77 dX9_drop_21 (c_X9_find) (s_85 _) rfl rfl (Nat.le_of_ble_eq_true rfl) (by decide) ⟨by decide, by decide⟩ ?_
      refine q_iret (pc := 24) C dX9_drop_24 rfl ?_
      exact pr (by simp [R_drop, *])
  · replace c4 := b1_0 c4
    refine r_ldc (pc := 7) C (-1000001) kX9_76 dX9_drop_7 ?_
    refine q_iret (pc := 9) C dX9_drop_9 rfl ?_
    exact pr (by simp [R_drop, *])
def R_feed (f : MM) (a : Int32) : Int32 × MM :=
  if inR a 256 = true then if f 85 8 = 120 then (-1000003, f) else (f 85 8 + 1, u2 (u2 f 91 (tn (f 85 8)) a) 85 8 (f 85 8 + 1)) else (-1000001, f)
set_option maxRecDepth 100000 in
set_option maxHeartbeats 4000000 in
theorem c_X9_feed {G : GG} {kn : Nat} {f : MM} {q : Nat} (hq : q ≤ 120) (eq : f 85 8 = nI q) {a : Int32} : CI G mX9_feed 2 kn [.ref (G.1 + 85), .int a] f (R_feed f a).1 (R_feed f a).2 := by
  refine Ct.of [some (.ref (G.1 + 85)), some (.int a)] rfl (by decide +kernel) rfl (Nat.le_of_ble_eq_true rfl) rfl ?_
  intro X C
  have tq : tn (f 85 8) = q := by rw [eq, tn_nI (by omega)]
  refine r_iload_n (pc := 0) C dX9_feed_0 rfl ?_
  refine r_i2l (pc := 1) C dX9_feed_1 ?_
  refine r_lconst (pc := 2) C (0) dX9_feed_2 (by decide) ?_
  refine r_ldc2 (pc := 3) C (255) kX9_88 dX9_feed_3 ?_
  refine q_sIf (pc := 6) C kX9_66 dX9_feed_6 (c_in0 (hi := 255) 256 rfl (by decide) (by decide)) rfl rfl (Nat.le_of_ble_eq_true rfl) (by decide) ⟨by decide, by decide⟩ ?_
  refine r_if_ne (pc := 9) C 15 dX9_feed_9 (by decide) (fun c9 => ?_) (fun c9 => ?_)
  · replace c9 := b1_1 c9
    refine r_aload_n (pc := 15) C dX9_feed_15 rfl ?_
    refine r_get (pc := 16) C fX9_90 dX9_feed_16 (s_85 _) rfl ?_
    refine r_bipush (pc := 19) C (120) dX9_feed_19 (by decide) ?_
    refine r_icmp_ne (pc := 21) C 27 dX9_feed_21 (by decide) (fun c21 => ?_) (fun c21 => ?_)
    · have q120 : q < 120 := by
        rcases Nat.lt_or_ge q 120 with z | z
        · exact z
        · exact absurd (by rw [eq, show q = 120 by omega]; rfl) c21
      refine r_aload_n (pc := 27) C dX9_feed_27 rfl ?_
      refine r_getr (pc := 28) C fX9_25 dX9_feed_28 (s_85 _) rfl rfl ?_
      refine r_aload_n (pc := 31) C dX9_feed_31 rfl ?_
      refine r_get (pc := 32) C fX9_90 dX9_feed_32 (s_85 _) rfl ?_
      refine r_iload_n (pc := 35) C dX9_feed_35 rfl ?_
      refine q_iast (pc := 36) C q dX9_feed_36 (s_91 _) (sn_91 _) eq (by omega) (by decide) ?_
      refine r_aload_n (pc := 37) C dX9_feed_37 rfl ?_
      refine r_dup (pc := 38) C dX9_feed_38 rfl ?_
      refine r_get (pc := 39) C fX9_90 dX9_feed_39 (s_85 _) rfl ?_
      refine r_iconst (pc := 42) C (1) dX9_feed_42 (by decide) ?_
      refine r_iadd (pc := 43) C dX9_feed_43 ?_
      refine r_put (pc := 44) C fX9_90 ftX9_8 dX9_feed_44 (s_85 _) rfl ?_
      refine r_aload_n (pc := 47) C dX9_feed_47 rfl ?_
      refine r_get (pc := 48) C fX9_90 dX9_feed_48 (s_85 _) rfl ?_
      refine q_iret (pc := 51) C dX9_feed_51 rfl ?_
      exact pr (by simp [R_feed, u2, tq, c9, c21])
    · refine r_ldc (pc := 24) C (-1000003) kX9_93 dX9_feed_24 ?_
      refine q_iret (pc := 26) C dX9_feed_26 rfl ?_
      exact pr (by simp [R_feed, u2, tq, c9, c21])
  · replace c9 := b1_0 c9
    refine r_ldc (pc := 12) C (-1000001) kX9_76 dX9_feed_12 ?_
    refine q_iret (pc := 14) C dX9_feed_14 rfl ?_
    exact pr (by simp [R_feed, u2, tq, c9])
def hasB (s : Int32) (i : Nat) : Bool := ((s >>> (nI i &&& 31)) &&& 1) == 1
set_option maxRecDepth 100000 in
set_option maxHeartbeats 4000000 in
theorem c_X9_has {G : GG} {kn : Nat} {f : MM} {a b : Int32} {i : Nat} (hb : b = nI i) : CI G mX9_has 1 kn [.int a, .int b] f (b1 (hasB a i)) f := by
  refine Ct.of [some (.int a), some (.int b)] rfl (by decide +kernel) rfl (Nat.le_of_ble_eq_true rfl) rfl ?_
  intro X C
  subst hb
  refine r_iload_n (pc := 0) C dX9_has_0 rfl ?_
  refine r_iload_n (pc := 1) C dX9_has_1 rfl ?_
  refine r_ishr (pc := 2) C dX9_has_2 ?_
  refine r_iconst (pc := 3) C (1) dX9_has_3 (by decide) ?_
  refine r_iand (pc := 4) C dX9_has_4 ?_
  refine r_iconst (pc := 5) C (1) dX9_has_5 (by decide) ?_
  refine r_icmp_ne (pc := 6) C 13 dX9_has_6 (by decide) (fun c6 => ?_) (fun c6 => ?_)
  · refine r_iconst (pc := 13) C (0) dX9_has_13 (by decide) ?_
    refine q_zret (pc := 14) C dX9_has_14 rfl (Or.inl rfl) ?_
    refine ⟨?_, rfl⟩
    simp [hasB, b1, c6]
  · refine r_iconst (pc := 9) C (1) dX9_has_9 (by decide) ?_
    refine r_goto (pc := 10) C 14 dX9_has_10 (by decide) ?_
    refine q_zret (pc := 14) C dX9_has_14 rfl (Or.inr rfl) ?_
    refine ⟨?_, rfl⟩
    simp [hasB, b1, c6]
set_option maxRecDepth 100000 in
set_option maxHeartbeats 4000000 in
theorem c_X9_fault {G : GG} {kn : Nat} {f : MM}  : CI G mX9_fault 1 kn [.ref (G.1 + 85)] f (f 85 9) f := by
  refine Ct.of [some (.ref (G.1 + 85))] rfl (by decide +kernel) rfl (Nat.le_of_ble_eq_true rfl) rfl ?_
  intro X C
  refine r_aload_n (pc := 0) C dX9_fault_0 rfl ?_
  refine r_get (pc := 1) C fX9_150 dX9_fault_1 (s_85 _) rfl ?_
  refine q_iret (pc := 4) C dX9_fault_4 rfl ?_
  exact ⟨rfl, rfl⟩
set_option maxRecDepth 100000 in
set_option maxHeartbeats 4000000 in
theorem c_X9_status {G : GG} {kn : Nat} {f : MM}  : CI G mX9_status 1 kn [.ref (G.1 + 85)] f (f 85 3) f := by
  refine Ct.of [some (.ref (G.1 + 85))] rfl (by decide +kernel) rfl (Nat.le_of_ble_eq_true rfl) rfl ?_
  intro X C
  refine r_aload_n (pc := 0) C dX9_status_0 rfl ?_
  refine r_get (pc := 1) C fX9_59 dX9_status_1 (s_85 _) rfl ?_
  refine q_iret (pc := 4) C dX9_status_4 rfl ?_
  exact ⟨rfl, rfl⟩
def cntS (f : MM) : Nat → Int32
  | 0 => 0
  | n + 1 => cntS f n + (if 0 ≤ f 87 n then 1 else 0)
def R_count (f : MM) (w : Int32) : Int32 :=
  if w = 0 then cntS f 8 else if w = 1 then f 89 8 else if w = 2 then f 89 13 else if w = 3 then f 89 9 else if w = 4 then f 89 10 else if w = 5 then f 89 11 else if w = 6 then f 89 12 else if w = 7 then f 85 18 else if w = 8 then f 85 8 else -1000001
set_option maxRecDepth 100000 in
set_option maxHeartbeats 4000000 in
theorem l_X9_count {X : XT} {G : GG} {kn : Nat} {Q : State → Prop} {f : MM} {a : Int32} (C : Cx X G mX9_count 1 0 0 (NN kn))  (K : ∀ g : MM, (fun _ g => g = f) 8 g → Vw X G mX9_count.2.2.2.1 0 0 Q (NN kn) (shF kn) g 33 [some (.ref (G.1 + 85)), some (.int a), some (.int (cntS f 8)), some (.int (nI 8))] []) : ∀ (m i : Nat) (g : MM), i + m = 8 → (fun _ g => g = f) i g → Vw X G mX9_count.2.2.2.1 0 0 Q (NN kn) (shF kn) g 4 [some (.ref (G.1 + 85)), some (.int a), some (.int (cntS f i)), some (.int (nI i))] [] := by
  intro m
  induction m with
  | zero =>
    intro i g hm hg
    obtain rfl : 8 = i := by omega
    subst hg
    refine r_iload_n (pc := 4) C dX9_count_4 rfl ?_
    refine r_bipush (pc := 5) C (8) dX9_count_5 (by decide) ?_
    refine q_ge (pc := 7) C 8 8 33 rfl rfl (by omega) (by omega) dX9_count_7 (by decide) (fun c7 => ?_) (fun c7 => ?_)
    · exact K _ rfl
    · exact absurd c7 (by omega)
  | succ m ih =>
    intro i g hm hg
    subst hg
    refine r_iload_n (pc := 4) C dX9_count_4 rfl ?_
    refine r_bipush (pc := 5) C (8) dX9_count_5 (by decide) ?_
    refine q_ge (pc := 7) C i 8 33 rfl rfl (by omega) (by omega) dX9_count_7 (by decide) (fun c7 => ?_) (fun c7 => ?_)
    · exact absurd c7 (by omega)
    · refine r_iload_n (pc := 10) C dX9_count_10 rfl ?_
      refine r_aload_n (pc := 11) C dX9_count_11 rfl ?_
      refine r_getr (pc := 12) C fX9_13 dX9_count_12 (s_85 _) rfl rfl ?_
      refine r_iload_n (pc := 15) C dX9_count_15 rfl ?_
      refine q_iald (pc := 16) C i dX9_count_16 (s_87 _) (sn_87 _) rfl (by omega) (by decide) ?_
      refine r_if_lt (pc := 17) C 24 dX9_count_17 (by decide) (fun c17 => ?_) (fun c17 => ?_)
      · refine r_iconst (pc := 24) C (0) dX9_count_24 (by decide) ?_
        refine r_iadd (pc := 25) C dX9_count_25 ?_
        refine r_istore_n (pc := 26) C dX9_count_26 (by decide) rfl ?_
        refine r_iinc (pc := 27) C (nI (i + 1)) dX9_count_27 rfl (nI_inc _) (by decide) rfl ?_
        refine r_goto (pc := 30) C 4 dX9_count_30 (by decide) ?_
        have e : cntS g (i + 1) = cntS g i + (if 0 ≤ g 87 i then 1 else 0) := rfl
        have h := ih (i + 1) g (by omega) rfl
        rw [e] at h
        first | (rw [if_pos c17] at h; exact h) | (rw [if_neg (fun q => absurd c17 (Int32.not_lt.mpr q))] at h; exact h) | (rw [if_pos (Int32.not_lt.mp c17)] at h; exact h)
      · refine r_iconst (pc := 20) C (1) dX9_count_20 (by decide) ?_
        refine r_goto (pc := 21) C 25 dX9_count_21 (by decide) ?_
        refine r_iadd (pc := 25) C dX9_count_25 ?_
        refine r_istore_n (pc := 26) C dX9_count_26 (by decide) rfl ?_
        refine r_iinc (pc := 27) C (nI (i + 1)) dX9_count_27 rfl (nI_inc _) (by decide) rfl ?_
        refine r_goto (pc := 30) C 4 dX9_count_30 (by decide) ?_
        have e : cntS g (i + 1) = cntS g i + (if 0 ≤ g 87 i then 1 else 0) := rfl
        have h := ih (i + 1) g (by omega) rfl
        rw [e] at h
        first | (rw [if_pos c17] at h; exact h) | (rw [if_neg (fun q => absurd c17 (Int32.not_lt.mpr q))] at h; exact h) | (rw [if_pos (Int32.not_lt.mp c17)] at h; exact h)
theorem tsne {x v : Int32} {lo hi : Int} (h : x.toInt < lo ∨ hi < x.toInt) (hv : lo ≤ v.toInt ∧ v.toInt ≤ hi) : ¬ x = v := fun e => by subst e; omega
theorem cnt_out {f : MM} {x : Int32} (h : x.toInt < 0 ∨ 8 < x.toInt) : R_count f x = -1000001 := by
  unfold R_count
  rw [if_neg (tsne h (by decide)), if_neg (tsne h (by decide)), if_neg (tsne h (by decide)), if_neg (tsne h (by decide)), if_neg (tsne h (by decide)), if_neg (tsne h (by decide)), if_neg (tsne h (by decide)), if_neg (tsne h (by decide)), if_neg (tsne h (by decide))]
set_option maxRecDepth 100000 in
set_option maxHeartbeats 4000000 in
theorem c_X9_count {G : GG} {kn : Nat} {f : MM} {a : Int32} : CI G mX9_count 1 kn [.ref (G.1 + 85), .int a] f (R_count f a) f := by
  refine Ct.of [some (.ref (G.1 + 85)), some (.int a), none, none] rfl (by decide +kernel) rfl (Nat.le_of_ble_eq_true rfl) rfl ?_
  intro X C
  refine r_iconst (pc := 0) C (0) dX9_count_0 (by decide) ?_
  refine r_istore_n (pc := 1) C dX9_count_1 (by decide) rfl ?_
  refine r_iconst (pc := 2) C (0) dX9_count_2 (by decide) ?_
  refine r_istore_n (pc := 3) C dX9_count_3 (by decide) rfl ?_
  refine l_X9_count C ?_ 8 0 _ rfl rfl
  intro g hg
  subst hg
  refine r_iload_n (pc := 33) C dX9_count_33 rfl ?_
  refine r_top (fun x34 hx34 => ?_)
  rcases ts0_8 x34 with c34 | c34 | c34 | c34 | c34 | c34 | c34 | c34 | c34 | c34
  · refine r_tableOut (pc := 34) C 144 dX9_count_34 c34 (by decide) ?_
    refine r_ldc (pc := 144) C (-1000001) kX9_76 dX9_count_144 ?_
    refine q_iret (pc := 146) C dX9_count_146 rfl ?_
    refine ⟨?_, rfl⟩
    subst hx34
    first | exact (cnt_out c34).symm | (subst c34; simp [R_count]; done)
  · refine r_tableEq (pc := 34) C 84 (0) c34 dX9_count_34 (by decide) (by decide) rfl (by decide) ?_
    refine r_iload_n (pc := 84) C dX9_count_84 rfl ?_
    refine q_iret (pc := 85) C dX9_count_85 rfl ?_
    refine ⟨?_, rfl⟩
    subst hx34
    first | exact (cnt_out c34).symm | (subst c34; simp [R_count]; done)
  · refine r_tableEq (pc := 34) C 86 (1) c34 dX9_count_34 (by decide) (by decide) rfl (by decide) ?_
    refine r_aload_n (pc := 86) C dX9_count_86 rfl ?_
    refine r_getr (pc := 87) C fX9_19 dX9_count_87 (s_85 _) rfl rfl ?_
    refine r_bipush (pc := 90) C (8) dX9_count_90 (by decide) ?_
    refine q_iald (pc := 92) C 8 dX9_count_92 (s_89 _) (sn_89 _) rfl (by omega) (by decide) ?_
    refine q_iret (pc := 93) C dX9_count_93 rfl ?_
    refine ⟨?_, rfl⟩
    subst hx34
    first | exact (cnt_out c34).symm | (subst c34; simp [R_count]; done)
  · refine r_tableEq (pc := 34) C 94 (2) c34 dX9_count_34 (by decide) (by decide) rfl (by decide) ?_
    refine r_aload_n (pc := 94) C dX9_count_94 rfl ?_
    refine r_getr (pc := 95) C fX9_19 dX9_count_95 (s_85 _) rfl rfl ?_
    refine r_bipush (pc := 98) C (13) dX9_count_98 (by decide) ?_
    refine q_iald (pc := 100) C 13 dX9_count_100 (s_89 _) (sn_89 _) rfl (by omega) (by decide) ?_
    refine q_iret (pc := 101) C dX9_count_101 rfl ?_
    refine ⟨?_, rfl⟩
    subst hx34
    first | exact (cnt_out c34).symm | (subst c34; simp [R_count]; done)
  · refine r_tableEq (pc := 34) C 102 (3) c34 dX9_count_34 (by decide) (by decide) rfl (by decide) ?_
    refine r_aload_n (pc := 102) C dX9_count_102 rfl ?_
    refine r_getr (pc := 103) C fX9_19 dX9_count_103 (s_85 _) rfl rfl ?_
    refine r_bipush (pc := 106) C (9) dX9_count_106 (by decide) ?_
    refine q_iald (pc := 108) C 9 dX9_count_108 (s_89 _) (sn_89 _) rfl (by omega) (by decide) ?_
    refine q_iret (pc := 109) C dX9_count_109 rfl ?_
    refine ⟨?_, rfl⟩
    subst hx34
    first | exact (cnt_out c34).symm | (subst c34; simp [R_count]; done)
  · refine r_tableEq (pc := 34) C 110 (4) c34 dX9_count_34 (by decide) (by decide) rfl (by decide) ?_
    refine r_aload_n (pc := 110) C dX9_count_110 rfl ?_
    refine r_getr (pc := 111) C fX9_19 dX9_count_111 (s_85 _) rfl rfl ?_
    refine r_bipush (pc := 114) C (10) dX9_count_114 (by decide) ?_
    refine q_iald (pc := 116) C 10 dX9_count_116 (s_89 _) (sn_89 _) rfl (by omega) (by decide) ?_
    refine q_iret (pc := 117) C dX9_count_117 rfl ?_
    refine ⟨?_, rfl⟩
    subst hx34
    first | exact (cnt_out c34).symm | (subst c34; simp [R_count]; done)
  · refine r_tableEq (pc := 34) C 118 (5) c34 dX9_count_34 (by decide) (by decide) rfl (by decide) ?_
    refine r_aload_n (pc := 118) C dX9_count_118 rfl ?_
    refine r_getr (pc := 119) C fX9_19 dX9_count_119 (s_85 _) rfl rfl ?_
    refine r_bipush (pc := 122) C (11) dX9_count_122 (by decide) ?_
    refine q_iald (pc := 124) C 11 dX9_count_124 (s_89 _) (sn_89 _) rfl (by omega) (by decide) ?_
    refine q_iret (pc := 125) C dX9_count_125 rfl ?_
    refine ⟨?_, rfl⟩
    subst hx34
    first | exact (cnt_out c34).symm | (subst c34; simp [R_count]; done)
  · refine r_tableEq (pc := 34) C 126 (6) c34 dX9_count_34 (by decide) (by decide) rfl (by decide) ?_
    refine r_aload_n (pc := 126) C dX9_count_126 rfl ?_
    refine r_getr (pc := 127) C fX9_19 dX9_count_127 (s_85 _) rfl rfl ?_
    refine r_bipush (pc := 130) C (12) dX9_count_130 (by decide) ?_
    refine q_iald (pc := 132) C 12 dX9_count_132 (s_89 _) (sn_89 _) rfl (by omega) (by decide) ?_
    refine q_iret (pc := 133) C dX9_count_133 rfl ?_
    refine ⟨?_, rfl⟩
    subst hx34
    first | exact (cnt_out c34).symm | (subst c34; simp [R_count]; done)
  · refine r_tableEq (pc := 34) C 134 (7) c34 dX9_count_34 (by decide) (by decide) rfl (by decide) ?_
    refine r_aload_n (pc := 134) C dX9_count_134 rfl ?_
    refine r_get (pc := 135) C fX9_158 dX9_count_135 (s_85 _) rfl ?_
    refine q_iret (pc := 138) C dX9_count_138 rfl ?_
    refine ⟨?_, rfl⟩
    subst hx34
    first | exact (cnt_out c34).symm | (subst c34; simp [R_count]; done)
  · refine r_tableEq (pc := 34) C 139 (8) c34 dX9_count_34 (by decide) (by decide) rfl (by decide) ?_
    refine r_aload_n (pc := 139) C dX9_count_139 rfl ?_
    refine r_get (pc := 140) C fX9_90 dX9_count_140 (s_85 _) rfl ?_
    refine q_iret (pc := 143) C dX9_count_143 rfl ?_
    refine ⟨?_, rfl⟩
    subst hx34
    first | exact (cnt_out c34).symm | (subst c34; simp [R_count]; done)
end
section
/-! THE REFERENCE: copy -/
def hold (i n : Int32) (s : Nat) : Bool := decide (0 ≤ i.toInt ∧ 0 ≤ n.toInt ∧ i.toInt + n.toInt ≤ s)
theorem hold_of {i n : Int32} {s : Nat} (h : hold i n s = true) : ∃ p m : Nat, p + m ≤ s ∧ i = nI p ∧ n = nI m := by
  have h1 := of_decide_eq_true h
  refine ⟨tn i, tn n, ?_, nI_nat (by rw [Int32.le_iff_toInt_le]; simp; exact h1.1), nI_nat (by rw [Int32.le_iff_toInt_le]; simp; exact h1.2.1)⟩
  show i.toInt.toNat + n.toInt.toNat ≤ s
  omega
theorem i64sub {s : Nat} {n : Int32} (hs : s ≤ 100000) (hn : 0 ≤ n.toInt) : ((nI s).toInt64 - n.toInt64).toInt = (s : Int) - n.toInt := by
  have h1 : (nI s).toInt64.toInt = s := by rw [Int32.toInt_toInt64, nI_toInt (by omega)]
  have h2 : n.toInt64.toInt = n.toInt := Int32.toInt_toInt64 n
  have h3 : n.toInt ≤ 2147483647 := by have := n.toInt_lt; omega
  rw [Int64.toInt_sub, h1, h2]
  exact Int.bmod_eq_of_le (by omega) (by omega)
theorem c_inCp {G : GG} {kn : Nat} {f : MM} {i n z : Int32} {b c : Int64} (s : Nat) (hs : s ≤ 100000) (hz : z = nI s) (hn : ¬ n < 0) (hb : b = 0) (hc : c = z.toInt64 - n.toInt64) : CI G mX9_in 1 kn [.long i.toInt64, .long b, .long c] f (b1 (hold i n s)) f := by
  subst hb; subst hc; subst hz
  have hn' : 0 ≤ n.toInt := by have := Int32.le_iff_toInt_le.mp (Int32.not_lt.mp hn); simpa using this
  have e : hold i n s = decide ((0 : Int64) ≤ i.toInt64 ∧ i.toInt64 ≤ (nI s).toInt64 - n.toInt64) := decide_eq_decide.mpr (by
    rw [Int64.le_iff_toInt_le, Int64.le_iff_toInt_le, i64sub hs hn', Int32.toInt_toInt64]
    simp; omega)
  rw [e]
  exact c_X9_in64
theorem hold_neg {i n : Int32} {s : Nat} (h : n < 0) : hold i n s = false := by
  have : n.toInt < 0 := by have := Int32.lt_iff_toInt_lt.mp h; simpa using this
  unfold hold
  simp; omega
/-- a stretch of i places of the cell c, from a on, holds s -/
def fillM (g0 : MM) (c a i : Nat) (s : Nat → Int32) : MM := fun k b => if k = c ∧ a ≤ b ∧ b < a + i then s (b - a) else g0 k b
theorem fillM_0 {g0 : MM} {c a : Nat} {s : Nat → Int32} : fillM g0 c a 0 s = g0 := by
  funext k b
  unfold fillM
  rw [if_neg (by omega)]
theorem fillM_ne {g0 : MM} {c a i k b : Nat} {s : Nat → Int32} (h : k ≠ c) : fillM g0 c a i s k b = g0 k b := if_neg (fun q => h q.1)
theorem fillM_in {g0 : MM} {c a i b : Nat} {s : Nat → Int32} (h : a ≤ b) (h2 : b < a + i) : fillM g0 c a i s c b = s (b - a) := if_pos ⟨rfl, h, h2⟩
theorem fillM_out {g0 : MM} {c a i b : Nat} {s : Nat → Int32} (h : b < a ∨ a + i ≤ b) : fillM g0 c a i s c b = g0 c b := if_neg (fun q => by omega)
theorem fillM_step {g0 : MM} {c a i : Nat} {s : Nat → Int32} {v : Int32} (hv : v = s i) : u2 (fillM g0 c a i s) c (a + i) v = fillM g0 c a (i + 1) s := by
  subst hv
  funext k b
  simp only [u2, fillM]
  by_cases hk : k = c
  · by_cases hb : b = a + i
    · subst hb
      rw [if_pos ⟨hk, rfl⟩, if_pos ⟨hk, by omega, by omega⟩, Nat.add_sub_cancel_left]
    · rw [if_neg (fun q => hb q.2)]
      by_cases h1 : k = c ∧ a ≤ b ∧ b < a + i
      · rw [if_pos h1, if_pos ⟨hk, h1.2.1, by omega⟩]
      · rw [if_neg h1, if_neg (fun q => h1 ⟨hk, q.2.1, by omega⟩)]
  · rw [if_neg (fun q => hk q.1), if_neg (fun q => hk q.1), if_neg (fun q => hk q.1)]
theorem fillM_step0 {g0 : MM} {c i : Nat} {s : Nat → Int32} {v : Int32} (hv : v = s i) : u2 (fillM g0 c 0 i s) c i v = fillM g0 c 0 (i + 1) s := by
  have := fillM_step (g0 := g0) (c := c) (a := 0) hv
  rwa [Nat.zero_add] at this
def R_copyF (f : MM) (a i b j n : Nat) : MM := u2 (fillM (fillM f 90 0 n (fun t => f 88 (40 * a + i + t))) 88 (40 * b + j) n (fun t => f 88 (40 * a + i + t))) 85 3 0
def R_copy (f : MM) (a i b j n : Int32) : Int32 × MM :=
  if inR a 8 = true then if inR b 8 = true then if 0 ≤ f 87 (tn a) then if 0 ≤ f 87 (tn b) then if f 86 (tn a) = f 86 (tn b) then if hold i n (tn (f 87 (tn a))) = true then if hold j n (tn (f 87 (tn b))) = true then (n, R_copyF f (tn a) (tn i) (tn b) (tn j) (tn n)) else (-1000012, u2 f 85 3 2) else (-1000012, u2 f 85 3 2) else (-1000015, u2 f 85 3 5) else (-1000011, u2 f 85 3 1) else (-1000011, u2 f 85 3 1) else (-1000001, f) else (-1000001, f)
set_option maxRecDepth 100000 in
set_option maxHeartbeats 4000000 in
theorem l_X9_copy1 {X : XT} {G : GG} {kn : Nat} {Q : State → Prop} {f : MM} {a i0 b j n : Nat} (C : Cx X G mX9_copy 3 0 0 (NN kn)) (ha : a < 8) (hi : i0 + n ≤ 40) (K : ∀ g : MM, (fun i g => g = fillM f 90 0 i (fun t => f 88 (40 * a + i0 + t))) n g → Vw X G mX9_copy.2.2.2.1 0 0 Q (NN kn) (shF kn) g 151 [some (.ref (G.1 + 85)), some (.int (nI a)), some (.int (nI i0)), some (.int (nI b)), some (.int (nI j)), some (.int (nI n)), some (.int (nI n))] []) : ∀ (m i : Nat) (g : MM), i + m = n → (fun i g => g = fillM f 90 0 i (fun t => f 88 (40 * a + i0 + t))) i g → Vw X G mX9_copy.2.2.2.1 0 0 Q (NN kn) (shF kn) g 117 [some (.ref (G.1 + 85)), some (.int (nI a)), some (.int (nI i0)), some (.int (nI b)), some (.int (nI j)), some (.int (nI n)), some (.int (nI i))] [] := by
  intro m
  induction m with
  | zero =>
    intro i g hm hg
    obtain rfl : n = i := by omega
    subst hg
    refine r_iload (pc := 117) C dX9_copy_117 rfl ?_
    refine r_iload (pc := 119) C dX9_copy_119 rfl ?_
    refine q_ge (pc := 121) C n n 151 rfl rfl (by omega) (by omega) dX9_copy_121 (by decide) (fun c121 => ?_) (fun c121 => ?_)
    · exact K _ rfl
    · exact absurd c121 (by omega)
  | succ m ih =>
    intro i g hm hg
    subst hg
    refine r_iload (pc := 117) C dX9_copy_117 rfl ?_
    refine r_iload (pc := 119) C dX9_copy_119 rfl ?_
    refine q_ge (pc := 121) C i n 151 rfl rfl (by omega) (by omega) dX9_copy_121 (by decide) (fun c121 => ?_) (fun c121 => ?_)
    · exact absurd c121 (by omega)
    · refine r_aload_n (pc := 124) C dX9_copy_124 rfl ?_
      refine r_getr (pc := 125) C fX9_22 dX9_copy_125 (s_85 _) rfl rfl ?_
      refine r_iload (pc := 128) C dX9_copy_128 rfl ?_
      refine r_aload_n (pc := 130) C dX9_copy_130 rfl ?_
      refine r_getr (pc := 131) C fX9_16 dX9_copy_131 (s_85 _) rfl rfl ?_
      refine r_bipush (pc := 134) C (40) dX9_copy_134 (by decide) ?_
      refine r_iload_n (pc := 136) C dX9_copy_136 rfl ?_
      refine r_imul (pc := 137) C dX9_copy_137 ?_
      refine r_iload_n (pc := 138) C dX9_copy_138 rfl ?_
      refine r_iadd (pc := 139) C dX9_copy_139 ?_
      refine r_iload (pc := 140) C dX9_copy_140 rfl ?_
      refine r_iadd (pc := 142) C dX9_copy_142 ?_
      refine q_iald (pc := 143) C (((40 * a) + i0) + i) dX9_copy_143 (s_88 _) (sn_88 _) ((congr (congrArg _ ((congr (congrArg _ (pk_mul 40 a)) rfl).trans (nI_add (40 * a) i0))) rfl).trans (nI_add ((40 * a) + i0) i)) (by omega) (by decide) ?_
      refine q_iast (pc := 144) C i dX9_copy_144 (s_90 _) (sn_90 _) rfl (by omega) (by decide) ?_
      refine r_iinc (pc := 145) C (nI (i + 1)) dX9_copy_145 rfl (nI_inc _) (by decide) rfl ?_
      refine r_goto (pc := 148) C 117 dX9_copy_148 (by decide) ?_
      refine ih (i + 1) _ (by omega) ?_
      exact fillM_step0 (fillM_ne (by decide))
set_option maxRecDepth 100000 in
set_option maxHeartbeats 4000000 in
theorem l_X9_copy2 {X : XT} {G : GG} {kn : Nat} {Q : State → Prop} {f : MM} {a i0 b j n : Nat} (C : Cx X G mX9_copy 3 0 0 (NN kn)) (hb : b < 8) (hj : j + n ≤ 40) (K : ∀ g : MM, (fun i g => g = fillM (fillM f 90 0 n (fun t => f 88 (40 * a + i0 + t))) 88 (40 * b + j) i (fun t => f 88 (40 * a + i0 + t))) n g → Vw X G mX9_copy.2.2.2.1 0 0 Q (NN kn) (shF kn) g 189 [some (.ref (G.1 + 85)), some (.int (nI a)), some (.int (nI i0)), some (.int (nI b)), some (.int (nI j)), some (.int (nI n)), some (.int (nI n))] []) : ∀ (m i : Nat) (g : MM), i + m = n → (fun i g => g = fillM (fillM f 90 0 n (fun t => f 88 (40 * a + i0 + t))) 88 (40 * b + j) i (fun t => f 88 (40 * a + i0 + t))) i g → Vw X G mX9_copy.2.2.2.1 0 0 Q (NN kn) (shF kn) g 154 [some (.ref (G.1 + 85)), some (.int (nI a)), some (.int (nI i0)), some (.int (nI b)), some (.int (nI j)), some (.int (nI n)), some (.int (nI i))] [] := by
  intro m
  induction m with
  | zero =>
    intro i g hm hg
    obtain rfl : n = i := by omega
    subst hg
    refine r_iload (pc := 154) C dX9_copy_154 rfl ?_
    refine r_iload (pc := 156) C dX9_copy_156 rfl ?_
    refine q_ge (pc := 158) C n n 189 rfl rfl (by omega) (by omega) dX9_copy_158 (by decide) (fun c158 => ?_) (fun c158 => ?_)
    · exact K _ rfl
    · exact absurd c158 (by omega)
  | succ m ih =>
    intro i g hm hg
    subst hg
    refine r_iload (pc := 154) C dX9_copy_154 rfl ?_
    refine r_iload (pc := 156) C dX9_copy_156 rfl ?_
    refine q_ge (pc := 158) C i n 189 rfl rfl (by omega) (by omega) dX9_copy_158 (by decide) (fun c158 => ?_) (fun c158 => ?_)
    · exact absurd c158 (by omega)
    · refine r_aload_n (pc := 161) C dX9_copy_161 rfl ?_
      refine r_getr (pc := 162) C fX9_16 dX9_copy_162 (s_85 _) rfl rfl ?_
      refine r_bipush (pc := 165) C (40) dX9_copy_165 (by decide) ?_
      refine r_iload_n (pc := 167) C dX9_copy_167 rfl ?_
      refine r_imul (pc := 168) C dX9_copy_168 ?_
      refine r_iload (pc := 169) C dX9_copy_169 rfl ?_
      refine r_iadd (pc := 171) C dX9_copy_171 ?_
      refine r_iload (pc := 172) C dX9_copy_172 rfl ?_
      refine r_iadd (pc := 174) C dX9_copy_174 ?_
      refine r_aload_n (pc := 175) C dX9_copy_175 rfl ?_
      refine r_getr (pc := 176) C fX9_22 dX9_copy_176 (s_85 _) rfl rfl ?_
      refine r_iload (pc := 179) C dX9_copy_179 rfl ?_
      refine q_iald (pc := 181) C i dX9_copy_181 (s_90 _) (sn_90 _) rfl (by omega) (by decide) ?_
      refine q_iast (pc := 182) C (((40 * b) + j) + i) dX9_copy_182 (s_88 _) (sn_88 _) ((congr (congrArg _ ((congr (congrArg _ (pk_mul 40 b)) rfl).trans (nI_add (40 * b) j))) rfl).trans (nI_add ((40 * b) + j) i)) (by omega) (by decide) ?_
      refine r_iinc (pc := 183) C (nI (i + 1)) dX9_copy_183 rfl (nI_inc _) (by decide) rfl ?_
      refine r_goto (pc := 186) C 154 dX9_copy_186 (by decide) ?_
      refine ih (i + 1) _ (by omega) ?_
      exact fillM_step ((fillM_ne (by decide)).trans (fillM_in (by omega) (by omega)))
set_option maxRecDepth 100000 in
set_option maxHeartbeats 4000000 in
theorem c_X9_copy {G : GG} {kn : Nat} {f : MM} (hsz : szOK f) {a i b j n : Int32} : CI G mX9_copy 3 kn [.ref (G.1 + 85), .int a, .int i, .int b, .int j, .int n] f (R_copy f a i b j n).1 (R_copy f a i b j n).2 := by
  refine Ct.of [some (.ref (G.1 + 85)), some (.int a), some (.int i), some (.int b), some (.int j), some (.int n), none] rfl (by decide +kernel) rfl (Nat.le_of_ble_eq_true rfl) rfl ?_
  intro X C
  refine r_iload_n (pc := 0) C dX9_copy_0 rfl ?_
  refine q_sIf (pc := 1) C kX9_70 dX9_copy_1 (c_X9_isRow) rfl rfl (Nat.le_of_ble_eq_true rfl) (by decide) ⟨by decide, by decide⟩ ?_
  refine r_if_eq (pc := 4) C 14 dX9_copy_4 (by decide) (fun c4 => ?_) (fun c4 => ?_)
  · replace c4 := b1_0 c4
    refine r_ldc (pc := 14) C (-1000001) kX9_76 dX9_copy_14 ?_
    refine q_iret (pc := 16) C dX9_copy_16 rfl ?_
    exact pr (by simp [R_copy, c4])
  · replace c4 := b1_1 c4
    obtain ⟨a0, ha0, rfl⟩ := inR_of c4
    have ta : tn (nI a0) = a0 := tn_nI (by omega)
    refine r_iload_n (pc := 7) C dX9_copy_7 rfl ?_
    refine q_sIf (pc := 8) C kX9_70 dX9_copy_8 (c_X9_isRow) rfl rfl (Nat.le_of_ble_eq_true rfl) (by decide) ⟨by decide, by decide⟩ ?_
    refine r_if_ne (pc := 11) C 17 dX9_copy_11 (by decide) (fun c11 => ?_) (fun c11 => ?_)
    · replace c11 := b1_1 c11
      obtain ⟨b0, hb0, rfl⟩ := inR_of c11
      have tb : tn (nI b0) = b0 := tn_nI (by omega)
      refine r_aload_n (pc := 17) C dX9_copy_17 rfl ?_
      refine r_getr (pc := 18) C fX9_13 dX9_copy_18 (s_85 _) rfl rfl ?_
      refine r_iload_n (pc := 21) C dX9_copy_21 rfl ?_
      refine q_iald (pc := 22) C a0 dX9_copy_22 (s_87 _) (sn_87 _) rfl (by omega) (by decide) ?_
      refine r_if_lt (pc := 23) C 35 dX9_copy_23 (by decide) (fun c23 => ?_) (fun c23 => ?_)
      · have e23 := Int32.not_le.mpr c23
        refine r_aload_n (pc := 35) C dX9_copy_35 rfl ?_
        refine r_iconst (pc := 36) C (1) dX9_copy_36 (by decide) ?_
        refine q_vIf (pc := 37) C kX9_77 dX9_copy_37 (c_X9_find) (s_85 _) rfl rfl (Nat.le_of_ble_eq_true rfl) (by decide) ⟨by decide, by decide⟩ ?_
        refine q_iret (pc := 40) C dX9_copy_40 rfl ?_
        exact pr (by simp [R_copy, c4, ta, c11, tb, e23])
      · have e23 := Int32.not_lt.mp c23
        obtain ⟨sa, hsa, ea⟩ := hsz.of ha0 e23
        have tsa : tn (f 87 a0) = sa := by rw [ea, tn_nI (by omega)]
        refine r_aload_n (pc := 26) C dX9_copy_26 rfl ?_
        refine r_getr (pc := 27) C fX9_13 dX9_copy_27 (s_85 _) rfl rfl ?_
        refine r_iload_n (pc := 30) C dX9_copy_30 rfl ?_
        refine q_iald (pc := 31) C b0 dX9_copy_31 (s_87 _) (sn_87 _) rfl (by omega) (by decide) ?_
        refine r_if_ge (pc := 32) C 41 dX9_copy_32 (by decide) (fun c32 => ?_) (fun c32 => ?_)
        · obtain ⟨sb, hsb, eb⟩ := hsz.of hb0 c32
          have tsb : tn (f 87 b0) = sb := by rw [eb, tn_nI (by omega)]
          refine r_aload_n (pc := 41) C dX9_copy_41 rfl ?_
          refine r_getr (pc := 42) C fX9_7 dX9_copy_42 (s_85 _) rfl rfl ?_
          refine r_iload_n (pc := 45) C dX9_copy_45 rfl ?_
          refine q_iald (pc := 46) C a0 dX9_copy_46 (s_86 _) (sn_86 _) rfl (by omega) (by decide) ?_
          refine r_aload_n (pc := 47) C dX9_copy_47 rfl ?_
          refine r_getr (pc := 48) C fX9_7 dX9_copy_48 (s_85 _) rfl rfl ?_
          refine r_iload_n (pc := 51) C dX9_copy_51 rfl ?_
          refine q_iald (pc := 52) C b0 dX9_copy_52 (s_86 _) (sn_86 _) rfl (by omega) (by decide) ?_
          refine r_icmp_eq (pc := 53) C 62 dX9_copy_53 (by decide) (fun c53 => ?_) (fun c53 => ?_)
          · refine r_iload (pc := 62) C dX9_copy_62 rfl ?_
            refine r_if_lt (pc := 64) C 108 dX9_copy_64 (by decide) (fun c64 => ?_) (fun c64 => ?_)
            · have e64 := hold_neg (i := i) (s := sa) c64
              refine r_aload_n (pc := 108) C dX9_copy_108 rfl ?_
              refine r_iconst (pc := 109) C (2) dX9_copy_109 (by decide) ?_
              refine q_vIf (pc := 110) C kX9_77 dX9_copy_110 (c_X9_find) (s_85 _) rfl rfl (Nat.le_of_ble_eq_true rfl) (by decide) ⟨by decide, by decide⟩ ?_
              refine q_iret (pc := 113) C dX9_copy_113 rfl ?_
              exact pr (by simp [R_copy, c4, ta, c11, tb, e23, tsa, c32, tsb, c53, e64])
            · refine r_iload_n (pc := 67) C dX9_copy_67 rfl ?_
              refine r_i2l (pc := 68) C dX9_copy_68 ?_
              refine r_lconst (pc := 69) C (0) dX9_copy_69 (by decide) ?_
              refine r_aload_n (pc := 70) C dX9_copy_70 rfl ?_
              refine r_getr (pc := 71) C fX9_13 dX9_copy_71 (s_85 _) rfl rfl ?_
              refine r_iload_n (pc := 74) C dX9_copy_74 rfl ?_
              refine q_iald (pc := 75) C a0 dX9_copy_75 (s_87 _) (sn_87 _) rfl (by omega) (by decide) ?_
              refine r_i2l (pc := 76) C dX9_copy_76 ?_
              refine r_iload (pc := 77) C dX9_copy_77 rfl ?_
              refine r_i2l (pc := 79) C dX9_copy_79 ?_
              refine r_lsub (pc := 80) C dX9_copy_80 ?_
              refine q_sIf (pc := 81) C kX9_66 dX9_copy_81 (c_inCp sa (by omega) ea c64 rfl rfl) rfl rfl (Nat.le_of_ble_eq_true rfl) (by decide) ⟨by decide, by decide⟩ ?_
              refine r_if_eq (pc := 84) C 108 dX9_copy_84 (by decide) (fun c84 => ?_) (fun c84 => ?_)
              · replace c84 := b1_0 c84
                refine r_aload_n (pc := 108) C dX9_copy_108 rfl ?_
                refine r_iconst (pc := 109) C (2) dX9_copy_109 (by decide) ?_
                refine q_vIf (pc := 110) C kX9_77 dX9_copy_110 (c_X9_find) (s_85 _) rfl rfl (Nat.le_of_ble_eq_true rfl) (by decide) ⟨by decide, by decide⟩ ?_
                refine q_iret (pc := 113) C dX9_copy_113 rfl ?_
                exact pr (by simp [R_copy, c4, ta, c11, tb, e23, tsa, c32, tsb, c53, c84])
              · replace c84 := b1_1 c84
                refine r_iload (pc := 87) C dX9_copy_87 rfl ?_
                refine r_i2l (pc := 89) C dX9_copy_89 ?_
                refine r_lconst (pc := 90) C (0) dX9_copy_90 (by decide) ?_
                refine r_aload_n (pc := 91) C dX9_copy_91 rfl ?_
                refine r_getr (pc := 92) C fX9_13 dX9_copy_92 (s_85 _) rfl rfl ?_
                refine r_iload_n (pc := 95) C dX9_copy_95 rfl ?_
                refine q_iald (pc := 96) C b0 dX9_copy_96 (s_87 _) (sn_87 _) rfl (by omega) (by decide) ?_
                refine r_i2l (pc := 97) C dX9_copy_97 ?_
                refine r_iload (pc := 98) C dX9_copy_98 rfl ?_
                refine r_i2l (pc := 100) C dX9_copy_100 ?_
                refine r_lsub (pc := 101) C dX9_copy_101 ?_
                refine q_sIf (pc := 102) C kX9_66 dX9_copy_102 (c_inCp sb (by omega) eb c64 rfl rfl) rfl rfl (Nat.le_of_ble_eq_true rfl) (by decide) ⟨by decide, by decide⟩ ?_
                refine r_if_ne (pc := 105) C 114 dX9_copy_105 (by decide) (fun c105 => ?_) (fun c105 => ?_)
                · replace c105 := b1_1 c105
                  obtain ⟨i1, n1, hin, rfl, rfl⟩ := hold_of c84
                  obtain ⟨j1, n2, hjn, rfl, en⟩ := hold_of c105
                  have en12 : n2 = n1 := ((nI_eq (by omega) (by omega)).mp en).symm
                  subst en12
                  refine r_iconst (pc := 114) C (0) dX9_copy_114 (by decide) ?_
                  refine r_istore (pc := 115) C dX9_copy_115 (by decide) rfl ?_
                  refine l_X9_copy1 (f := f) (a := a0) C ha0 (by omega) ?_ n2 0 _ (by omega) (fillM_0.symm)
                  intro g hg
                  subst hg
                  refine r_iconst (pc := 151) C (0) dX9_copy_151 (by decide) ?_
                  refine r_istore (pc := 152) C dX9_copy_152 (by decide) rfl ?_
                  refine l_X9_copy2 (f := f) (a := a0) C hb0 (by omega) ?_ n2 0 _ (by omega) (fillM_0.symm)
                  intro g hg
                  subst hg
                  refine r_aload_n (pc := 189) C dX9_copy_189 rfl ?_
                  refine r_iload (pc := 190) C dX9_copy_190 rfl ?_
                  refine q_vIf (pc := 192) C kX9_81 dX9_copy_192 (c_X9_well) (s_85 _) rfl rfl (Nat.le_of_ble_eq_true rfl) (by decide) ⟨by decide, by decide⟩ ?_
                  refine q_iret (pc := 195) C dX9_copy_195 rfl ?_
                  refine pr ?_
                  have t1 : tn (nI i1) = i1 := tn_nI (by omega)
                  have t2 : tn (nI j1) = j1 := tn_nI (by omega)
                  have t3 : tn (nI n2) = n2 := tn_nI (by omega)
                  simp only [R_copy, c4, c11, ta, tb, e23, tsa, c32, tsb, c53, c84, c105, if_true, t1, t2, t3, R_copyF]
                · replace c105 := b1_0 c105
                  refine r_aload_n (pc := 108) C dX9_copy_108 rfl ?_
                  refine r_iconst (pc := 109) C (2) dX9_copy_109 (by decide) ?_
                  refine q_vIf (pc := 110) C kX9_77 dX9_copy_110 (c_X9_find) (s_85 _) rfl rfl (Nat.le_of_ble_eq_true rfl) (by decide) ⟨by decide, by decide⟩ ?_
                  refine q_iret (pc := 113) C dX9_copy_113 rfl ?_
                  exact pr (by simp [R_copy, c4, ta, c11, tb, e23, tsa, c32, tsb, c53, c84, c105])
          · refine r_aload_n (pc := 56) C dX9_copy_56 rfl ?_
            refine r_iconst (pc := 57) C (5) dX9_copy_57 (by decide) ?_
            refine q_vIf (pc := 58) C kX9_77 dX9_copy_58 (c_X9_find) (s_85 _) rfl rfl (Nat.le_of_ble_eq_true rfl) (by decide) ⟨by decide, by decide⟩ ?_
            refine q_iret (pc := 61) C dX9_copy_61 rfl ?_
            exact pr (by simp [R_copy, c4, ta, c11, tb, e23, tsa, c32, tsb, c53])
        · refine r_aload_n (pc := 35) C dX9_copy_35 rfl ?_
          refine r_iconst (pc := 36) C (1) dX9_copy_36 (by decide) ?_
          refine q_vIf (pc := 37) C kX9_77 dX9_copy_37 (c_X9_find) (s_85 _) rfl rfl (Nat.le_of_ble_eq_true rfl) (by decide) ⟨by decide, by decide⟩ ?_
          refine q_iret (pc := 40) C dX9_copy_40 rfl ?_
          exact pr (by simp [R_copy, c4, ta, c11, tb, e23, tsa, c32])
    · replace c11 := b1_0 c11
      refine r_ldc (pc := 14) C (-1000001) kX9_76 dX9_copy_14 ?_
      refine q_iret (pc := 16) C dX9_copy_16 rfl ?_
      exact pr (by simp [R_copy, c4, ta, c11])
end
section
/-! TEXTS: tokens; the reference's way to them -/
def dig (c : Int32) : Bool := decide (48 ≤ c ∧ c ≤ 57)
def sgn (c : Int32) : Bool := decide (97 ≤ c ∧ c ≤ 122) || decide (c = 44) || decide (c = 59)
/-- where the figures end that begin at p -/
def dE (tp : Nat → Int32) (len : Nat) : Nat → Nat → Nat
  | 0, p => p
  | m + 1, p => if p < len ∧ dig (tp p) = true then dE tp len m (p + 1) else p
def dEnd (tp : Nat → Int32) (len p : Nat) : Nat := dE tp len (len - p) p
def vC (tp : Nat → Int32) (p : Nat) : Nat → Int32
  | 0 => 0
  | k + 1 => 10 * vC tp p k + tp (p + k) - 48
def vR (tp : Nat → Int32) (p : Nat) : Nat → Int32
  | 0 => 0
  | k + 1 => if vR tp p k ≤ 999 then 10 * vR tp p k + tp (p + k) - 48 else vR tp p k
/-- what stands at p: 3 the end, 2 a number, 1 a letter or a sign, 0 none -/
def knd (tp : Nat → Int32) (len p : Nat) : Nat := if len ≤ p then 3 else if dig (tp p) = true then (if dEnd tp len p - p ≤ 3 then 2 else 0) else if sgn (tp p) = true then 1 else 0
def nx (tp : Nat → Int32) (len p : Nat) : Nat := if len ≤ p then p else if dig (tp p) = true then dEnd tp len p else p + 1
def vl (tp : Nat → Int32) (len p : Nat) : Int32 := if dig (tp p) = true then vC tp p (dEnd tp len p - p) else tp p
theorem dE_run {tp : Nat → Int32} {len : Nat} : ∀ {i q m : Nat}, (∀ t, t < i → q + t < len ∧ dig (tp (q + t)) = true) → (len ≤ q + i ∨ dig (tp (q + i)) = false) → i ≤ m → dE tp len m q = q + i := by
  intro i
  induction i with
  | zero =>
    intro q m _ h2 _
    cases m with
    | zero => rfl
    | succ m =>
      show (if q < len ∧ dig (tp q) = true then dE tp len m (q + 1) else q) = q + 0
      rw [if_neg]
      · rfl
      · intro h
        rcases h2 with h2 | h2
        · omega
        · rw [Nat.add_zero] at h2; rw [h2] at h; exact absurd h.2 (by decide)
  | succ i ih =>
    intro q m h1 h2 hm
    cases m with
    | zero => omega
    | succ m =>
      have h0 := h1 0 (by omega)
      show (if q < len ∧ dig (tp q) = true then dE tp len m (q + 1) else q) = q + (i + 1)
      rw [if_pos (by simpa using h0), ih (fun t ht => by have := h1 (t + 1) (by omega); rwa [show q + (t + 1) = q + 1 + t by omega] at this) (by rwa [show q + (i + 1) = q + 1 + i by omega] at h2) (by omega)]
      omega
theorem dig_le {c : Int32} (h : dig c = true) : 48 ≤ c.toInt ∧ c.toInt ≤ 57 := by
  have := of_decide_eq_true h
  rw [Int32.le_iff_toInt_le, Int32.le_iff_toInt_le] at this
  exact this
theorem i32_add {a b : Int32} {x y : Int} (ha : a.toInt = x) (hb : b.toInt = y) (h1 : -2147483648 ≤ x + y) (h2 : x + y < 2147483648) : (a + b).toInt = x + y := by
  rw [Int32.toInt_add, ha, hb]
  exact Int.bmod_eq_of_le (by omega) (by omega)
theorem i32_sub {a b : Int32} {x y : Int} (ha : a.toInt = x) (hb : b.toInt = y) (h1 : -2147483648 ≤ x - y) (h2 : x - y < 2147483648) : (a - b).toInt = x - y := by
  rw [Int32.toInt_sub, ha, hb]
  exact Int.bmod_eq_of_le (by omega) (by omega)
theorem i32_mul {a b : Int32} {x y : Int} (ha : a.toInt = x) (hb : b.toInt = y) (h1 : -2147483648 ≤ x * y) (h2 : x * y < 2147483648) : (a * b).toInt = x * y := by
  rw [Int32.toInt_mul, ha, hb]
  exact Int.bmod_eq_of_le (by omega) (by omega)
theorem v_step {a c : Int32} {m : Int} (ha : 0 ≤ a.toInt ∧ a.toInt ≤ m) (hm : m ≤ 999) (hc : dig c = true) : 0 ≤ (10 * a + c - 48).toInt ∧ (10 * a + c - 48).toInt ≤ 10 * m + 9 := by
  have hc := dig_le hc
  have e1 : (10 * a).toInt = 10 * a.toInt := i32_mul (by decide) rfl (by omega) (by omega)
  have e2 : (10 * a + c).toInt = 10 * a.toInt + c.toInt := i32_add e1 rfl (by omega) (by omega)
  have e3 : (10 * a + c - 48).toInt = 10 * a.toInt + c.toInt - 48 := i32_sub e2 (by decide) (by omega) (by omega)
  rw [e3]
  omega
theorem vC_bd {tp : Nat → Int32} {p : Nat} : ∀ k, k ≤ 3 → (∀ t, t < k → dig (tp (p + t)) = true) → 0 ≤ (vC tp p k).toInt ∧ (vC tp p k).toInt ≤ (match k with | 0 => 0 | 1 => 9 | 2 => 99 | _ => 999) := by
  intro k hk h
  match k, hk with
  | 0, _ => exact ⟨by simp [vC], by simp [vC]⟩
  | 1, _ =>
    have := v_step (a := vC tp p 0) (m := 0) ⟨by simp [vC], by simp [vC]⟩ (by decide) (h 0 (by omega))
    exact ⟨this.1, by have := this.2; show (10 * vC tp p 0 + tp (p + 0) - 48).toInt ≤ 9; omega⟩
  | 2, _ =>
    have h1 := v_step (a := vC tp p 0) (m := 0) ⟨by simp [vC], by simp [vC]⟩ (by decide) (h 0 (by omega))
    have h2 := v_step (a := vC tp p 1) (m := 9) ⟨h1.1, by have := h1.2; show (10 * vC tp p 0 + tp (p + 0) - 48).toInt ≤ 9; omega⟩ (by decide) (h 1 (by omega))
    exact ⟨h2.1, by have := h2.2; show (10 * vC tp p 1 + tp (p + 1) - 48).toInt ≤ 99; omega⟩
  | 3, _ =>
    have h1 := v_step (a := vC tp p 0) (m := 0) ⟨by simp [vC], by simp [vC]⟩ (by decide) (h 0 (by omega))
    have h2 := v_step (a := vC tp p 1) (m := 9) ⟨h1.1, by have := h1.2; show (10 * vC tp p 0 + tp (p + 0) - 48).toInt ≤ 9; omega⟩ (by decide) (h 1 (by omega))
    have h3 := v_step (a := vC tp p 2) (m := 99) ⟨h2.1, by have := h2.2; show (10 * vC tp p 1 + tp (p + 1) - 48).toInt ≤ 99; omega⟩ (by decide) (h 2 (by omega))
    exact ⟨h3.1, by have := h3.2; show (10 * vC tp p 2 + tp (p + 2) - 48).toInt ≤ 999; omega⟩
theorem vR_vC {tp : Nat → Int32} {p : Nat} : ∀ k, k ≤ 3 → (∀ t, t < k → dig (tp (p + t)) = true) → vR tp p k = vC tp p k := by
  intro k
  induction k with
  | zero => intro _ _; rfl
  | succ k ih =>
    intro hk h
    have e := ih (by omega) (fun t ht => h t (by omega))
    have b := vC_bd (tp := tp) (p := p) k (by omega) (fun t ht => h t (by omega))
    show (if vR tp p k ≤ 999 then 10 * vR tp p k + tp (p + k) - 48 else vR tp p k) = 10 * vC tp p k + tp (p + k) - 48
    rw [e, if_pos]
    rw [Int32.le_iff_toInt_le]
    show (vC tp p k).toInt ≤ 999
    have h2 : (match k with | 0 => (0 : Int) | 1 => 9 | 2 => 99 | _ => 999) ≤ 999 := by
      match k with
      | 0 => decide
      | 1 => decide
      | 2 => decide
      | n + 3 => exact Int.le_refl _
    omega
theorem u2_row {g : MM} {c b k : Nat} {v : Int32} (h : k ≠ c) : u2 g c b v k = g k := by
  funext t
  simp [u2, h]
/-- nothing but the reader's own numbers has changed -/
def agT (f g : MM) : Prop := ∀ k b, ¬ (k = 85 ∧ 10 ≤ b ∧ b ≤ 14) → g k b = f k b
theorem agT.rf {f : MM} : agT f f := fun _ _ _ => rfl
theorem agT.tr {f g h : MM} (h1 : agT f g) (h2 : agT g h) : agT f h := fun k b hk => (h2 k b hk).trans (h1 k b hk)
theorem agT.put {f g : MM} (h : agT f g) {b : Nat} {v : Int32} (h1 : 10 ≤ b) (h2 : b ≤ 14) : agT f (u2 g 85 b v) := fun k t hk => by
  rw [← h k t hk]
  simp only [u2]
  rw [if_neg (by omega)]
theorem agT.row {f g : MM} (h : agT f g) {k : Nat} (hk : k ≠ 85) : g k = f k := by
  funext b
  exact h k b (fun q => hk q.1)
/-- the reference's reader stands at p -/
def AtR (tp : Nat → Int32) (len : Nat) (f : MM) (p : Nat) : Prop := len ≤ 120 ∧ f 91 = tp ∧ f 85 8 = nI len ∧ p ≤ len ∧ nx tp len p ≤ len ∧ f 85 10 = nI (nx tp len p) ∧ f 85 11 = nI (knd tp len p) ∧ (1 ≤ knd tp len p → knd tp len p ≤ 2 → f 85 12 = vl tp len p) ∧ f 85 13 = nI p
set_option maxRecDepth 100000 in
set_option maxHeartbeats 4000000 in
theorem c_X9_isSign {G : GG} {kn : Nat} {f : MM} {a : Int32} : CI G mX9_isSign 2 kn [.int a] f (b1 (sgn a)) f := by
  refine Ct.of [some (.int a)] rfl (by decide +kernel) rfl (Nat.le_of_ble_eq_true rfl) rfl ?_
  intro X C
  refine r_iload_n (pc := 0) C dX9_isSign_0 rfl ?_
  refine r_i2l (pc := 1) C dX9_isSign_1 ?_
  refine r_ldc2 (pc := 2) C (97) kX9_94 dX9_isSign_2 ?_
  refine r_ldc2 (pc := 5) C (122) kX9_96 dX9_isSign_5 ?_
  refine q_sIf (pc := 8) C kX9_66 dX9_isSign_8 (c_X9_in (lo := 97) (hi := 122) (by decide) (by decide)) rfl rfl (Nat.le_of_ble_eq_true rfl) (by decide) ⟨by decide, by decide⟩ ?_
  refine r_if_ne (pc := 11) C 26 dX9_isSign_11 (by decide) (fun c11 => ?_) (fun c11 => ?_)
  · replace c11 := b1_1 c11
    refine r_iconst (pc := 26) C (1) dX9_isSign_26 (by decide) ?_
    refine r_goto (pc := 27) C 31 dX9_isSign_27 (by decide) ?_
    refine q_zret (pc := 31) C dX9_isSign_31 rfl (Or.inr rfl) ?_
    refine ⟨?_, rfl⟩
    simp [sgn, b1, c11]
  · replace c11 := b1_0 c11
    refine r_iload_n (pc := 14) C dX9_isSign_14 rfl ?_
    refine r_bipush (pc := 15) C (44) dX9_isSign_15 (by decide) ?_
    refine r_icmp_eq (pc := 17) C 26 dX9_isSign_17 (by decide) (fun c17 => ?_) (fun c17 => ?_)
    · refine r_iconst (pc := 26) C (1) dX9_isSign_26 (by decide) ?_
      refine r_goto (pc := 27) C 31 dX9_isSign_27 (by decide) ?_
      refine q_zret (pc := 31) C dX9_isSign_31 rfl (Or.inr rfl) ?_
      refine ⟨?_, rfl⟩
      simp [sgn, b1, c11, c17]
    · refine r_iload_n (pc := 20) C dX9_isSign_20 rfl ?_
      refine r_bipush (pc := 21) C (59) dX9_isSign_21 (by decide) ?_
      refine r_icmp_ne (pc := 23) C 30 dX9_isSign_23 (by decide) (fun c23 => ?_) (fun c23 => ?_)
      · refine r_iconst (pc := 30) C (0) dX9_isSign_30 (by decide) ?_
        refine q_zret (pc := 31) C dX9_isSign_31 rfl (Or.inl rfl) ?_
        refine ⟨?_, rfl⟩
        simp [sgn, b1, c11, c17, c23]
      · refine r_iconst (pc := 26) C (1) dX9_isSign_26 (by decide) ?_
        refine r_goto (pc := 27) C 31 dX9_isSign_27 (by decide) ?_
        refine q_zret (pc := 31) C dX9_isSign_31 rfl (Or.inr rfl) ?_
        refine ⟨?_, rfl⟩
        simp [sgn, b1, c11, c17, c23]
theorem c_dig {G : GG} {kn : Nat} {f : MM} {x : Int32} : CI G mX9_in 1 kn [.long x.toInt64, .long 48, .long 57] f (b1 (dig x)) f := c_X9_in (lo := 48) (hi := 57) (by decide) (by decide)
set_option maxRecDepth 100000 in
set_option maxHeartbeats 4000000 in
theorem l_nextToken {X : XT} {G : GG} {kn : Nat} {Q : State → Prop} {f : MM} {tp : Nat → Int32} {len q : Nat} (hlen : len ≤ 120) (C : Cx X G mX9_nextToken 3 0 0 (NN kn)) (K : ∀ (i : Nat) (g : MM), (q + i ≤ len ∧ (∀ t, t < i → q + t < len ∧ dig (tp (q + t)) = true) ∧ g 91 = tp ∧ g 85 8 = nI len ∧ g 85 10 = nI (q + i) ∧ g 85 12 = vR tp q i ∧ g 85 13 = nI q ∧ g 85 11 = (if q = len then 3 else 0) ∧ agT f g) → (len ≤ q + i ∨ dig (tp (q + i)) = false) → Vw X G mX9_nextToken.2.2.2.1 0 0 Q (NN kn) (shF kn) g 120 [some (.ref (G.1 + 85))] []) : ∀ (m i : Nat) (g : MM), q + i + m = len → (q + i ≤ len ∧ (∀ t, t < i → q + t < len ∧ dig (tp (q + t)) = true) ∧ g 91 = tp ∧ g 85 8 = nI len ∧ g 85 10 = nI (q + i) ∧ g 85 12 = vR tp q i ∧ g 85 13 = nI q ∧ g 85 11 = (if q = len then 3 else 0) ∧ agT f g) → Vw X G mX9_nextToken.2.2.2.1 0 0 Q (NN kn) (shF kn) g 33 [some (.ref (G.1 + 85))] [] := by
  intro m
  induction m with
  | zero =>
    intro i g hm hg
    obtain ⟨h1, h2, h3, h4, h5, h6, h7, h8, h9⟩ := id hg
    refine r_aload_n (pc := 33) C dX9_nextToken_33 rfl ?_
    refine r_get (pc := 34) C fX9_98 dX9_nextToken_34 (s_85 _) rfl ?_
    refine r_aload_n (pc := 37) C dX9_nextToken_37 rfl ?_
    refine r_get (pc := 38) C fX9_90 dX9_nextToken_38 (s_85 _) rfl ?_
    refine q_ge (pc := 41) C (q + i) len 120 h5 h4 (by omega) (by omega) dX9_nextToken_41 (by decide) (fun c41 => ?_) (fun c41 => ?_)
    · exact K i g hg (Or.inl c41)
    · exact absurd c41 (by omega)
  | succ m ih =>
    intro i g hm hg
    obtain ⟨h1, h2, h3, h4, h5, h6, h7, h8, h9⟩ := id hg
    refine r_aload_n (pc := 33) C dX9_nextToken_33 rfl ?_
    refine r_get (pc := 34) C fX9_98 dX9_nextToken_34 (s_85 _) rfl ?_
    refine r_aload_n (pc := 37) C dX9_nextToken_37 rfl ?_
    refine r_get (pc := 38) C fX9_90 dX9_nextToken_38 (s_85 _) rfl ?_
    refine q_ge (pc := 41) C (q + i) len 120 h5 h4 (by omega) (by omega) dX9_nextToken_41 (by decide) (fun c41 => ?_) (fun c41 => ?_)
    · exact absurd c41 (by omega)
    · refine r_aload_n (pc := 44) C dX9_nextToken_44 rfl ?_
      refine r_getr (pc := 45) C fX9_25 dX9_nextToken_45 (s_85 _) rfl rfl ?_
      refine r_aload_n (pc := 48) C dX9_nextToken_48 rfl ?_
      refine r_get (pc := 49) C fX9_98 dX9_nextToken_49 (s_85 _) rfl ?_
      refine q_iald (pc := 52) C (q + i) dX9_nextToken_52 (s_91 _) (sn_91 _) h5 (by omega) (by decide) ?_
      refine r_i2l (pc := 53) C dX9_nextToken_53 ?_
      refine r_ldc2 (pc := 54) C (48) kX9_110 dX9_nextToken_54 ?_
      refine r_ldc2 (pc := 57) C (57) kX9_112 dX9_nextToken_57 ?_
      refine q_sIf (pc := 60) C kX9_66 dX9_nextToken_60 (c_dig) rfl rfl (Nat.le_of_ble_eq_true rfl) (by decide) ⟨by decide, by decide⟩ ?_
      refine r_if_eq (pc := 63) C 120 dX9_nextToken_63 (by decide) (fun c63 => ?_) (fun c63 => ?_)
      · replace c63 := b1_0 c63
        rw [h3] at c63
        exact K i g hg (Or.inr c63)
      · replace c63 := b1_1 c63
        rw [h3] at c63
        refine r_aload_n (pc := 66) C dX9_nextToken_66 rfl ?_
        refine r_aload_n (pc := 67) C dX9_nextToken_67 rfl ?_
        refine r_get (pc := 68) C fX9_107 dX9_nextToken_68 (s_85 _) rfl ?_
        refine r_sipush (pc := 71) C (999) dX9_nextToken_71 (by decide) ?_
        refine r_icmp_le (pc := 74) C 84 dX9_nextToken_74 (by decide) (fun c74 => ?_) (fun c74 => ?_)
        · refine r_bipush (pc := 84) C (10) dX9_nextToken_84 (by decide) ?_
          refine r_aload_n (pc := 86) C dX9_nextToken_86 rfl ?_
          refine r_get (pc := 87) C fX9_107 dX9_nextToken_87 (s_85 _) rfl ?_
          refine r_imul (pc := 90) C dX9_nextToken_90 ?_
          refine r_aload_n (pc := 91) C dX9_nextToken_91 rfl ?_
          refine r_getr (pc := 92) C fX9_25 dX9_nextToken_92 (s_85 _) rfl rfl ?_
          refine r_aload_n (pc := 95) C dX9_nextToken_95 rfl ?_
          refine r_get (pc := 96) C fX9_98 dX9_nextToken_96 (s_85 _) rfl ?_
          refine q_iald (pc := 99) C (q + i) dX9_nextToken_99 (s_91 _) (sn_91 _) h5 (by omega) (by decide) ?_
          refine r_iadd (pc := 100) C dX9_nextToken_100 ?_
          refine r_bipush (pc := 101) C (48) dX9_nextToken_101 (by decide) ?_
          refine r_isub (pc := 103) C dX9_nextToken_103 ?_
          refine r_put (pc := 104) C fX9_107 ftX9_12 dX9_nextToken_104 (s_85 _) rfl ?_
          refine r_aload_n (pc := 107) C dX9_nextToken_107 rfl ?_
          refine r_dup (pc := 108) C dX9_nextToken_108 rfl ?_
          refine r_get (pc := 109) C fX9_98 dX9_nextToken_109 (s_85 _) rfl ?_
          refine r_iconst (pc := 112) C (1) dX9_nextToken_112 (by decide) ?_
          refine r_iadd (pc := 113) C dX9_nextToken_113 ?_
          refine r_put (pc := 114) C fX9_98 ftX9_10 dX9_nextToken_114 (s_85 _) rfl ?_
          refine r_goto (pc := 117) C 33 dX9_nextToken_117 (by decide) ?_
          refine ih (i + 1) _ (by omega) ⟨by omega, ?_, ?_, ?_, ?_, ?_, ?_, ?_, ?_⟩
          · intro t ht
            by_cases e : t = i
            · subst e; exact ⟨by omega, c63⟩
            · exact h2 t (by omega)
          · rw [u2_row (by decide), u2_row (by decide)]; exact h3
          · simp [u2, h4]
          · simp [u2, h5]; exact nI_1 _
          · show _ = (if vR tp q i ≤ 999 then 10 * vR tp q i + tp (q + i) - 48 else vR tp q i)
            rw [← h6, ← h3]
            simp [u2, c74]
          · simp [u2, h7]
          · simp only [u2]; simp; exact h8
          · exact (h9.put (by decide) (by decide)).put (by decide) (by decide)
        · refine r_aload_n (pc := 77) C dX9_nextToken_77 rfl ?_
          refine r_get (pc := 78) C fX9_107 dX9_nextToken_78 (s_85 _) rfl ?_
          refine r_goto (pc := 81) C 104 dX9_nextToken_81 (by decide) ?_
          refine r_put (pc := 104) C fX9_107 ftX9_12 dX9_nextToken_104 (s_85 _) rfl ?_
          refine r_aload_n (pc := 107) C dX9_nextToken_107 rfl ?_
          refine r_dup (pc := 108) C dX9_nextToken_108 rfl ?_
          refine r_get (pc := 109) C fX9_98 dX9_nextToken_109 (s_85 _) rfl ?_
          refine r_iconst (pc := 112) C (1) dX9_nextToken_112 (by decide) ?_
          refine r_iadd (pc := 113) C dX9_nextToken_113 ?_
          refine r_put (pc := 114) C fX9_98 ftX9_10 dX9_nextToken_114 (s_85 _) rfl ?_
          refine r_goto (pc := 117) C 33 dX9_nextToken_117 (by decide) ?_
          refine ih (i + 1) _ (by omega) ⟨by omega, ?_, ?_, ?_, ?_, ?_, ?_, ?_, ?_⟩
          · intro t ht
            by_cases e : t = i
            · subst e; exact ⟨by omega, c63⟩
            · exact h2 t (by omega)
          · rw [u2_row (by decide), u2_row (by decide)]; exact h3
          · simp [u2, h4]
          · simp [u2, h5]; exact nI_1 _
          · show _ = (if vR tp q i ≤ 999 then 10 * vR tp q i + tp (q + i) - 48 else vR tp q i)
            rw [← h6, ← h3]
            simp [u2, c74]
          · simp [u2, h7]
          · simp only [u2]; simp; exact h8
          · exact (h9.put (by decide) (by decide)).put (by decide) (by decide)
set_option maxRecDepth 100000 in
set_option maxHeartbeats 4000000 in
theorem e_nextToken {X : XT} {G : GG} {kn : Nat} {f : MM} {tp : Nat → Int32} {len q : Nat} (hlen : len ≤ 120) (C : Cx X G mX9_nextToken 3 0 0 (NN kn)) {i : Nat} {g : MM} (hg : (q + i ≤ len ∧ (∀ t, t < i → q + t < len ∧ dig (tp (q + t)) = true) ∧ g 91 = tp ∧ g 85 8 = nI len ∧ g 85 10 = nI (q + i) ∧ g 85 12 = vR tp q i ∧ g 85 13 = nI q ∧ g 85 11 = (if q = len then 3 else 0) ∧ agT f g)) (hx : len ≤ q + i ∨ dig (tp (q + i)) = false) : Vw X G mX9_nextToken.2.2.2.1 0 0 (QQ X G (pV kn (fun g => AtR tp len g q ∧ agT f g)) 0 0) (NN kn) (shF kn) g 120 [some (.ref (G.1 + 85))] [] := by
  obtain ⟨h1, h2, h3, h4, h5, h6, h7, h8, h9⟩ := hg
  have hd : dEnd tp len q = q + i := dE_run h2 hx (by omega)
  have hdg : 0 < i → dig (tp q) = true := fun z => by have := (h2 0 z).2; rwa [Nat.add_zero] at this
  refine r_aload_n (pc := 120) C dX9_nextToken_120 rfl ?_
  refine r_get (pc := 121) C fX9_98 dX9_nextToken_121 (s_85 _) rfl ?_
  refine r_aload_n (pc := 124) C dX9_nextToken_124 rfl ?_
  refine r_get (pc := 125) C fX9_101 dX9_nextToken_125 (s_85 _) rfl ?_
  refine q_le (pc := 128) C (q + i) q 156 h5 h7 (by omega) (by omega) dX9_nextToken_128 (by decide) (fun c128 => ?_) (fun c128 => ?_)
  · refine r_aload_n (pc := 156) C dX9_nextToken_156 rfl ?_
    refine r_get (pc := 157) C fX9_104 dX9_nextToken_157 (s_85 _) rfl ?_
    refine r_if_ne (pc := 160) C 210 dX9_nextToken_160 (by decide) (fun c160 => ?_) (fun c160 => ?_)
    · have hql : q = len := by
        rcases Nat.lt_or_ge q len with z | z
        · exact absurd (by rw [h8, if_neg (by omega)]) c160
        · omega
      obtain rfl : 0 = i := by omega
      refine q_vret (pc := 210) C dX9_nextToken_210 rfl ?_
      refine ⟨⟨hlen, h3, h4, by omega, ?_, ?_, ?_, ?_, h7⟩, h9⟩
      · rw [show nx tp len q = q by simp [nx, hql]]; omega
      · rw [show nx tp len q = q by simp [nx, hql]]; rw [h5]; rfl
      · rw [show knd tp len q = 3 by simp [knd, hql], h8, if_pos hql]; rfl
      · intro z1 z2
        rw [show knd tp len q = 3 by simp [knd, hql]] at z2
        omega
    · have hql : ¬ q = len := by
        intro e
        rw [h8, if_pos e] at c160
        exact absurd c160 (by decide)
      obtain rfl : 0 = i := by omega
      refine r_aload_n (pc := 163) C dX9_nextToken_163 rfl ?_
      refine r_aload_n (pc := 164) C dX9_nextToken_164 rfl ?_
      refine r_getr (pc := 165) C fX9_25 dX9_nextToken_165 (s_85 _) rfl rfl ?_
      refine r_aload_n (pc := 168) C dX9_nextToken_168 rfl ?_
      refine r_get (pc := 169) C fX9_98 dX9_nextToken_169 (s_85 _) rfl ?_
      refine q_iald (pc := 172) C (q + 0) dX9_nextToken_172 (s_91 _) (sn_91 _) h5 (by omega) (by decide) ?_
      refine q_sIf (pc := 173) C kX9_114 dX9_nextToken_173 (c_X9_isSign) rfl rfl (Nat.le_of_ble_eq_true rfl) (by decide) ⟨by decide, by decide⟩ ?_
      refine r_if_eq (pc := 176) C 183 dX9_nextToken_176 (by decide) (fun c176 => ?_) (fun c176 => ?_)
      · replace c176 := b1_0 c176
        refine r_iconst (pc := 183) C (0) dX9_nextToken_183 (by decide) ?_
        refine r_put (pc := 184) C fX9_104 ftX9_11 dX9_nextToken_184 (s_85 _) rfl ?_
        refine r_aload_n (pc := 187) C dX9_nextToken_187 rfl ?_
        refine r_aload_n (pc := 188) C dX9_nextToken_188 rfl ?_
        refine r_getr (pc := 189) C fX9_25 dX9_nextToken_189 (s_85 _) rfl rfl ?_
        refine r_aload_n (pc := 192) C dX9_nextToken_192 rfl ?_
        refine r_get (pc := 193) C fX9_98 dX9_nextToken_193 (s_85 _) rfl ?_
        refine q_iald (pc := 196) C (q + 0) dX9_nextToken_196 (s_91 _) (sn_91 _) (by simp [u2]; exact h5) (by omega) (by decide) ?_
        refine r_put (pc := 197) C fX9_107 ftX9_12 dX9_nextToken_197 (s_85 _) rfl ?_
        refine r_aload_n (pc := 200) C dX9_nextToken_200 rfl ?_
        refine r_dup (pc := 201) C dX9_nextToken_201 rfl ?_
        refine r_get (pc := 202) C fX9_98 dX9_nextToken_202 (s_85 _) rfl ?_
        refine r_iconst (pc := 205) C (1) dX9_nextToken_205 (by decide) ?_
        refine r_iadd (pc := 206) C dX9_nextToken_206 ?_
        refine r_put (pc := 207) C fX9_98 ftX9_10 dX9_nextToken_207 (s_85 _) rfl ?_
        refine q_vret (pc := 210) C dX9_nextToken_210 rfl ?_
        have hnd : dig (tp q) = false := by
          rcases hx with z | z
          · omega
          · rwa [Nat.add_zero] at z
        have hlt : ¬ len ≤ q := by omega
        rw [Nat.add_zero, h3] at c176
        refine ⟨⟨hlen, ?_, ?_, by omega, ?_, ?_, ?_, ?_, ?_⟩, ?_⟩
        · rw [u2_row (by decide), u2_row (by decide), u2_row (by decide)]; exact h3
        · simp [u2, h4]
        · rw [show nx tp len q = q + 1 by simp [nx, hlt, hnd]]; omega
        · rw [show nx tp len q = q + 1 by simp [nx, hlt, hnd]]; simp [u2, h5]; exact nI_1 _
        · rw [show knd tp len q = 0 by simp [knd, hlt, hnd, c176]]; simp [u2]; rfl
        · intro z1 z2
          rw [show vl tp len q = tp q by simp [vl, hnd]]
          simp [u2, h3]
        · simp [u2, h7]
        · exact ((h9.put (by decide) (by decide)).put (by decide) (by decide)).put (by decide) (by decide)
      · replace c176 := b1_1 c176
        refine r_iconst (pc := 179) C (1) dX9_nextToken_179 (by decide) ?_
        refine r_goto (pc := 180) C 184 dX9_nextToken_180 (by decide) ?_
        refine r_put (pc := 184) C fX9_104 ftX9_11 dX9_nextToken_184 (s_85 _) rfl ?_
        refine r_aload_n (pc := 187) C dX9_nextToken_187 rfl ?_
        refine r_aload_n (pc := 188) C dX9_nextToken_188 rfl ?_
        refine r_getr (pc := 189) C fX9_25 dX9_nextToken_189 (s_85 _) rfl rfl ?_
        refine r_aload_n (pc := 192) C dX9_nextToken_192 rfl ?_
        refine r_get (pc := 193) C fX9_98 dX9_nextToken_193 (s_85 _) rfl ?_
        refine q_iald (pc := 196) C (q + 0) dX9_nextToken_196 (s_91 _) (sn_91 _) (by simp [u2]; exact h5) (by omega) (by decide) ?_
        refine r_put (pc := 197) C fX9_107 ftX9_12 dX9_nextToken_197 (s_85 _) rfl ?_
        refine r_aload_n (pc := 200) C dX9_nextToken_200 rfl ?_
        refine r_dup (pc := 201) C dX9_nextToken_201 rfl ?_
        refine r_get (pc := 202) C fX9_98 dX9_nextToken_202 (s_85 _) rfl ?_
        refine r_iconst (pc := 205) C (1) dX9_nextToken_205 (by decide) ?_
        refine r_iadd (pc := 206) C dX9_nextToken_206 ?_
        refine r_put (pc := 207) C fX9_98 ftX9_10 dX9_nextToken_207 (s_85 _) rfl ?_
        refine q_vret (pc := 210) C dX9_nextToken_210 rfl ?_
        have hnd : dig (tp q) = false := by
          rcases hx with z | z
          · omega
          · rwa [Nat.add_zero] at z
        have hlt : ¬ len ≤ q := by omega
        rw [Nat.add_zero, h3] at c176
        refine ⟨⟨hlen, ?_, ?_, by omega, ?_, ?_, ?_, ?_, ?_⟩, ?_⟩
        · rw [u2_row (by decide), u2_row (by decide), u2_row (by decide)]; exact h3
        · simp [u2, h4]
        · rw [show nx tp len q = q + 1 by simp [nx, hlt, hnd]]; omega
        · rw [show nx tp len q = q + 1 by simp [nx, hlt, hnd]]; simp [u2, h5]; exact nI_1 _
        · rw [show knd tp len q = 1 by simp [knd, hlt, hnd, c176]]; simp [u2]; rfl
        · intro z1 z2
          rw [show vl tp len q = tp q by simp [vl, hnd]]
          simp [u2, h3]
        · simp [u2, h7]
        · exact ((h9.put (by decide) (by decide)).put (by decide) (by decide)).put (by decide) (by decide)
  · refine r_aload_n (pc := 131) C dX9_nextToken_131 rfl ?_
    refine r_aload_n (pc := 132) C dX9_nextToken_132 rfl ?_
    refine r_get (pc := 133) C fX9_98 dX9_nextToken_133 (s_85 _) rfl ?_
    refine r_aload_n (pc := 136) C dX9_nextToken_136 rfl ?_
    refine r_get (pc := 137) C fX9_101 dX9_nextToken_137 (s_85 _) rfl ?_
    refine r_isub (pc := 140) C dX9_nextToken_140 ?_
    refine q_is (i) (by rw [h5, h7, pk_sub (by omega), Nat.add_sub_cancel_left]) ?_
    refine r_iconst (pc := 141) C (3) dX9_nextToken_141 (by decide) ?_
    refine q_le (pc := 142) C i 3 149 rfl rfl (by omega) (by omega) dX9_nextToken_142 (by decide) (fun c142 => ?_) (fun c142 => ?_)
    · refine r_iconst (pc := 149) C (2) dX9_nextToken_149 (by decide) ?_
      refine r_put (pc := 150) C fX9_104 ftX9_11 dX9_nextToken_150 (s_85 _) rfl ?_
      refine r_goto (pc := 153) C 210 dX9_nextToken_153 (by decide) ?_
      refine q_vret (pc := 210) C dX9_nextToken_210 rfl ?_
      refine ⟨⟨hlen, ?_, ?_, by omega, ?_, ?_, ?_, ?_, ?_⟩, ?_⟩
      · rw [u2_row (by decide)]; exact h3
      · simp [u2, h4]
      · rw [show nx tp len q = q + i by simp [nx, hdg (by omega), hd, show ¬ len ≤ q by have := (h2 0 (by omega)).1; omega]]; exact h1
      · rw [show nx tp len q = q + i by simp [nx, hdg (by omega), hd, show ¬ len ≤ q by have := (h2 0 (by omega)).1; omega]]; simp [u2, h5]
      · rw [show knd tp len q = 2 by simp [knd, hdg (by omega), hd, show ¬ len ≤ q by have := (h2 0 (by omega)).1; omega]; omega]; simp [u2]; rfl
      · intro z1 z2
        rw [show vl tp len q = vC tp q i by simp [vl, hdg (by omega), hd], ← vR_vC i (by omega) (fun t ht => (h2 t ht).2)]
        simp [u2, h6]
      · simp [u2, h7]
      · exact h9.put (by decide) (by decide)
    · refine r_iconst (pc := 145) C (0) dX9_nextToken_145 (by decide) ?_
      refine r_goto (pc := 146) C 150 dX9_nextToken_146 (by decide) ?_
      refine r_put (pc := 150) C fX9_104 ftX9_11 dX9_nextToken_150 (s_85 _) rfl ?_
      refine r_goto (pc := 153) C 210 dX9_nextToken_153 (by decide) ?_
      refine q_vret (pc := 210) C dX9_nextToken_210 rfl ?_
      refine ⟨⟨hlen, ?_, ?_, by omega, ?_, ?_, ?_, ?_, ?_⟩, ?_⟩
      · rw [u2_row (by decide)]; exact h3
      · simp [u2, h4]
      · rw [show nx tp len q = q + i by simp [nx, hdg (by omega), hd, show ¬ len ≤ q by have := (h2 0 (by omega)).1; omega]]; exact h1
      · rw [show nx tp len q = q + i by simp [nx, hdg (by omega), hd, show ¬ len ≤ q by have := (h2 0 (by omega)).1; omega]]; simp [u2, h5]
      · rw [show knd tp len q = 0 by simp [knd, hdg (by omega), hd, show ¬ len ≤ q by have := (h2 0 (by omega)).1; omega]; omega]; simp [u2]; rfl
      · intro z1 z2
        rw [show knd tp len q = 0 by simp [knd, hdg (by omega), hd, show ¬ len ≤ q by have := (h2 0 (by omega)).1; omega]; omega] at z1
        omega
      · simp [u2, h7]
      · exact h9.put (by decide) (by decide)
set_option maxRecDepth 100000 in
set_option maxHeartbeats 4000000 in
theorem c_X9_nextToken {G : GG} {kn : Nat} {f : MM} {tp : Nat → Int32} {len q : Nat} (hlen : len ≤ 120) (ht : f 91 = tp) (hl : f 85 8 = nI len) (hp : f 85 10 = nI q) (hq : q ≤ len) : RV G mX9_nextToken 3 kn [.ref (G.1 + 85)] f (fun g => AtR tp len g q ∧ agT f g) := by
  refine Ct.of [some (.ref (G.1 + 85))] rfl (by decide +kernel) rfl (Nat.le_of_ble_eq_true rfl) rfl ?_
  intro X C
  refine r_aload_n (pc := 0) C dX9_nextToken_0 rfl ?_
  refine r_aload_n (pc := 1) C dX9_nextToken_1 rfl ?_
  refine r_get (pc := 2) C fX9_98 dX9_nextToken_2 (s_85 _) rfl ?_
  refine r_put (pc := 5) C fX9_101 ftX9_13 dX9_nextToken_5 (s_85 _) rfl ?_
  refine r_aload_n (pc := 8) C dX9_nextToken_8 rfl ?_
  refine r_aload_n (pc := 9) C dX9_nextToken_9 rfl ?_
  refine r_get (pc := 10) C fX9_98 dX9_nextToken_10 (s_85 _) rfl ?_
  refine r_aload_n (pc := 13) C dX9_nextToken_13 rfl ?_
  refine r_get (pc := 14) C fX9_90 dX9_nextToken_14 (s_85 _) rfl ?_
  refine q_ne (pc := 17) C q len 24 (by simp [u2, hp]) (by simp [u2, hl]) (by omega) (by omega) dX9_nextToken_17 (by decide) (fun c17 => ?_) (fun c17 => ?_)
  · refine r_iconst (pc := 24) C (0) dX9_nextToken_24 (by decide) ?_
    refine r_put (pc := 25) C fX9_104 ftX9_11 dX9_nextToken_25 (s_85 _) rfl ?_
    refine r_aload_n (pc := 28) C dX9_nextToken_28 rfl ?_
    refine r_iconst (pc := 29) C (0) dX9_nextToken_29 (by decide) ?_
    refine r_put (pc := 30) C fX9_107 ftX9_12 dX9_nextToken_30 (s_85 _) rfl ?_
    refine l_nextToken (f := f) (tp := tp) (len := len) (q := q) hlen C (fun i g hg hx => e_nextToken hlen C hg hx) (len - q) 0 _ (by omega) ⟨by omega, fun t ht => absurd ht (by omega), ?_, ?_, ?_, ?_, ?_, ?_, ?_⟩
    · rw [u2_row (by decide), u2_row (by decide), u2_row (by decide)]; exact ht
    · simp [u2, hl]
    · simp [u2, hp]
    · simp [u2, vR]
    · simp [u2, hp]
    · simp [u2, c17]
    · exact ((agT.rf.put (by decide) (by decide)).put (by decide) (by decide)).put (by decide) (by decide)
  · refine r_iconst (pc := 20) C (3) dX9_nextToken_20 (by decide) ?_
    refine r_goto (pc := 21) C 25 dX9_nextToken_21 (by decide) ?_
    refine r_put (pc := 25) C fX9_104 ftX9_11 dX9_nextToken_25 (s_85 _) rfl ?_
    refine r_aload_n (pc := 28) C dX9_nextToken_28 rfl ?_
    refine r_iconst (pc := 29) C (0) dX9_nextToken_29 (by decide) ?_
    refine r_put (pc := 30) C fX9_107 ftX9_12 dX9_nextToken_30 (s_85 _) rfl ?_
    refine l_nextToken (f := f) (tp := tp) (len := len) (q := q) hlen C (fun i g hg hx => e_nextToken hlen C hg hx) (len - q) 0 _ (by omega) ⟨by omega, fun t ht => absurd ht (by omega), ?_, ?_, ?_, ?_, ?_, ?_, ?_⟩
    · rw [u2_row (by decide), u2_row (by decide), u2_row (by decide)]; exact ht
    · simp [u2, hl]
    · simp [u2, hp]
    · simp [u2, vR]
    · simp [u2, hp]
    · simp [u2, c17]
    · exact ((agT.rf.put (by decide) (by decide)).put (by decide) (by decide)).put (by decide) (by decide)
end
