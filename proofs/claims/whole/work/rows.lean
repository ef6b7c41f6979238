section
-- ===== PART A: goes FIRST, ahead of the names: the tables' words, and 'selects' of the private methods out of them =====
/-- a private method of a class that the tables say can be made, by its rows of tables_1 -/
def lw_okq (q : MethodName × Nat) : Prop := (q.1.cls ≠ "java/lang/invoke/MethodHandle" ∧ q.1.cls ≠ "java/lang/invoke/VarHandle") ∧ Cond.instantiable q.1.cls q.2 ∈ tables_1 ∧ Cond.privateMethod q.1 ∈ tables_1 ∧ Cond.instanceMethod q.1 ∈ tables_1
theorem lw_p0 : lw_okq (⟨"DrawerSlips$History", "prepare", "(LDrawerSlips$Archive;)V"⟩, 3) := ⟨⟨by decide +kernel, by decide +kernel⟩, List.mem_of_getElem? (i := 142) (by decide +kernel), List.mem_of_getElem? (i := 244) (by decide +kernel), List.mem_of_getElem? (i := 245) (by decide +kernel)⟩
theorem lw_p1 : lw_okq (⟨"DrawerSlips$History", "stateAt", "(I)LDrawerSlips$Archive;"⟩, 3) := ⟨⟨by decide +kernel, by decide +kernel⟩, List.mem_of_getElem? (i := 142) (by decide +kernel), List.mem_of_getElem? (i := 248) (by decide +kernel), List.mem_of_getElem? (i := 249) (by decide +kernel)⟩
theorem lw_p2 : lw_okq (⟨"DrawerSlips$Archive", "copyFrom", "(LDrawerSlips$Archive;)V"⟩, 14) := ⟨⟨by decide +kernel, by decide +kernel⟩, List.mem_of_getElem? (i := 20) (by decide +kernel), List.mem_of_getElem? (i := 252) (by decide +kernel), List.mem_of_getElem? (i := 253) (by decide +kernel)⟩
theorem lw_p3 : lw_okq (⟨"DrawerSlips$Slip", "copyFrom", "(LDrawerSlips$Slip;)V"⟩, 8) := ⟨⟨by decide +kernel, by decide +kernel⟩, List.mem_of_getElem? (i := 52) (by decide +kernel), List.mem_of_getElem? (i := 256) (by decide +kernel), List.mem_of_getElem? (i := 257) (by decide +kernel)⟩
theorem lw_p4 : lw_okq (⟨"DrawerSlips$Lately", "copyFrom", "(LDrawerSlips$Lately;)V"⟩, 4) := ⟨⟨by decide +kernel, by decide +kernel⟩, List.mem_of_getElem? (i := 28) (by decide +kernel), List.mem_of_getElem? (i := 260) (by decide +kernel), List.mem_of_getElem? (i := 261) (by decide +kernel)⟩
theorem lw_p5 : lw_okq (⟨"DrawerSlips$Archive", "adjust", "(II)I"⟩, 14) := ⟨⟨by decide +kernel, by decide +kernel⟩, List.mem_of_getElem? (i := 20) (by decide +kernel), List.mem_of_getElem? (i := 265) (by decide +kernel), List.mem_of_getElem? (i := 266) (by decide +kernel)⟩
theorem lw_p6 : lw_okq (⟨"DrawerSlips", "settled", "(I)I"⟩, 7) := ⟨⟨by decide +kernel, by decide +kernel⟩, List.mem_of_getElem? (i := 12) (by decide +kernel), List.mem_of_getElem? (i := 279) (by decide +kernel), List.mem_of_getElem? (i := 280) (by decide +kernel)⟩
theorem lw_p7 : lw_okq (⟨"DrawerSlips$History", "keep", "()V"⟩, 3) := ⟨⟨by decide +kernel, by decide +kernel⟩, List.mem_of_getElem? (i := 142) (by decide +kernel), List.mem_of_getElem? (i := 283) (by decide +kernel), List.mem_of_getElem? (i := 284) (by decide +kernel)⟩
theorem lw_p8 : lw_okq (⟨"DrawerSlips$Archive", "accept", "(III)I"⟩, 14) := ⟨⟨by decide +kernel, by decide +kernel⟩, List.mem_of_getElem? (i := 20) (by decide +kernel), List.mem_of_getElem? (i := 294) (by decide +kernel), List.mem_of_getElem? (i := 295) (by decide +kernel)⟩
theorem lw_p9 : lw_okq (⟨"DrawerSlips$Archive", "hostFor", "(III)LDrawerSlips$Slip;"⟩, 14) := ⟨⟨by decide +kernel, by decide +kernel⟩, List.mem_of_getElem? (i := 20) (by decide +kernel), List.mem_of_getElem? (i := 301) (by decide +kernel), List.mem_of_getElem? (i := 302) (by decide +kernel)⟩
theorem lw_p10 : lw_okq (⟨"DrawerSlips$Slip", "isOfSort", "(I)Z"⟩, 8) := ⟨⟨by decide +kernel, by decide +kernel⟩, List.mem_of_getElem? (i := 52) (by decide +kernel), List.mem_of_getElem? (i := 305) (by decide +kernel), List.mem_of_getElem? (i := 306) (by decide +kernel)⟩
theorem lw_p11 : lw_okq (⟨"DrawerSlips$Slip", "last", "()I"⟩, 8) := ⟨⟨by decide +kernel, by decide +kernel⟩, List.mem_of_getElem? (i := 52) (by decide +kernel), List.mem_of_getElem? (i := 309) (by decide +kernel), List.mem_of_getElem? (i := 310) (by decide +kernel)⟩
theorem lw_p12 : lw_okq (⟨"DrawerSlips$Archive", "freePlace", "()LDrawerSlips$Slip;"⟩, 14) := ⟨⟨by decide +kernel, by decide +kernel⟩, List.mem_of_getElem? (i := 20) (by decide +kernel), List.mem_of_getElem? (i := 313) (by decide +kernel), List.mem_of_getElem? (i := 314) (by decide +kernel)⟩
theorem lw_p13 : lw_okq (⟨"DrawerSlips$Archive", "countWaiting", "(II)V"⟩, 14) := ⟨⟨by decide +kernel, by decide +kernel⟩, List.mem_of_getElem? (i := 20) (by decide +kernel), List.mem_of_getElem? (i := 317) (by decide +kernel), List.mem_of_getElem? (i := 318) (by decide +kernel)⟩
theorem lw_p14 : lw_okq (⟨"DrawerSlips$Archive", "tearUp", "(I)I"⟩, 14) := ⟨⟨by decide +kernel, by decide +kernel⟩, List.mem_of_getElem? (i := 20) (by decide +kernel), List.mem_of_getElem? (i := 325) (by decide +kernel), List.mem_of_getElem? (i := 326) (by decide +kernel)⟩
theorem lw_p15 : lw_okq (⟨"DrawerSlips$Archive", "find", "(I)LDrawerSlips$Slip;"⟩, 14) := ⟨⟨by decide +kernel, by decide +kernel⟩, List.mem_of_getElem? (i := 20) (by decide +kernel), List.mem_of_getElem? (i := 329) (by decide +kernel), List.mem_of_getElem? (i := 330) (by decide +kernel)⟩
def lw_privs_1 : List (MethodName × Nat) := [(⟨"DrawerSlips$History", "prepare", "(LDrawerSlips$Archive;)V"⟩, 3), (⟨"DrawerSlips$History", "stateAt", "(I)LDrawerSlips$Archive;"⟩, 3), (⟨"DrawerSlips$Archive", "copyFrom", "(LDrawerSlips$Archive;)V"⟩, 14), (⟨"DrawerSlips$Slip", "copyFrom", "(LDrawerSlips$Slip;)V"⟩, 8), (⟨"DrawerSlips$Lately", "copyFrom", "(LDrawerSlips$Lately;)V"⟩, 4), (⟨"DrawerSlips$Archive", "adjust", "(II)I"⟩, 14), (⟨"DrawerSlips", "settled", "(I)I"⟩, 7), (⟨"DrawerSlips$History", "keep", "()V"⟩, 3), (⟨"DrawerSlips$Archive", "accept", "(III)I"⟩, 14), (⟨"DrawerSlips$Archive", "hostFor", "(III)LDrawerSlips$Slip;"⟩, 14), (⟨"DrawerSlips$Slip", "isOfSort", "(I)Z"⟩, 8), (⟨"DrawerSlips$Slip", "last", "()I"⟩, 8), (⟨"DrawerSlips$Archive", "freePlace", "()LDrawerSlips$Slip;"⟩, 14), (⟨"DrawerSlips$Archive", "countWaiting", "(II)V"⟩, 14), (⟨"DrawerSlips$Archive", "tearUp", "(I)I"⟩, 14), (⟨"DrawerSlips$Archive", "find", "(I)LDrawerSlips$Slip;"⟩, 14)]
theorem lw_r1 : ∀ q ∈ lw_privs_1, lw_okq q := List.forall_mem_cons.mpr ⟨lw_p0, List.forall_mem_cons.mpr ⟨lw_p1, List.forall_mem_cons.mpr ⟨lw_p2, List.forall_mem_cons.mpr ⟨lw_p3, List.forall_mem_cons.mpr ⟨lw_p4, List.forall_mem_cons.mpr ⟨lw_p5, List.forall_mem_cons.mpr ⟨lw_p6, List.forall_mem_cons.mpr ⟨lw_p7, List.forall_mem_cons.mpr ⟨lw_p8, List.forall_mem_cons.mpr ⟨lw_p9, List.forall_mem_cons.mpr ⟨lw_p10, List.forall_mem_cons.mpr ⟨lw_p11, List.forall_mem_cons.mpr ⟨lw_p12, List.forall_mem_cons.mpr ⟨lw_p13, List.forall_mem_cons.mpr ⟨lw_p14, List.forall_mem_cons.mpr ⟨lw_p15, fun _ h => absurd h List.not_mem_nil⟩⟩⟩⟩⟩⟩⟩⟩⟩⟩⟩⟩⟩⟩⟩⟩
theorem lw_p16 : lw_okq (⟨"DrawerSlips$Archive", "remove", "(LDrawerSlips$Slip;)V"⟩, 14) := ⟨⟨by decide +kernel, by decide +kernel⟩, List.mem_of_getElem? (i := 20) (by decide +kernel), List.mem_of_getElem? (i := 333) (by decide +kernel), List.mem_of_getElem? (i := 334) (by decide +kernel)⟩
theorem lw_p17 : lw_okq (⟨"DrawerSlips$Archive", "age", "(LDrawerSlips$Slip;)I"⟩, 14) := ⟨⟨by decide +kernel, by decide +kernel⟩, List.mem_of_getElem? (i := 20) (by decide +kernel), List.mem_of_getElem? (i := 337) (by decide +kernel), List.mem_of_getElem? (i := 338) (by decide +kernel)⟩
theorem lw_p18 : lw_okq (⟨"DrawerSlips", "serveSlips", "(I)I"⟩, 7) := ⟨⟨by decide +kernel, by decide +kernel⟩, List.mem_of_getElem? (i := 12) (by decide +kernel), List.mem_of_getElem? (i := 345) (by decide +kernel), List.mem_of_getElem? (i := 346) (by decide +kernel)⟩
theorem lw_p19 : lw_okq (⟨"DrawerSlips$Archive", "slipsThatWait", "()I"⟩, 14) := ⟨⟨by decide +kernel, by decide +kernel⟩, List.mem_of_getElem? (i := 20) (by decide +kernel), List.mem_of_getElem? (i := 349) (by decide +kernel), List.mem_of_getElem? (i := 350) (by decide +kernel)⟩
theorem lw_p20 : lw_okq (⟨"DrawerSlips$Archive", "serveNext", "()V"⟩, 14) := ⟨⟨by decide +kernel, by decide +kernel⟩, List.mem_of_getElem? (i := 20) (by decide +kernel), List.mem_of_getElem? (i := 355) (by decide +kernel), List.mem_of_getElem? (i := 356) (by decide +kernel)⟩
theorem lw_p21 : lw_okq (⟨"DrawerSlips$Archive", "reason", "()I"⟩, 14) := ⟨⟨by decide +kernel, by decide +kernel⟩, List.mem_of_getElem? (i := 20) (by decide +kernel), List.mem_of_getElem? (i := 359) (by decide +kernel), List.mem_of_getElem? (i := 360) (by decide +kernel)⟩
theorem lw_p22 : lw_okq (⟨"DrawerSlips$Archive", "leastFrom", "(II)LDrawerSlips$Slip;"⟩, 14) := ⟨⟨by decide +kernel, by decide +kernel⟩, List.mem_of_getElem? (i := 20) (by decide +kernel), List.mem_of_getElem? (i := 363) (by decide +kernel), List.mem_of_getElem? (i := 364) (by decide +kernel)⟩
theorem lw_p23 : lw_okq (⟨"DrawerSlips$Slip", "isAheadOf", "(LDrawerSlips$Slip;)Z"⟩, 8) := ⟨⟨by decide +kernel, by decide +kernel⟩, List.mem_of_getElem? (i := 52) (by decide +kernel), List.mem_of_getElem? (i := 367) (by decide +kernel), List.mem_of_getElem? (i := 368) (by decide +kernel)⟩
theorem lw_p24 : lw_okq (⟨"DrawerSlips$Archive", "newSort", "()I"⟩, 14) := ⟨⟨by decide +kernel, by decide +kernel⟩, List.mem_of_getElem? (i := 20) (by decide +kernel), List.mem_of_getElem? (i := 371) (by decide +kernel), List.mem_of_getElem? (i := 372) (by decide +kernel)⟩
theorem lw_p25 : lw_okq (⟨"DrawerSlips$Archive", "oldest", "(I)LDrawerSlips$Slip;"⟩, 14) := ⟨⟨by decide +kernel, by decide +kernel⟩, List.mem_of_getElem? (i := 20) (by decide +kernel), List.mem_of_getElem? (i := 375) (by decide +kernel), List.mem_of_getElem? (i := 376) (by decide +kernel)⟩
theorem lw_p26 : lw_okq (⟨"DrawerSlips$Archive", "isTooOld", "(LDrawerSlips$Slip;)Z"⟩, 14) := ⟨⟨by decide +kernel, by decide +kernel⟩, List.mem_of_getElem? (i := 20) (by decide +kernel), List.mem_of_getElem? (i := 379) (by decide +kernel), List.mem_of_getElem? (i := 380) (by decide +kernel)⟩
theorem lw_p27 : lw_okq (⟨"DrawerSlips$Archive", "chosen", "(I)LDrawerSlips$Slip;"⟩, 14) := ⟨⟨by decide +kernel, by decide +kernel⟩, List.mem_of_getElem? (i := 20) (by decide +kernel), List.mem_of_getElem? (i := 383) (by decide +kernel), List.mem_of_getElem? (i := 384) (by decide +kernel)⟩
theorem lw_p28 : lw_okq (⟨"DrawerSlips$Archive", "beginBatch", "(I)V"⟩, 14) := ⟨⟨by decide +kernel, by decide +kernel⟩, List.mem_of_getElem? (i := 20) (by decide +kernel), List.mem_of_getElem? (i := 387) (by decide +kernel), List.mem_of_getElem? (i := 388) (by decide +kernel)⟩
theorem lw_p29 : lw_okq (⟨"DrawerSlips$Archive", "minutesFor", "(LDrawerSlips$Slip;)I"⟩, 14) := ⟨⟨by decide +kernel, by decide +kernel⟩, List.mem_of_getElem? (i := 20) (by decide +kernel), List.mem_of_getElem? (i := 391) (by decide +kernel), List.mem_of_getElem? (i := 392) (by decide +kernel)⟩
theorem lw_p30 : lw_okq (⟨"DrawerSlips$Archive", "drawersTo", "(LDrawerSlips$Slip;)I"⟩, 14) := ⟨⟨by decide +kernel, by decide +kernel⟩, List.mem_of_getElem? (i := 20) (by decide +kernel), List.mem_of_getElem? (i := 395) (by decide +kernel), List.mem_of_getElem? (i := 396) (by decide +kernel)⟩
theorem lw_p31 : lw_okq (⟨"DrawerSlips$Lately", "append", "(III)V"⟩, 4) := ⟨⟨by decide +kernel, by decide +kernel⟩, List.mem_of_getElem? (i := 28) (by decide +kernel), List.mem_of_getElem? (i := 406) (by decide +kernel), List.mem_of_getElem? (i := 407) (by decide +kernel)⟩
def lw_privs_2 : List (MethodName × Nat) := [(⟨"DrawerSlips$Archive", "remove", "(LDrawerSlips$Slip;)V"⟩, 14), (⟨"DrawerSlips$Archive", "age", "(LDrawerSlips$Slip;)I"⟩, 14), (⟨"DrawerSlips", "serveSlips", "(I)I"⟩, 7), (⟨"DrawerSlips$Archive", "slipsThatWait", "()I"⟩, 14), (⟨"DrawerSlips$Archive", "serveNext", "()V"⟩, 14), (⟨"DrawerSlips$Archive", "reason", "()I"⟩, 14), (⟨"DrawerSlips$Archive", "leastFrom", "(II)LDrawerSlips$Slip;"⟩, 14), (⟨"DrawerSlips$Slip", "isAheadOf", "(LDrawerSlips$Slip;)Z"⟩, 8), (⟨"DrawerSlips$Archive", "newSort", "()I"⟩, 14), (⟨"DrawerSlips$Archive", "oldest", "(I)LDrawerSlips$Slip;"⟩, 14), (⟨"DrawerSlips$Archive", "isTooOld", "(LDrawerSlips$Slip;)Z"⟩, 14), (⟨"DrawerSlips$Archive", "chosen", "(I)LDrawerSlips$Slip;"⟩, 14), (⟨"DrawerSlips$Archive", "beginBatch", "(I)V"⟩, 14), (⟨"DrawerSlips$Archive", "minutesFor", "(LDrawerSlips$Slip;)I"⟩, 14), (⟨"DrawerSlips$Archive", "drawersTo", "(LDrawerSlips$Slip;)I"⟩, 14), (⟨"DrawerSlips$Lately", "append", "(III)V"⟩, 4)]
theorem lw_r2 : ∀ q ∈ lw_privs_2, lw_okq q := List.forall_mem_cons.mpr ⟨lw_p16, List.forall_mem_cons.mpr ⟨lw_p17, List.forall_mem_cons.mpr ⟨lw_p18, List.forall_mem_cons.mpr ⟨lw_p19, List.forall_mem_cons.mpr ⟨lw_p20, List.forall_mem_cons.mpr ⟨lw_p21, List.forall_mem_cons.mpr ⟨lw_p22, List.forall_mem_cons.mpr ⟨lw_p23, List.forall_mem_cons.mpr ⟨lw_p24, List.forall_mem_cons.mpr ⟨lw_p25, List.forall_mem_cons.mpr ⟨lw_p26, List.forall_mem_cons.mpr ⟨lw_p27, List.forall_mem_cons.mpr ⟨lw_p28, List.forall_mem_cons.mpr ⟨lw_p29, List.forall_mem_cons.mpr ⟨lw_p30, List.forall_mem_cons.mpr ⟨lw_p31, fun _ h => absurd h List.not_mem_nil⟩⟩⟩⟩⟩⟩⟩⟩⟩⟩⟩⟩⟩⟩⟩⟩
theorem lw_p32 : lw_okq (⟨"DrawerSlips$Archive", "stand", "(I)I"⟩, 14) := ⟨⟨by decide +kernel, by decide +kernel⟩, List.mem_of_getElem? (i := 20) (by decide +kernel), List.mem_of_getElem? (i := 416) (by decide +kernel), List.mem_of_getElem? (i := 417) (by decide +kernel)⟩
theorem lw_p33 : lw_okq (⟨"DrawerSlips$Archive", "ranked", "(II)LDrawerSlips$Slip;"⟩, 14) := ⟨⟨by decide +kernel, by decide +kernel⟩, List.mem_of_getElem? (i := 20) (by decide +kernel), List.mem_of_getElem? (i := 433) (by decide +kernel), List.mem_of_getElem? (i := 434) (by decide +kernel)⟩
theorem lw_p34 : lw_okq (⟨"DrawerSlips$Archive", "slipsAheadOf", "(LDrawerSlips$Slip;)I"⟩, 14) := ⟨⟨by decide +kernel, by decide +kernel⟩, List.mem_of_getElem? (i := 20) (by decide +kernel), List.mem_of_getElem? (i := 437) (by decide +kernel), List.mem_of_getElem? (i := 438) (by decide +kernel)⟩
theorem lw_p35 : lw_okq (⟨"DrawerSlips$Lately", "has", "(I)Z"⟩, 4) := ⟨⟨by decide +kernel, by decide +kernel⟩, List.mem_of_getElem? (i := 28) (by decide +kernel), List.mem_of_getElem? (i := 445) (by decide +kernel), List.mem_of_getElem? (i := 446) (by decide +kernel)⟩
theorem lw_p36 : lw_okq (⟨"DrawerSlips$Lately", "numberOf", "(I)I"⟩, 4) := ⟨⟨by decide +kernel, by decide +kernel⟩, List.mem_of_getElem? (i := 28) (by decide +kernel), List.mem_of_getElem? (i := 449) (by decide +kernel), List.mem_of_getElem? (i := 450) (by decide +kernel)⟩
theorem lw_p37 : lw_okq (⟨"DrawerSlips$Lately", "place", "(I)I"⟩, 4) := ⟨⟨by decide +kernel, by decide +kernel⟩, List.mem_of_getElem? (i := 28) (by decide +kernel), List.mem_of_getElem? (i := 453) (by decide +kernel), List.mem_of_getElem? (i := 454) (by decide +kernel)⟩
theorem lw_p38 : lw_okq (⟨"DrawerSlips$Lately", "waitOf", "(I)I"⟩, 4) := ⟨⟨by decide +kernel, by decide +kernel⟩, List.mem_of_getElem? (i := 28) (by decide +kernel), List.mem_of_getElem? (i := 458) (by decide +kernel), List.mem_of_getElem? (i := 459) (by decide +kernel)⟩
theorem lw_p39 : lw_okq (⟨"DrawerSlips$Lately", "sortOf", "(I)I"⟩, 4) := ⟨⟨by decide +kernel, by decide +kernel⟩, List.mem_of_getElem? (i := 28) (by decide +kernel), List.mem_of_getElem? (i := 462) (by decide +kernel), List.mem_of_getElem? (i := 463) (by decide +kernel)⟩
theorem lw_p40 : lw_okq (⟨"DrawerSlips$Archive", "amount", "(I)I"⟩, 14) := ⟨⟨by decide +kernel, by decide +kernel⟩, List.mem_of_getElem? (i := 20) (by decide +kernel), List.mem_of_getElem? (i := 470) (by decide +kernel), List.mem_of_getElem? (i := 471) (by decide +kernel)⟩
theorem lw_p41 : lw_okq (⟨"DrawerSlips$Pad", "append", "(J)I"⟩, 2) := ⟨⟨by decide +kernel, by decide +kernel⟩, List.mem_of_getElem? (i := 178) (by decide +kernel), List.mem_of_getElem? (i := 499) (by decide +kernel), List.mem_of_getElem? (i := 500) (by decide +kernel)⟩
theorem lw_p42 : lw_okq (⟨"DrawerSlips$Pad", "add", "(I)V"⟩, 2) := ⟨⟨by decide +kernel, by decide +kernel⟩, List.mem_of_getElem? (i := 178) (by decide +kernel), List.mem_of_getElem? (i := 506) (by decide +kernel), List.mem_of_getElem? (i := 507) (by decide +kernel)⟩
theorem lw_p43 : lw_okq (⟨"DrawerSlips$Pad", "empty", "()I"⟩, 2) := ⟨⟨by decide +kernel, by decide +kernel⟩, List.mem_of_getElem? (i := 178) (by decide +kernel), List.mem_of_getElem? (i := 515) (by decide +kernel), List.mem_of_getElem? (i := 516) (by decide +kernel)⟩
theorem lw_p44 : lw_okq (⟨"DrawerSlips$Reader", "findFault", "()I"⟩, 5) := ⟨⟨by decide +kernel, by decide +kernel⟩, List.mem_of_getElem? (i := 193) (by decide +kernel), List.mem_of_getElem? (i := 523) (by decide +kernel), List.mem_of_getElem? (i := 524) (by decide +kernel)⟩
theorem lw_p45 : lw_okq (⟨"DrawerSlips$Reader", "begin", "()V"⟩, 5) := ⟨⟨by decide +kernel, by decide +kernel⟩, List.mem_of_getElem? (i := 193) (by decide +kernel), List.mem_of_getElem? (i := 527) (by decide +kernel), List.mem_of_getElem? (i := 528) (by decide +kernel)⟩
theorem lw_p46 : lw_okq (⟨"DrawerSlips$Reader", "readOrder", "()Z"⟩, 5) := ⟨⟨by decide +kernel, by decide +kernel⟩, List.mem_of_getElem? (i := 193) (by decide +kernel), List.mem_of_getElem? (i := 531) (by decide +kernel), List.mem_of_getElem? (i := 532) (by decide +kernel)⟩
theorem lw_p47 : lw_okq (⟨"DrawerSlips$Pad", "signAt", "(I)I"⟩, 2) := ⟨⟨by decide +kernel, by decide +kernel⟩, List.mem_of_getElem? (i := 178) (by decide +kernel), List.mem_of_getElem? (i := 535) (by decide +kernel), List.mem_of_getElem? (i := 536) (by decide +kernel)⟩
def lw_privs_3 : List (MethodName × Nat) := [(⟨"DrawerSlips$Archive", "stand", "(I)I"⟩, 14), (⟨"DrawerSlips$Archive", "ranked", "(II)LDrawerSlips$Slip;"⟩, 14), (⟨"DrawerSlips$Archive", "slipsAheadOf", "(LDrawerSlips$Slip;)I"⟩, 14), (⟨"DrawerSlips$Lately", "has", "(I)Z"⟩, 4), (⟨"DrawerSlips$Lately", "numberOf", "(I)I"⟩, 4), (⟨"DrawerSlips$Lately", "place", "(I)I"⟩, 4), (⟨"DrawerSlips$Lately", "waitOf", "(I)I"⟩, 4), (⟨"DrawerSlips$Lately", "sortOf", "(I)I"⟩, 4), (⟨"DrawerSlips$Archive", "amount", "(I)I"⟩, 14), (⟨"DrawerSlips$Pad", "append", "(J)I"⟩, 2), (⟨"DrawerSlips$Pad", "add", "(I)V"⟩, 2), (⟨"DrawerSlips$Pad", "empty", "()I"⟩, 2), (⟨"DrawerSlips$Reader", "findFault", "()I"⟩, 5), (⟨"DrawerSlips$Reader", "begin", "()V"⟩, 5), (⟨"DrawerSlips$Reader", "readOrder", "()Z"⟩, 5), (⟨"DrawerSlips$Pad", "signAt", "(I)I"⟩, 2)]
theorem lw_r3 : ∀ q ∈ lw_privs_3, lw_okq q := List.forall_mem_cons.mpr ⟨lw_p32, List.forall_mem_cons.mpr ⟨lw_p33, List.forall_mem_cons.mpr ⟨lw_p34, List.forall_mem_cons.mpr ⟨lw_p35, List.forall_mem_cons.mpr ⟨lw_p36, List.forall_mem_cons.mpr ⟨lw_p37, List.forall_mem_cons.mpr ⟨lw_p38, List.forall_mem_cons.mpr ⟨lw_p39, List.forall_mem_cons.mpr ⟨lw_p40, List.forall_mem_cons.mpr ⟨lw_p41, List.forall_mem_cons.mpr ⟨lw_p42, List.forall_mem_cons.mpr ⟨lw_p43, List.forall_mem_cons.mpr ⟨lw_p44, List.forall_mem_cons.mpr ⟨lw_p45, List.forall_mem_cons.mpr ⟨lw_p46, List.forall_mem_cons.mpr ⟨lw_p47, fun _ h => absurd h List.not_mem_nil⟩⟩⟩⟩⟩⟩⟩⟩⟩⟩⟩⟩⟩⟩⟩⟩
theorem lw_p48 : lw_okq (⟨"DrawerSlips$Reader", "readNumber", "()Z"⟩, 5) := ⟨⟨by decide +kernel, by decide +kernel⟩, List.mem_of_getElem? (i := 193) (by decide +kernel), List.mem_of_getElem? (i := 540) (by decide +kernel), List.mem_of_getElem? (i := 541) (by decide +kernel)⟩
theorem lw_p49 : lw_okq (⟨"DrawerSlips$Reader", "isDigitNext", "()Z"⟩, 5) := ⟨⟨by decide +kernel, by decide +kernel⟩, List.mem_of_getElem? (i := 193) (by decide +kernel), List.mem_of_getElem? (i := 544) (by decide +kernel), List.mem_of_getElem? (i := 545) (by decide +kernel)⟩
theorem lw_p50 : lw_okq (⟨"DrawerSlips$Reader", "takeDigit", "()I"⟩, 5) := ⟨⟨by decide +kernel, by decide +kernel⟩, List.mem_of_getElem? (i := 193) (by decide +kernel), List.mem_of_getElem? (i := 548) (by decide +kernel), List.mem_of_getElem? (i := 549) (by decide +kernel)⟩
theorem lw_p51 : lw_okq (⟨"DrawerSlips$Reader", "readMore", "()Z"⟩, 5) := ⟨⟨by decide +kernel, by decide +kernel⟩, List.mem_of_getElem? (i := 193) (by decide +kernel), List.mem_of_getElem? (i := 552) (by decide +kernel), List.mem_of_getElem? (i := 553) (by decide +kernel)⟩
theorem lw_p52 : lw_okq (⟨"DrawerSlips$Reader", "skipSemicolon", "()V"⟩, 5) := ⟨⟨by decide +kernel, by decide +kernel⟩, List.mem_of_getElem? (i := 193) (by decide +kernel), List.mem_of_getElem? (i := 556) (by decide +kernel), List.mem_of_getElem? (i := 557) (by decide +kernel)⟩
theorem lw_p53 : lw_okq (⟨"DrawerSlips", "obey", "()I"⟩, 7) := ⟨⟨by decide +kernel, by decide +kernel⟩, List.mem_of_getElem? (i := 12) (by decide +kernel), List.mem_of_getElem? (i := 566) (by decide +kernel), List.mem_of_getElem? (i := 567) (by decide +kernel)⟩
theorem lw_p54 : lw_okq (⟨"DrawerSlips$History", "takeBack", "(LDrawerSlips$Archive;)V"⟩, 3) := ⟨⟨by decide +kernel, by decide +kernel⟩, List.mem_of_getElem? (i := 142) (by decide +kernel), List.mem_of_getElem? (i := 575) (by decide +kernel), List.mem_of_getElem? (i := 576) (by decide +kernel)⟩
theorem lw_p55 : lw_okq (⟨"DrawerSlips", "slotAt", "(I)LDrawerSlips$Slot;"⟩, 7) := ⟨⟨by decide +kernel, by decide +kernel⟩, List.mem_of_getElem? (i := 12) (by decide +kernel), List.mem_of_getElem? (i := 583) (by decide +kernel), List.mem_of_getElem? (i := 584) (by decide +kernel)⟩
theorem lw_p56 : lw_okq (⟨"DrawerSlipsModel", "remember", "()V"⟩, 13) := ⟨⟨by decide +kernel, by decide +kernel⟩, List.mem_of_getElem? (i := 591) (by decide +kernel), List.mem_of_getElem? (i := 653) (by decide +kernel), List.mem_of_getElem? (i := 654) (by decide +kernel)⟩
theorem lw_p57 : lw_okq (⟨"DrawerSlipsModel", "record", "(I)I"⟩, 13) := ⟨⟨by decide +kernel, by decide +kernel⟩, List.mem_of_getElem? (i := 591) (by decide +kernel), List.mem_of_getElem? (i := 657) (by decide +kernel), List.mem_of_getElem? (i := 658) (by decide +kernel)⟩
theorem lw_p58 : lw_okq (⟨"DrawerSlipsModel", "comes", "(III)I"⟩, 13) := ⟨⟨by decide +kernel, by decide +kernel⟩, List.mem_of_getElem? (i := 591) (by decide +kernel), List.mem_of_getElem? (i := 675) (by decide +kernel), List.mem_of_getElem? (i := 676) (by decide +kernel)⟩
theorem lw_p59 : lw_okq (⟨"DrawerSlipsModel", "partner", "(III)I"⟩, 13) := ⟨⟨by decide +kernel, by decide +kernel⟩, List.mem_of_getElem? (i := 591) (by decide +kernel), List.mem_of_getElem? (i := 682) (by decide +kernel), List.mem_of_getElem? (i := 683) (by decide +kernel)⟩
theorem lw_p60 : lw_okq (⟨"DrawerSlipsModel", "its", "(II)I"⟩, 13) := ⟨⟨by decide +kernel, by decide +kernel⟩, List.mem_of_getElem? (i := 591) (by decide +kernel), List.mem_of_getElem? (i := 686) (by decide +kernel), List.mem_of_getElem? (i := 687) (by decide +kernel)⟩
theorem lw_p61 : lw_okq (⟨"DrawerSlipsModel", "lastOf", "(I)I"⟩, 13) := ⟨⟨by decide +kernel, by decide +kernel⟩, List.mem_of_getElem? (i := 591) (by decide +kernel), List.mem_of_getElem? (i := 690) (by decide +kernel), List.mem_of_getElem? (i := 691) (by decide +kernel)⟩
theorem lw_p62 : lw_okq (⟨"DrawerSlipsModel", "find", "(I)I"⟩, 13) := ⟨⟨by decide +kernel, by decide +kernel⟩, List.mem_of_getElem? (i := 591) (by decide +kernel), List.mem_of_getElem? (i := 698) (by decide +kernel), List.mem_of_getElem? (i := 699) (by decide +kernel)⟩
theorem lw_p63 : lw_okq (⟨"DrawerSlipsModel", "drop", "(I)V"⟩, 13) := ⟨⟨by decide +kernel, by decide +kernel⟩, List.mem_of_getElem? (i := 591) (by decide +kernel), List.mem_of_getElem? (i := 702) (by decide +kernel), List.mem_of_getElem? (i := 703) (by decide +kernel)⟩
def lw_privs_4 : List (MethodName × Nat) := [(⟨"DrawerSlips$Reader", "readNumber", "()Z"⟩, 5), (⟨"DrawerSlips$Reader", "isDigitNext", "()Z"⟩, 5), (⟨"DrawerSlips$Reader", "takeDigit", "()I"⟩, 5), (⟨"DrawerSlips$Reader", "readMore", "()Z"⟩, 5), (⟨"DrawerSlips$Reader", "skipSemicolon", "()V"⟩, 5), (⟨"DrawerSlips", "obey", "()I"⟩, 7), (⟨"DrawerSlips$History", "takeBack", "(LDrawerSlips$Archive;)V"⟩, 3), (⟨"DrawerSlips", "slotAt", "(I)LDrawerSlips$Slot;"⟩, 7), (⟨"DrawerSlipsModel", "remember", "()V"⟩, 13), (⟨"DrawerSlipsModel", "record", "(I)I"⟩, 13), (⟨"DrawerSlipsModel", "comes", "(III)I"⟩, 13), (⟨"DrawerSlipsModel", "partner", "(III)I"⟩, 13), (⟨"DrawerSlipsModel", "its", "(II)I"⟩, 13), (⟨"DrawerSlipsModel", "lastOf", "(I)I"⟩, 13), (⟨"DrawerSlipsModel", "find", "(I)I"⟩, 13), (⟨"DrawerSlipsModel", "drop", "(I)V"⟩, 13)]
theorem lw_r4 : ∀ q ∈ lw_privs_4, lw_okq q := List.forall_mem_cons.mpr ⟨lw_p48, List.forall_mem_cons.mpr ⟨lw_p49, List.forall_mem_cons.mpr ⟨lw_p50, List.forall_mem_cons.mpr ⟨lw_p51, List.forall_mem_cons.mpr ⟨lw_p52, List.forall_mem_cons.mpr ⟨lw_p53, List.forall_mem_cons.mpr ⟨lw_p54, List.forall_mem_cons.mpr ⟨lw_p55, List.forall_mem_cons.mpr ⟨lw_p56, List.forall_mem_cons.mpr ⟨lw_p57, List.forall_mem_cons.mpr ⟨lw_p58, List.forall_mem_cons.mpr ⟨lw_p59, List.forall_mem_cons.mpr ⟨lw_p60, List.forall_mem_cons.mpr ⟨lw_p61, List.forall_mem_cons.mpr ⟨lw_p62, List.forall_mem_cons.mpr ⟨lw_p63, fun _ h => absurd h List.not_mem_nil⟩⟩⟩⟩⟩⟩⟩⟩⟩⟩⟩⟩⟩⟩⟩⟩
theorem lw_p64 : lw_okq (⟨"DrawerSlipsModel", "serves", "(I)I"⟩, 13) := ⟨⟨by decide +kernel, by decide +kernel⟩, List.mem_of_getElem? (i := 591) (by decide +kernel), List.mem_of_getElem? (i := 710) (by decide +kernel), List.mem_of_getElem? (i := 711) (by decide +kernel)⟩
theorem lw_p65 : lw_okq (⟨"DrawerSlipsModel", "layAside", "()V"⟩, 13) := ⟨⟨by decide +kernel, by decide +kernel⟩, List.mem_of_getElem? (i := 591) (by decide +kernel), List.mem_of_getElem? (i := 714) (by decide +kernel), List.mem_of_getElem? (i := 715) (by decide +kernel)⟩
theorem lw_p66 : lw_okq (⟨"DrawerSlipsModel", "serveOne", "()V"⟩, 13) := ⟨⟨by decide +kernel, by decide +kernel⟩, List.mem_of_getElem? (i := 591) (by decide +kernel), List.mem_of_getElem? (i := 718) (by decide +kernel), List.mem_of_getElem? (i := 719) (by decide +kernel)⟩
theorem lw_p67 : lw_okq (⟨"DrawerSlipsModel", "look", "()V"⟩, 13) := ⟨⟨by decide +kernel, by decide +kernel⟩, List.mem_of_getElem? (i := 591) (by decide +kernel), List.mem_of_getElem? (i := 722) (by decide +kernel), List.mem_of_getElem? (i := 723) (by decide +kernel)⟩
theorem lw_p68 : lw_okq (⟨"DrawerSlipsModel", "lowest", "(II)I"⟩, 13) := ⟨⟨by decide +kernel, by decide +kernel⟩, List.mem_of_getElem? (i := 591) (by decide +kernel), List.mem_of_getElem? (i := 726) (by decide +kernel), List.mem_of_getElem? (i := 727) (by decide +kernel)⟩
theorem lw_p69 : lw_okq (⟨"DrawerSlipsModel", "nextSort", "()I"⟩, 13) := ⟨⟨by decide +kernel, by decide +kernel⟩, List.mem_of_getElem? (i := 591) (by decide +kernel), List.mem_of_getElem? (i := 730) (by decide +kernel), List.mem_of_getElem? (i := 731) (by decide +kernel)⟩
theorem lw_p70 : lw_okq (⟨"DrawerSlipsModel", "many", "(I)I"⟩, 13) := ⟨⟨by decide +kernel, by decide +kernel⟩, List.mem_of_getElem? (i := 591) (by decide +kernel), List.mem_of_getElem? (i := 734) (by decide +kernel), List.mem_of_getElem? (i := 735) (by decide +kernel)⟩
theorem lw_p71 : lw_okq (⟨"DrawerSlipsModel", "oldest", "(I)I"⟩, 13) := ⟨⟨by decide +kernel, by decide +kernel⟩, List.mem_of_getElem? (i := 591) (by decide +kernel), List.mem_of_getElem? (i := 738) (by decide +kernel), List.mem_of_getElem? (i := 739) (by decide +kernel)⟩
theorem lw_p72 : lw_okq (⟨"DrawerSlipsModel", "isOld", "(I)Z"⟩, 13) := ⟨⟨by decide +kernel, by decide +kernel⟩, List.mem_of_getElem? (i := 591) (by decide +kernel), List.mem_of_getElem? (i := 742) (by decide +kernel), List.mem_of_getElem? (i := 743) (by decide +kernel)⟩
theorem lw_p73 : lw_okq (⟨"DrawerSlipsModel", "minute", "()I"⟩, 13) := ⟨⟨by decide +kernel, by decide +kernel⟩, List.mem_of_getElem? (i := 591) (by decide +kernel), List.mem_of_getElem? (i := 746) (by decide +kernel), List.mem_of_getElem? (i := 747) (by decide +kernel)⟩
theorem lw_p74 : lw_okq (⟨"DrawerSlipsModel", "note", "(III)V"⟩, 13) := ⟨⟨by decide +kernel, by decide +kernel⟩, List.mem_of_getElem? (i := 591) (by decide +kernel), List.mem_of_getElem? (i := 753) (by decide +kernel), List.mem_of_getElem? (i := 754) (by decide +kernel)⟩
theorem lw_p75 : lw_okq (⟨"DrawerSlipsModel", "putBack", "()V"⟩, 13) := ⟨⟨by decide +kernel, by decide +kernel⟩, List.mem_of_getElem? (i := 591) (by decide +kernel), List.mem_of_getElem? (i := 758) (by decide +kernel), List.mem_of_getElem? (i := 759) (by decide +kernel)⟩
theorem lw_p76 : lw_okq (⟨"DrawerSlipsModel", "waits", "(I)I"⟩, 13) := ⟨⟨by decide +kernel, by decide +kernel⟩, List.mem_of_getElem? (i := 591) (by decide +kernel), List.mem_of_getElem? (i := 766) (by decide +kernel), List.mem_of_getElem? (i := 767) (by decide +kernel)⟩
theorem lw_p77 : lw_okq (⟨"DrawerSlipsModel", "rank", "(I)I"⟩, 13) := ⟨⟨by decide +kernel, by decide +kernel⟩, List.mem_of_getElem? (i := 591) (by decide +kernel), List.mem_of_getElem? (i := 778) (by decide +kernel), List.mem_of_getElem? (i := 779) (by decide +kernel)⟩
theorem lw_p78 : lw_okq (⟨"DrawerSlipsModel", "isWell", "()Z"⟩, 13) := ⟨⟨by decide +kernel, by decide +kernel⟩, List.mem_of_getElem? (i := 591) (by decide +kernel), List.mem_of_getElem? (i := 819) (by decide +kernel), List.mem_of_getElem? (i := 820) (by decide +kernel)⟩
theorem lw_p79 : lw_okq (⟨"DrawerSlipsModel", "order", "(Z)I"⟩, 13) := ⟨⟨by decide +kernel, by decide +kernel⟩, List.mem_of_getElem? (i := 591) (by decide +kernel), List.mem_of_getElem? (i := 823) (by decide +kernel), List.mem_of_getElem? (i := 824) (by decide +kernel)⟩
def lw_privs_5 : List (MethodName × Nat) := [(⟨"DrawerSlipsModel", "serves", "(I)I"⟩, 13), (⟨"DrawerSlipsModel", "layAside", "()V"⟩, 13), (⟨"DrawerSlipsModel", "serveOne", "()V"⟩, 13), (⟨"DrawerSlipsModel", "look", "()V"⟩, 13), (⟨"DrawerSlipsModel", "lowest", "(II)I"⟩, 13), (⟨"DrawerSlipsModel", "nextSort", "()I"⟩, 13), (⟨"DrawerSlipsModel", "many", "(I)I"⟩, 13), (⟨"DrawerSlipsModel", "oldest", "(I)I"⟩, 13), (⟨"DrawerSlipsModel", "isOld", "(I)Z"⟩, 13), (⟨"DrawerSlipsModel", "minute", "()I"⟩, 13), (⟨"DrawerSlipsModel", "note", "(III)V"⟩, 13), (⟨"DrawerSlipsModel", "putBack", "()V"⟩, 13), (⟨"DrawerSlipsModel", "waits", "(I)I"⟩, 13), (⟨"DrawerSlipsModel", "rank", "(I)I"⟩, 13), (⟨"DrawerSlipsModel", "isWell", "()Z"⟩, 13), (⟨"DrawerSlipsModel", "order", "(Z)I"⟩, 13)]
theorem lw_r5 : ∀ q ∈ lw_privs_5, lw_okq q := List.forall_mem_cons.mpr ⟨lw_p64, List.forall_mem_cons.mpr ⟨lw_p65, List.forall_mem_cons.mpr ⟨lw_p66, List.forall_mem_cons.mpr ⟨lw_p67, List.forall_mem_cons.mpr ⟨lw_p68, List.forall_mem_cons.mpr ⟨lw_p69, List.forall_mem_cons.mpr ⟨lw_p70, List.forall_mem_cons.mpr ⟨lw_p71, List.forall_mem_cons.mpr ⟨lw_p72, List.forall_mem_cons.mpr ⟨lw_p73, List.forall_mem_cons.mpr ⟨lw_p74, List.forall_mem_cons.mpr ⟨lw_p75, List.forall_mem_cons.mpr ⟨lw_p76, List.forall_mem_cons.mpr ⟨lw_p77, List.forall_mem_cons.mpr ⟨lw_p78, List.forall_mem_cons.mpr ⟨lw_p79, fun _ h => absurd h List.not_mem_nil⟩⟩⟩⟩⟩⟩⟩⟩⟩⟩⟩⟩⟩⟩⟩⟩
theorem lw_p80 : lw_okq (⟨"DrawerSlipsModel", "sees", "(II)Z"⟩, 13) := ⟨⟨by decide +kernel, by decide +kernel⟩, List.mem_of_getElem? (i := 591) (by decide +kernel), List.mem_of_getElem? (i := 827) (by decide +kernel), List.mem_of_getElem? (i := 828) (by decide +kernel)⟩
theorem lw_p81 : lw_okq (⟨"DrawerSlipsModel", "number", "()I"⟩, 13) := ⟨⟨by decide +kernel, by decide +kernel⟩, List.mem_of_getElem? (i := 591) (by decide +kernel), List.mem_of_getElem? (i := 831) (by decide +kernel), List.mem_of_getElem? (i := 832) (by decide +kernel)⟩
def lw_privs_6 : List (MethodName × Nat) := [(⟨"DrawerSlipsModel", "sees", "(II)Z"⟩, 13), (⟨"DrawerSlipsModel", "number", "()I"⟩, 13)]
theorem lw_r6 : ∀ q ∈ lw_privs_6, lw_okq q := List.forall_mem_cons.mpr ⟨lw_p80, List.forall_mem_cons.mpr ⟨lw_p81, fun _ h => absurd h List.not_mem_nil⟩⟩
def lw_privs : List (MethodName × Nat) := lw_privs_1 ++ (lw_privs_2 ++ (lw_privs_3 ++ (lw_privs_4 ++ (lw_privs_5 ++ (lw_privs_6)))))
def lw_tbl : List Cond := k2_sels lw_privs ++ tables_1
theorem lw_privs_ok : ∀ q ∈ lw_privs, lw_okq q := by
  show ∀ q ∈ lw_privs_1 ++ (lw_privs_2 ++ (lw_privs_3 ++ (lw_privs_4 ++ (lw_privs_5 ++ (lw_privs_6))))), lw_okq q
  exact List.forall_mem_append.mpr ⟨lw_r1, List.forall_mem_append.mpr ⟨lw_r2, List.forall_mem_append.mpr ⟨lw_r3, List.forall_mem_append.mpr ⟨lw_r4, List.forall_mem_append.mpr ⟨lw_r5, lw_r6⟩⟩⟩⟩⟩
-- ===== end of PART A; then your names; then what follows =====
end
section
/-! ===== BEGIN words of one list among another's, by their places ===== -/
theorem goodIn_r {big : List Cond} (ws : List Cond) (ps : List Nat) (hp : ws = ps.filterMap (fun i => big[i]?)) (h : ws.all goodWord = true) : GoodIn big ws := by
  intro w hw
  have h1 := List.all_eq_true.mp h w hw
  rw [hp] at hw
  obtain ⟨i, -, hi⟩ := List.mem_filterMap.mp hw
  have hm : w ∈ big := by first | exact List.mem_of_getElem? hi | exact List.getElem?_mem hi
  exact ⟨hm, good_of_word h1⟩
theorem goodIn_app {big a b : List Cond} (ha : GoodIn big a) (hb : GoodIn big b) : GoodIn big (a ++ b) := fun w h => (List.mem_append.mp h).elim (ha w) (hb w)
theorem goodIn_ca {big a b : List Cond} {c : Cond} (ha : GoodIn big (c :: a)) (hb : GoodIn big b) : GoodIn big (c :: (a ++ b)) := fun w h => (List.mem_cons.mp h).elim (fun e => ha w (List.mem_cons.mpr (Or.inl e))) (fun h => (List.mem_append.mp h).elim (fun h => ha w (List.mem_cons.mpr (Or.inr h))) (hb w))
theorem goodIn_sub {big ws : List Cond} (hm : ∀ w ∈ ws, w ∈ big) (h : ws.all goodWord = true) : GoodIn big ws := fun w hw => ⟨hm w hw, good_of_word (List.all_eq_true.mp h w hw)⟩
/-! ===== END ===== -/

/-! ===== BEGIN printed: names, fields, word lists, decode rows ===== -/
def RX0 : String := "DrawerSlips$Archive"
def TX0 : u_T := fun k => match k with
  | 0 => ("DrawerSlips$Archive", "settings", "[I", true)
  | 1 => ("DrawerSlips$Archive", "places", "LDrawerSlips$Slip;", true)
  | 2 => ("DrawerSlips$Archive", "lately", "LDrawerSlips$Lately;", true)
  | 3 => ("DrawerSlips$Archive", "readsWaiting", "I", false)
  | 4 => ("DrawerSlips$Archive", "writesWaiting", "I", false)
  | 5 => ("DrawerSlips$Archive", "nextNumber", "I", false)
  | 6 => ("DrawerSlips$Archive", "now", "I", false)
  | 7 => ("DrawerSlips$Archive", "arm", "I", false)
  | 8 => ("DrawerSlips$Archive", "longestWait", "I", false)
  | 9 => ("DrawerSlips$Archive", "drawersGone", "I", false)
  | 10 => ("DrawerSlips$Archive", "batches", "I", false)
  | 11 => ("DrawerSlips$Archive", "batchSort", "I", false)
  | 12 => ("DrawerSlips$Archive", "batchSlips", "I", false)
  | _ => ("DrawerSlips$Archive", "readsAhead", "I", false)
def tyX0 : Nat → FieldType := fun k => match k with
  | 0 => .array .int
  | 1 => .object "DrawerSlips$Slip"
  | 2 => .object "DrawerSlips$Lately"
  | 3 => .int
  | 4 => .int
  | 5 => .int
  | 6 => .int
  | 7 => .int
  | 8 => .int
  | 9 => .int
  | 10 => .int
  | 11 => .int
  | 12 => .int
  | _ => .int
abbrev wsX00 : List Cond := u_ws RX0 TX0 14
theorem nmX0 : ∀ a, a < 14 → ∀ b, b < 14 → a ≠ b → (TX0 a).2.1 ≠ (TX0 b).2.1 := by decide +kernel
theorem tyX0_ok : ∀ k, k < 14 → parseFieldDescriptor (TX0 k).2.2.1 = some (tyX0 k) := by decide +kernel
abbrev cX0_init : ByteArray := prog_2_method_1_code
def yX0_init : MethodName := ⟨RX0, "<init>", "()V"⟩
abbrev cX0_copyFrom : ByteArray := prog_2_method_2_code
def yX0_copyFrom : MethodName := ⟨RX0, "copyFrom", "(LDrawerSlips$Archive;)V"⟩
abbrev cX0_adjust : ByteArray := prog_2_method_3_code
def yX0_adjust : MethodName := ⟨RX0, "adjust", "(II)I"⟩
abbrev cX0_accept : ByteArray := prog_2_method_4_code
def yX0_accept : MethodName := ⟨RX0, "accept", "(III)I"⟩
abbrev cX0_tearUp : ByteArray := prog_2_method_5_code
def yX0_tearUp : MethodName := ⟨RX0, "tearUp", "(I)I"⟩
abbrev cX0_stand : ByteArray := prog_2_method_6_code
def yX0_stand : MethodName := ⟨RX0, "stand", "(I)I"⟩
abbrev cX0_remove : ByteArray := prog_2_method_7_code
def yX0_remove : MethodName := ⟨RX0, "remove", "(LDrawerSlips$Slip;)V"⟩
abbrev cX0_countWaiting : ByteArray := prog_2_method_8_code
def yX0_countWaiting : MethodName := ⟨RX0, "countWaiting", "(II)V"⟩
abbrev cX0_slipsThatWait : ByteArray := prog_2_method_9_code
def yX0_slipsThatWait : MethodName := ⟨RX0, "slipsThatWait", "()I"⟩
abbrev cX0_find : ByteArray := prog_2_method_10_code
def yX0_find : MethodName := ⟨RX0, "find", "(I)LDrawerSlips$Slip;"⟩
abbrev cX0_freePlace : ByteArray := prog_2_method_11_code
def yX0_freePlace : MethodName := ⟨RX0, "freePlace", "()LDrawerSlips$Slip;"⟩
abbrev cX0_hostFor : ByteArray := prog_2_method_12_code
def yX0_hostFor : MethodName := ⟨RX0, "hostFor", "(III)LDrawerSlips$Slip;"⟩
abbrev cX0_ranked : ByteArray := prog_2_method_13_code
def yX0_ranked : MethodName := ⟨RX0, "ranked", "(II)LDrawerSlips$Slip;"⟩
abbrev cX0_slipsAheadOf : ByteArray := prog_2_method_14_code
def yX0_slipsAheadOf : MethodName := ⟨RX0, "slipsAheadOf", "(LDrawerSlips$Slip;)I"⟩
abbrev cX0_age : ByteArray := prog_2_method_15_code
def yX0_age : MethodName := ⟨RX0, "age", "(LDrawerSlips$Slip;)I"⟩
abbrev cX0_isTooOld : ByteArray := prog_2_method_16_code
def yX0_isTooOld : MethodName := ⟨RX0, "isTooOld", "(LDrawerSlips$Slip;)Z"⟩
abbrev cX0_amount : ByteArray := prog_2_method_17_code
def yX0_amount : MethodName := ⟨RX0, "amount", "(I)I"⟩
abbrev cX0_reason : ByteArray := prog_2_method_18_code
def yX0_reason : MethodName := ⟨RX0, "reason", "()I"⟩
abbrev cX0_chosen : ByteArray := prog_2_method_19_code
def yX0_chosen : MethodName := ⟨RX0, "chosen", "(I)LDrawerSlips$Slip;"⟩
abbrev cX0_newSort : ByteArray := prog_2_method_20_code
def yX0_newSort : MethodName := ⟨RX0, "newSort", "()I"⟩
abbrev cX0_oldest : ByteArray := prog_2_method_21_code
def yX0_oldest : MethodName := ⟨RX0, "oldest", "(I)LDrawerSlips$Slip;"⟩
abbrev cX0_leastFrom : ByteArray := prog_2_method_22_code
def yX0_leastFrom : MethodName := ⟨RX0, "leastFrom", "(II)LDrawerSlips$Slip;"⟩
abbrev cX0_drawersTo : ByteArray := prog_2_method_23_code
def yX0_drawersTo : MethodName := ⟨RX0, "drawersTo", "(LDrawerSlips$Slip;)I"⟩
abbrev cX0_minutesFor : ByteArray := prog_2_method_24_code
def yX0_minutesFor : MethodName := ⟨RX0, "minutesFor", "(LDrawerSlips$Slip;)I"⟩
abbrev cX0_serveNext : ByteArray := prog_2_method_25_code
def yX0_serveNext : MethodName := ⟨RX0, "serveNext", "()V"⟩
abbrev cX0_beginBatch : ByteArray := prog_2_method_26_code
def yX0_beginBatch : MethodName := ⟨RX0, "beginBatch", "(I)V"⟩
def RX1 : String := "DrawerSlips$History"
def TX1 : u_T := fun k => match k with
  | 0 => ("DrawerSlips$History", "states", "[LDrawerSlips$Archive;", true)
  | 1 => ("DrawerSlips$History", "place", "I", false)
  | _ => ("DrawerSlips$History", "kept", "I", false)
def tyX1 : Nat → FieldType := fun k => match k with
  | 0 => .array (.object "DrawerSlips$Archive")
  | 1 => .int
  | _ => .int
abbrev wsX10 : List Cond := u_ws RX1 TX1 3
theorem nmX1 : ∀ a, a < 3 → ∀ b, b < 3 → a ≠ b → (TX1 a).2.1 ≠ (TX1 b).2.1 := by decide +kernel
theorem tyX1_ok : ∀ k, k < 3 → parseFieldDescriptor (TX1 k).2.2.1 = some (tyX1 k) := by decide +kernel
abbrev cX1_init : ByteArray := prog_3_method_1_code
def yX1_init : MethodName := ⟨RX1, "<init>", "()V"⟩
abbrev cX1_stateAt : ByteArray := prog_3_method_2_code
def yX1_stateAt : MethodName := ⟨RX1, "stateAt", "(I)LDrawerSlips$Archive;"⟩
abbrev cX1_prepare : ByteArray := prog_3_method_3_code
def yX1_prepare : MethodName := ⟨RX1, "prepare", "(LDrawerSlips$Archive;)V"⟩
abbrev cX1_keep : ByteArray := prog_3_method_4_code
def yX1_keep : MethodName := ⟨RX1, "keep", "()V"⟩
abbrev cX1_takeBack : ByteArray := prog_3_method_5_code
def yX1_takeBack : MethodName := ⟨RX1, "takeBack", "(LDrawerSlips$Archive;)V"⟩
def RX2 : String := "DrawerSlips$Lately"
def TX2 : u_T := fun k => match k with
  | 0 => ("DrawerSlips$Lately", "numbers", "[I", true)
  | 1 => ("DrawerSlips$Lately", "waits", "[I", true)
  | 2 => ("DrawerSlips$Lately", "sorts", "[I", true)
  | _ => ("DrawerSlips$Lately", "served", "I", false)
def tyX2 : Nat → FieldType := fun k => match k with
  | 0 => .array .int
  | 1 => .array .int
  | 2 => .array .int
  | _ => .int
abbrev wsX20 : List Cond := u_ws RX2 TX2 4
theorem nmX2 : ∀ a, a < 4 → ∀ b, b < 4 → a ≠ b → (TX2 a).2.1 ≠ (TX2 b).2.1 := by decide +kernel
theorem tyX2_ok : ∀ k, k < 4 → parseFieldDescriptor (TX2 k).2.2.1 = some (tyX2 k) := by decide +kernel
abbrev cX2_init : ByteArray := prog_4_method_1_code
def yX2_init : MethodName := ⟨RX2, "<init>", "()V"⟩
abbrev cX2_copyFrom : ByteArray := prog_4_method_2_code
def yX2_copyFrom : MethodName := ⟨RX2, "copyFrom", "(LDrawerSlips$Lately;)V"⟩
abbrev cX2_append : ByteArray := prog_4_method_3_code
def yX2_append : MethodName := ⟨RX2, "append", "(III)V"⟩
abbrev cX2_has : ByteArray := prog_4_method_4_code
def yX2_has : MethodName := ⟨RX2, "has", "(I)Z"⟩
abbrev cX2_numberOf : ByteArray := prog_4_method_5_code
def yX2_numberOf : MethodName := ⟨RX2, "numberOf", "(I)I"⟩
abbrev cX2_waitOf : ByteArray := prog_4_method_6_code
def yX2_waitOf : MethodName := ⟨RX2, "waitOf", "(I)I"⟩
abbrev cX2_sortOf : ByteArray := prog_4_method_7_code
def yX2_sortOf : MethodName := ⟨RX2, "sortOf", "(I)I"⟩
abbrev cX2_place : ByteArray := prog_4_method_8_code
def yX2_place : MethodName := ⟨RX2, "place", "(I)I"⟩
def RX3 : String := "DrawerSlips$Pad"
def TX3 : u_T := fun k => match k with
  | 0 => ("DrawerSlips$Pad", "signs", "[I", true)
  | _ => ("DrawerSlips$Pad", "length", "I", false)
def tyX3 : Nat → FieldType := fun k => match k with
  | 0 => .array .int
  | _ => .int
abbrev wsX30 : List Cond := u_ws RX3 TX3 2
theorem nmX3 : ∀ a, a < 2 → ∀ b, b < 2 → a ≠ b → (TX3 a).2.1 ≠ (TX3 b).2.1 := by decide +kernel
theorem tyX3_ok : ∀ k, k < 2 → parseFieldDescriptor (TX3 k).2.2.1 = some (tyX3 k) := by decide +kernel
abbrev cX3_init : ByteArray := prog_5_method_1_code
def yX3_init : MethodName := ⟨RX3, "<init>", "()V"⟩
abbrev cX3_signAt : ByteArray := prog_5_method_2_code
def yX3_signAt : MethodName := ⟨RX3, "signAt", "(I)I"⟩
abbrev cX3_append : ByteArray := prog_5_method_3_code
def yX3_append : MethodName := ⟨RX3, "append", "(J)I"⟩
abbrev cX3_signsIn : ByteArray := prog_5_method_4_code
def yX3_signsIn : MethodName := ⟨RX3, "signsIn", "(J)I"⟩
abbrev cX3_add : ByteArray := prog_5_method_5_code
def yX3_add : MethodName := ⟨RX3, "add", "(I)V"⟩
abbrev cX3_empty : ByteArray := prog_5_method_6_code
def yX3_empty : MethodName := ⟨RX3, "empty", "()I"⟩
def RX4 : String := "DrawerSlips$Reader"
def TX4 : u_T := fun k => match k with
  | 0 => ("DrawerSlips$Reader", "pad", "LDrawerSlips$Pad;", true)
  | 1 => ("DrawerSlips$Reader", "at", "I", false)
  | 2 => ("DrawerSlips$Reader", "kind", "I", false)
  | 3 => ("DrawerSlips$Reader", "number", "I", false)
  | _ => ("DrawerSlips$Reader", "more", "I", false)
def tyX4 : Nat → FieldType := fun k => match k with
  | 0 => .object "DrawerSlips$Pad"
  | 1 => .int
  | 2 => .int
  | 3 => .int
  | _ => .int
abbrev wsX40 : List Cond := u_ws RX4 TX4 5
theorem nmX4 : ∀ a, a < 5 → ∀ b, b < 5 → a ≠ b → (TX4 a).2.1 ≠ (TX4 b).2.1 := by decide +kernel
theorem tyX4_ok : ∀ k, k < 5 → parseFieldDescriptor (TX4 k).2.2.1 = some (tyX4 k) := by decide +kernel
abbrev cX4_init : ByteArray := prog_6_method_1_code
def yX4_init : MethodName := ⟨RX4, "<init>", "(LDrawerSlips$Pad;)V"⟩
abbrev cX4_begin : ByteArray := prog_6_method_2_code
def yX4_begin : MethodName := ⟨RX4, "begin", "()V"⟩
abbrev cX4_findFault : ByteArray := prog_6_method_3_code
def yX4_findFault : MethodName := ⟨RX4, "findFault", "()I"⟩
abbrev cX4_skipSemicolon : ByteArray := prog_6_method_4_code
def yX4_skipSemicolon : MethodName := ⟨RX4, "skipSemicolon", "()V"⟩
abbrev cX4_readOrder : ByteArray := prog_6_method_5_code
def yX4_readOrder : MethodName := ⟨RX4, "readOrder", "()Z"⟩
abbrev cX4_readNumber : ByteArray := prog_6_method_6_code
def yX4_readNumber : MethodName := ⟨RX4, "readNumber", "()Z"⟩
abbrev cX4_readMore : ByteArray := prog_6_method_7_code
def yX4_readMore : MethodName := ⟨RX4, "readMore", "()Z"⟩
abbrev cX4_isDigitNext : ByteArray := prog_6_method_8_code
def yX4_isDigitNext : MethodName := ⟨RX4, "isDigitNext", "()Z"⟩
abbrev cX4_takeDigit : ByteArray := prog_6_method_9_code
def yX4_takeDigit : MethodName := ⟨RX4, "takeDigit", "()I"⟩
def RX5 : String := "DrawerSlips$Slip"
def TX5 : u_T := fun k => match k with
  | 0 => ("DrawerSlips$Slip", "rest", "LDrawerSlips$Slip;", true)
  | 1 => ("DrawerSlips$Slip", "waits", "Z", false)
  | 2 => ("DrawerSlips$Slip", "number", "I", false)
  | 3 => ("DrawerSlips$Slip", "writes", "I", false)
  | 4 => ("DrawerSlips$Slip", "first", "I", false)
  | 5 => ("DrawerSlips$Slip", "many", "I", false)
  | 6 => ("DrawerSlips$Slip", "came", "I", false)
  | _ => ("DrawerSlips$Slip", "joins", "I", false)
def tyX5 : Nat → FieldType := fun k => match k with
  | 0 => .object "DrawerSlips$Slip"
  | 1 => .boolean
  | 2 => .int
  | 3 => .int
  | 4 => .int
  | 5 => .int
  | 6 => .int
  | _ => .int
abbrev wsX50 : List Cond := u_ws RX5 TX5 8
theorem nmX5 : ∀ a, a < 8 → ∀ b, b < 8 → a ≠ b → (TX5 a).2.1 ≠ (TX5 b).2.1 := by decide +kernel
theorem tyX5_ok : ∀ k, k < 8 → parseFieldDescriptor (TX5 k).2.2.1 = some (tyX5 k) := by decide +kernel
abbrev cX5_init : ByteArray := prog_7_method_1_code
def yX5_init : MethodName := ⟨RX5, "<init>", "(LDrawerSlips$Slip;)V"⟩
abbrev cX5_copyFrom : ByteArray := prog_7_method_2_code
def yX5_copyFrom : MethodName := ⟨RX5, "copyFrom", "(LDrawerSlips$Slip;)V"⟩
abbrev cX5_last : ByteArray := prog_7_method_3_code
def yX5_last : MethodName := ⟨RX5, "last", "()I"⟩
abbrev cX5_isOfSort : ByteArray := prog_7_method_4_code
def yX5_isOfSort : MethodName := ⟨RX5, "isOfSort", "(I)Z"⟩
abbrev cX5_isAheadOf : ByteArray := prog_7_method_5_code
def yX5_isAheadOf : MethodName := ⟨RX5, "isAheadOf", "(LDrawerSlips$Slip;)Z"⟩
def RX6 : String := "DrawerSlips$Slot"
def TX6 : u_T := fun k => match k with
  | 0 => ("DrawerSlips$Slot", "state", "LDrawerSlips$Archive;", true)
  | _ => ("DrawerSlips$Slot", "isFilled", "Z", false)
def tyX6 : Nat → FieldType := fun k => match k with
  | 0 => .object "DrawerSlips$Archive"
  | _ => .boolean
abbrev wsX60 : List Cond := u_ws RX6 TX6 2
theorem nmX6 : ∀ a, a < 2 → ∀ b, b < 2 → a ≠ b → (TX6 a).2.1 ≠ (TX6 b).2.1 := by decide +kernel
theorem tyX6_ok : ∀ k, k < 2 → parseFieldDescriptor (TX6 k).2.2.1 = some (tyX6 k) := by decide +kernel
abbrev cX6_init : ByteArray := prog_8_method_1_code
def yX6_init : MethodName := ⟨RX6, "<init>", "()V"⟩
def RX7 : String := "DrawerSlips"
def TX7 : u_T := fun k => match k with
  | 0 => ("DrawerSlips", "archive", "LDrawerSlips$Archive;", true)
  | 1 => ("DrawerSlips", "trial", "LDrawerSlips$Archive;", true)
  | 2 => ("DrawerSlips", "history", "LDrawerSlips$History;", true)
  | 3 => ("DrawerSlips", "firstSlot", "LDrawerSlips$Slot;", true)
  | 4 => ("DrawerSlips", "secondSlot", "LDrawerSlips$Slot;", true)
  | 5 => ("DrawerSlips", "pad", "LDrawerSlips$Pad;", true)
  | _ => ("DrawerSlips", "reader", "LDrawerSlips$Reader;", true)
def tyX7 : Nat → FieldType := fun k => match k with
  | 0 => .object "DrawerSlips$Archive"
  | 1 => .object "DrawerSlips$Archive"
  | 2 => .object "DrawerSlips$History"
  | 3 => .object "DrawerSlips$Slot"
  | 4 => .object "DrawerSlips$Slot"
  | 5 => .object "DrawerSlips$Pad"
  | _ => .object "DrawerSlips$Reader"
abbrev wsX70 : List Cond := u_ws RX7 TX7 7
theorem nmX7 : ∀ a, a < 7 → ∀ b, b < 7 → a ≠ b → (TX7 a).2.1 ≠ (TX7 b).2.1 := by decide +kernel
theorem tyX7_ok : ∀ k, k < 7 → parseFieldDescriptor (TX7 k).2.2.1 = some (tyX7 k) := by decide +kernel
abbrev cX7_init : ByteArray := prog_1_method_1_code
def yX7_init : MethodName := ⟨RX7, "<init>", "()V"⟩
abbrev cX7_set : ByteArray := prog_1_method_2_code
def yX7_set : MethodName := ⟨RX7, "set", "(II)I"⟩
abbrev cX7_slip : ByteArray := prog_1_method_3_code
def yX7_slip : MethodName := ⟨RX7, "slip", "(III)I"⟩
abbrev cX7_tear : ByteArray := prog_1_method_4_code
def yX7_tear : MethodName := ⟨RX7, "tear", "(I)I"⟩
abbrev cX7_serve : ByteArray := prog_1_method_5_code
def yX7_serve : MethodName := ⟨RX7, "serve", "(I)I"⟩
abbrev cX7_pass : ByteArray := prog_1_method_6_code
def yX7_pass : MethodName := ⟨RX7, "pass", "(I)I"⟩
abbrev cX7_settled : ByteArray := prog_1_method_7_code
def yX7_settled : MethodName := ⟨RX7, "settled", "(I)I"⟩
abbrev cX7_serveSlips : ByteArray := prog_1_method_8_code
def yX7_serveSlips : MethodName := ⟨RX7, "serveSlips", "(I)I"⟩
abbrev cX7_of : ByteArray := prog_1_method_9_code
def yX7_of : MethodName := ⟨RX7, "of", "(II)I"⟩
abbrev cX7_waiting : ByteArray := prog_1_method_10_code
def yX7_waiting : MethodName := ⟨RX7, "waiting", "(II)I"⟩
abbrev cX7_log : ByteArray := prog_1_method_11_code
def yX7_log : MethodName := ⟨RX7, "log", "(II)I"⟩
abbrev cX7_count : ByteArray := prog_1_method_12_code
def yX7_count : MethodName := ⟨RX7, "count", "(I)I"⟩
abbrev cX7_next : ByteArray := prog_1_method_13_code
def yX7_next : MethodName := ⟨RX7, "next", "(I)I"⟩
abbrev cX7_servedIn : ByteArray := prog_1_method_14_code
def yX7_servedIn : MethodName := ⟨RX7, "servedIn", "(I)I"⟩
abbrev cX7_all : ByteArray := prog_1_method_15_code
def yX7_all : MethodName := ⟨RX7, "all", "(I)I"⟩
abbrev cX7_joined : ByteArray := prog_1_method_16_code
def yX7_joined : MethodName := ⟨RX7, "joined", "(III)I"⟩
abbrev cX7_put : ByteArray := prog_1_method_17_code
def yX7_put : MethodName := ⟨RX7, "put", "(J)I"⟩
abbrev cX7_wipe : ByteArray := prog_1_method_18_code
def yX7_wipe : MethodName := ⟨RX7, "wipe", "()I"⟩
abbrev cX7_fault : ByteArray := prog_1_method_19_code
def yX7_fault : MethodName := ⟨RX7, "fault", "()I"⟩
abbrev cX7_carryOut : ByteArray := prog_1_method_20_code
def yX7_carryOut : MethodName := ⟨RX7, "carryOut", "()I"⟩
abbrev cX7_obey : ByteArray := prog_1_method_21_code
def yX7_obey : MethodName := ⟨RX7, "obey", "()I"⟩
abbrev cX7_undo : ByteArray := prog_1_method_22_code
def yX7_undo : MethodName := ⟨RX7, "undo", "()I"⟩
abbrev cX7_save : ByteArray := prog_1_method_23_code
def yX7_save : MethodName := ⟨RX7, "save", "(I)I"⟩
abbrev cX7_restore : ByteArray := prog_1_method_24_code
def yX7_restore : MethodName := ⟨RX7, "restore", "(I)I"⟩
abbrev cX7_slotAt : ByteArray := prog_1_method_25_code
def yX7_slotAt : MethodName := ⟨RX7, "slotAt", "(I)LDrawerSlips$Slot;"⟩
abbrev cX7_isSlip : ByteArray := prog_1_method_26_code
def yX7_isSlip : MethodName := ⟨RX7, "isSlip", "(III)Z"⟩
abbrev cX7_isIndexOf : ByteArray := prog_1_method_27_code
def yX7_isIndexOf : MethodName := ⟨RX7, "isIndexOf", "([II)Z"⟩
abbrev cX7_valueAt : ByteArray := prog_1_method_28_code
def yX7_valueAt : MethodName := ⟨RX7, "valueAt", "([II)I"⟩
abbrev cX7_copyRow : ByteArray := prog_1_method_29_code
def yX7_copyRow : MethodName := ⟨RX7, "copyRow", "([I[I)V"⟩
def RX8 : String := "DrawerSlipsModel"
def TX8 : u_T := fun k => match k with
  | 0 => ("DrawerSlipsModel", "row", "[I", true)
  | 1 => ("DrawerSlipsModel", "past", "[I", true)
  | 2 => ("DrawerSlipsModel", "before", "[I", true)
  | 3 => ("DrawerSlipsModel", "aside", "[I", true)
  | 4 => ("DrawerSlipsModel", "slots", "[I", true)
  | 5 => ("DrawerSlipsModel", "isSaved", "[Z", true)
  | 6 => ("DrawerSlipsModel", "states", "I", false)
  | 7 => ("DrawerSlipsModel", "pad", "[I", true)
  | 8 => ("DrawerSlipsModel", "length", "I", false)
  | 9 => ("DrawerSlipsModel", "at", "I", false)
  | 10 => ("DrawerSlipsModel", "codes", "[I", true)
  | 11 => ("DrawerSlipsModel", "place", "I", false)
  | _ => ("DrawerSlipsModel", "why", "I", false)
def tyX8 : Nat → FieldType := fun k => match k with
  | 0 => .array .int
  | 1 => .array .int
  | 2 => .array .int
  | 3 => .array .int
  | 4 => .array .int
  | 5 => .array .boolean
  | 6 => .int
  | 7 => .array .int
  | 8 => .int
  | 9 => .int
  | 10 => .array .int
  | 11 => .int
  | _ => .int
abbrev wsX80 : List Cond := u_ws RX8 TX8 13
theorem nmX8 : ∀ a, a < 13 → ∀ b, b < 13 → a ≠ b → (TX8 a).2.1 ≠ (TX8 b).2.1 := by decide +kernel
theorem tyX8_ok : ∀ k, k < 13 → parseFieldDescriptor (TX8 k).2.2.1 = some (tyX8 k) := by decide +kernel
abbrev cX8_init : ByteArray := prog_10_method_1_code
def yX8_init : MethodName := ⟨RX8, "<init>", "()V"⟩
abbrev cX8_in : ByteArray := prog_10_method_2_code
def yX8_in : MethodName := ⟨RX8, "in", "(JII)Z"⟩
abbrev cX8_far : ByteArray := prog_10_method_3_code
def yX8_far : MethodName := ⟨RX8, "far", "(II)I"⟩
abbrev cX8_its : ByteArray := prog_10_method_4_code
def yX8_its : MethodName := ⟨RX8, "its", "(II)I"⟩
abbrev cX8_lastOf : ByteArray := prog_10_method_5_code
def yX8_lastOf : MethodName := ⟨RX8, "lastOf", "(I)I"⟩
abbrev cX8_find : ByteArray := prog_10_method_6_code
def yX8_find : MethodName := ⟨RX8, "find", "(I)I"⟩
abbrev cX8_many : ByteArray := prog_10_method_7_code
def yX8_many : MethodName := ⟨RX8, "many", "(I)I"⟩
abbrev cX8_remember : ByteArray := prog_10_method_8_code
def yX8_remember : MethodName := ⟨RX8, "remember", "()V"⟩
abbrev cX8_record : ByteArray := prog_10_method_9_code
def yX8_record : MethodName := ⟨RX8, "record", "(I)I"⟩
abbrev cX8_undo : ByteArray := prog_10_method_10_code
def yX8_undo : MethodName := ⟨RX8, "undo", "()I"⟩
abbrev cX8_save : ByteArray := prog_10_method_11_code
def yX8_save : MethodName := ⟨RX8, "save", "(I)I"⟩
abbrev cX8_restore : ByteArray := prog_10_method_12_code
def yX8_restore : MethodName := ⟨RX8, "restore", "(I)I"⟩
abbrev cX8_layAside : ByteArray := prog_10_method_13_code
def yX8_layAside : MethodName := ⟨RX8, "layAside", "()V"⟩
abbrev cX8_putBack : ByteArray := prog_10_method_14_code
def yX8_putBack : MethodName := ⟨RX8, "putBack", "()V"⟩
abbrev cX8_lowest : ByteArray := prog_10_method_15_code
def yX8_lowest : MethodName := ⟨RX8, "lowest", "(II)I"⟩
abbrev cX8_oldest : ByteArray := prog_10_method_16_code
def yX8_oldest : MethodName := ⟨RX8, "oldest", "(I)I"⟩
abbrev cX8_isOld : ByteArray := prog_10_method_17_code
def yX8_isOld : MethodName := ⟨RX8, "isOld", "(I)Z"⟩
abbrev cX8_nextSort : ByteArray := prog_10_method_18_code
def yX8_nextSort : MethodName := ⟨RX8, "nextSort", "()I"⟩
abbrev cX8_look : ByteArray := prog_10_method_19_code
def yX8_look : MethodName := ⟨RX8, "look", "()V"⟩
abbrev cX8_minute : ByteArray := prog_10_method_20_code
def yX8_minute : MethodName := ⟨RX8, "minute", "()I"⟩
abbrev cX8_drop : ByteArray := prog_10_method_21_code
def yX8_drop : MethodName := ⟨RX8, "drop", "(I)V"⟩
abbrev cX8_note : ByteArray := prog_10_method_22_code
def yX8_note : MethodName := ⟨RX8, "note", "(III)V"⟩
abbrev cX8_serveOne : ByteArray := prog_10_method_23_code
def yX8_serveOne : MethodName := ⟨RX8, "serveOne", "()V"⟩
abbrev cX8_isSlip : ByteArray := prog_10_method_24_code
def yX8_isSlip : MethodName := ⟨RX8, "isSlip", "(III)Z"⟩
abbrev cX8_partner : ByteArray := prog_10_method_25_code
def yX8_partner : MethodName := ⟨RX8, "partner", "(III)I"⟩
abbrev cX8_comes : ByteArray := prog_10_method_26_code
def yX8_comes : MethodName := ⟨RX8, "comes", "(III)I"⟩
abbrev cX8_serves : ByteArray := prog_10_method_27_code
def yX8_serves : MethodName := ⟨RX8, "serves", "(I)I"⟩
abbrev cX8_waits : ByteArray := prog_10_method_28_code
def yX8_waits : MethodName := ⟨RX8, "waits", "(I)I"⟩
abbrev cX8_leastOf : ByteArray := prog_10_method_29_code
def yX8_leastOf : MethodName := ⟨RX8, "leastOf", "(I)I"⟩
abbrev cX8_mostOf : ByteArray := prog_10_method_30_code
def yX8_mostOf : MethodName := ⟨RX8, "mostOf", "(I)I"⟩
abbrev cX8_set : ByteArray := prog_10_method_31_code
def yX8_set : MethodName := ⟨RX8, "set", "(II)I"⟩
abbrev cX8_slip : ByteArray := prog_10_method_32_code
def yX8_slip : MethodName := ⟨RX8, "slip", "(III)I"⟩
abbrev cX8_tear : ByteArray := prog_10_method_33_code
def yX8_tear : MethodName := ⟨RX8, "tear", "(I)I"⟩
abbrev cX8_serve : ByteArray := prog_10_method_34_code
def yX8_serve : MethodName := ⟨RX8, "serve", "(I)I"⟩
abbrev cX8_pass : ByteArray := prog_10_method_35_code
def yX8_pass : MethodName := ⟨RX8, "pass", "(I)I"⟩
abbrev cX8_of : ByteArray := prog_10_method_36_code
def yX8_of : MethodName := ⟨RX8, "of", "(II)I"⟩
abbrev cX8_rank : ByteArray := prog_10_method_37_code
def yX8_rank : MethodName := ⟨RX8, "rank", "(I)I"⟩
abbrev cX8_waiting : ByteArray := prog_10_method_38_code
def yX8_waiting : MethodName := ⟨RX8, "waiting", "(II)I"⟩
abbrev cX8_log : ByteArray := prog_10_method_39_code
def yX8_log : MethodName := ⟨RX8, "log", "(II)I"⟩
abbrev cX8_count : ByteArray := prog_10_method_40_code
def yX8_count : MethodName := ⟨RX8, "count", "(I)I"⟩
abbrev cX8_next : ByteArray := prog_10_method_41_code
def yX8_next : MethodName := ⟨RX8, "next", "(I)I"⟩
abbrev cX8_servedIn : ByteArray := prog_10_method_42_code
def yX8_servedIn : MethodName := ⟨RX8, "servedIn", "(I)I"⟩
abbrev cX8_all : ByteArray := prog_10_method_43_code
def yX8_all : MethodName := ⟨RX8, "all", "(I)I"⟩
abbrev cX8_joined : ByteArray := prog_10_method_44_code
def yX8_joined : MethodName := ⟨RX8, "joined", "(III)I"⟩
abbrev cX8_put : ByteArray := prog_10_method_45_code
def yX8_put : MethodName := ⟨RX8, "put", "(J)I"⟩
abbrev cX8_wipe : ByteArray := prog_10_method_46_code
def yX8_wipe : MethodName := ⟨RX8, "wipe", "()I"⟩
abbrev cX8_sees : ByteArray := prog_10_method_47_code
def yX8_sees : MethodName := ⟨RX8, "sees", "(II)Z"⟩
abbrev cX8_number : ByteArray := prog_10_method_48_code
def yX8_number : MethodName := ⟨RX8, "number", "()I"⟩
abbrev cX8_order : ByteArray := prog_10_method_49_code
def yX8_order : MethodName := ⟨RX8, "order", "(Z)I"⟩
abbrev cX8_isWell : ByteArray := prog_10_method_50_code
def yX8_isWell : MethodName := ⟨RX8, "isWell", "()Z"⟩
abbrev cX8_fault : ByteArray := prog_10_method_51_code
def yX8_fault : MethodName := ⟨RX8, "fault", "()I"⟩
abbrev cX8_carryOut : ByteArray := prog_10_method_52_code
def yX8_carryOut : MethodName := ⟨RX8, "carryOut", "()I"⟩
def RJ9 : String := "java/lang/Math"
def TJ9 : u_T := fun k => match k with
  | _ => ("", "", "", false)
def tyJ9 : Nat → FieldType := fun k => match k with
  | _ => .int
abbrev wsJ90 : List Cond := u_ws RJ9 TJ9 0
theorem nmJ9 : ∀ a, a < 0 → ∀ b, b < 0 → a ≠ b → (TJ9 a).2.1 ≠ (TJ9 b).2.1 := by decide +kernel
theorem tyJ9_ok : ∀ k, k < 0 → parseFieldDescriptor (TJ9 k).2.2.1 = some (tyJ9 k) := by decide +kernel
abbrev cJ9_abs_0f7a4 : ByteArray := prog_11_method_59_code
def yJ9_abs_0f7a4 : MethodName := ⟨RJ9, "abs", "(I)I"⟩
abbrev cJ9_max_7cf53 : ByteArray := prog_11_method_65_code
def yJ9_max_7cf53 : MethodName := ⟨RJ9, "max", "(II)I"⟩
abbrev cJ9_min_7cf53 : ByteArray := prog_11_method_69_code
def yJ9_min_7cf53 : MethodName := ⟨RJ9, "min", "(II)I"⟩
def RL : String := "DrawerSlipsLaw"
abbrev cL_law : ByteArray := code
def yL_law : MethodName := ⟨RL, "law", "([I)Z"⟩
def wsX2_init : List Cond := .code yX2_init cX2_init 1 none :: ([.methodLink RX2 1 objectInit, .instanceMethod objectInit, .code objectInit ⟨#[0xb1]⟩ 1 none, .arrayClass .int, .fieldLink RX2 9 "DrawerSlips$Lately" "numbers" "[I", .fieldLink RX2 13 "DrawerSlips$Lately" "waits" "[I", .fieldLink RX2 16 "DrawerSlips$Lately" "sorts" "[I"] ++ wsX20)
def wsX7_copyRow : List Cond := .code yX7_copyRow cX7_copyRow 3 none :: ([])
def wsX5_init : List Cond := .code yX5_init cX5_init 2 none :: ([.methodLink RX5 1 objectInit, .instanceMethod objectInit, .code objectInit ⟨#[0xb1]⟩ 1 none, .fieldLink RX5 7 "DrawerSlips$Slip" "rest" "LDrawerSlips$Slip;"] ++ wsX50)
def wsX0_init_r1 : List Cond := [Cond.methodLink RX0 3 objectInit, Cond.instanceMethod objectInit, Cond.code objectInit ⟨#[0xb1]⟩ 1 none, Cond.arrayClass .int, Cond.fieldLink RX0 13 "DrawerSlips$Archive" "settings" "[I", Cond.classLink RX0 18 RX2, Cond.instantiable RX2 4, Cond.initialized RX2, Cond.fieldLink RX0 21 "DrawerSlips$Archive" "lately" "LDrawerSlips$Lately;", Cond.classLink RX0 29 RX5, Cond.instantiable RX5 8, Cond.initialized RX5, Cond.fieldLink RX0 34 "DrawerSlips$Archive" "places" "LDrawerSlips$Slip;", Cond.instanceMethod yX2_init, Cond.code yX2_init cX2_init 1 none, Cond.methodLink RX2 1 objectInit, Cond.fieldLink RX2 9 "DrawerSlips$Lately" "numbers" "[I", Cond.fieldLink RX2 13 "DrawerSlips$Lately" "waits" "[I", Cond.fieldLink RX2 16 "DrawerSlips$Lately" "sorts" "[I", Cond.static yX7_copyRow, Cond.initialized RX7, Cond.code yX7_copyRow cX7_copyRow 3 none, Cond.instanceMethod yX5_init, Cond.code yX5_init cX5_init 2 none]
def wsX0_init_r2 : List Cond := [Cond.methodLink RX5 1 objectInit, Cond.fieldLink RX5 7 "DrawerSlips$Slip" "rest" "LDrawerSlips$Slip;"]
def wsX0_init : List Cond := .code yX0_init cX0_init 3 none :: ((wsX0_init_r1 ++ wsX0_init_r2) ++ wsX00 ++ wsX20 ++ wsX50)
def wsX5_copyFrom : List Cond := .code yX5_copyFrom cX5_copyFrom 2 none :: ([.fieldLink RX5 13 "DrawerSlips$Slip" "waits" "Z", .fieldLink RX5 17 "DrawerSlips$Slip" "number" "I", .fieldLink RX5 21 "DrawerSlips$Slip" "writes" "I", .fieldLink RX5 24 "DrawerSlips$Slip" "first" "I", .fieldLink RX5 27 "DrawerSlips$Slip" "many" "I", .fieldLink RX5 30 "DrawerSlips$Slip" "came" "I", .fieldLink RX5 33 "DrawerSlips$Slip" "joins" "I"] ++ wsX50)
def wsX2_copyFrom : List Cond := .code yX2_copyFrom cX2_copyFrom 2 none :: ([.fieldLink RX2 9 "DrawerSlips$Lately" "numbers" "[I", .fieldLink RX2 13 "DrawerSlips$Lately" "waits" "[I", .fieldLink RX2 16 "DrawerSlips$Lately" "sorts" "[I", .fieldLink RX2 25 "DrawerSlips$Lately" "served" "I", .static yX7_copyRow, .initialized RX7, .code yX7_copyRow cX7_copyRow 3 none] ++ wsX20)
def wsX0_copyFrom_r1 : List Cond := [Cond.fieldLink RX0 13 "DrawerSlips$Archive" "settings" "[I", Cond.fieldLink RX0 34 "DrawerSlips$Archive" "places" "LDrawerSlips$Slip;", Cond.fieldLink RX0 21 "DrawerSlips$Archive" "lately" "LDrawerSlips$Lately;", Cond.fieldLink RX0 47 "DrawerSlips$Archive" "readsWaiting" "I", Cond.fieldLink RX0 51 "DrawerSlips$Archive" "writesWaiting" "I", Cond.fieldLink RX0 54 "DrawerSlips$Archive" "nextNumber" "I", Cond.fieldLink RX0 57 "DrawerSlips$Archive" "now" "I", Cond.fieldLink RX0 60 "DrawerSlips$Archive" "arm" "I", Cond.fieldLink RX0 63 "DrawerSlips$Archive" "longestWait" "I", Cond.fieldLink RX0 66 "DrawerSlips$Archive" "drawersGone" "I", Cond.fieldLink RX0 69 "DrawerSlips$Archive" "batches" "I", Cond.fieldLink RX0 72 "DrawerSlips$Archive" "batchSort" "I", Cond.fieldLink RX0 75 "DrawerSlips$Archive" "batchSlips" "I", Cond.fieldLink RX0 78 "DrawerSlips$Archive" "readsAhead" "I", Cond.static yX7_copyRow, Cond.initialized RX7, Cond.code yX7_copyRow cX7_copyRow 3 none, Cond.instanceMethod yX5_copyFrom, Cond.initialized RX5, Cond.selects RX5 yX5_copyFrom yX5_copyFrom, Cond.code yX5_copyFrom cX5_copyFrom 2 none, Cond.fieldLink RX5 13 "DrawerSlips$Slip" "waits" "Z", Cond.fieldLink RX5 17 "DrawerSlips$Slip" "number" "I", Cond.fieldLink RX5 21 "DrawerSlips$Slip" "writes" "I"]
def wsX0_copyFrom_r2 : List Cond := [Cond.fieldLink RX5 24 "DrawerSlips$Slip" "first" "I", Cond.fieldLink RX5 27 "DrawerSlips$Slip" "many" "I", Cond.fieldLink RX5 30 "DrawerSlips$Slip" "came" "I", Cond.fieldLink RX5 33 "DrawerSlips$Slip" "joins" "I", Cond.instanceMethod yX2_copyFrom, Cond.initialized RX2, Cond.selects RX2 yX2_copyFrom yX2_copyFrom, Cond.code yX2_copyFrom cX2_copyFrom 2 none, Cond.fieldLink RX2 9 "DrawerSlips$Lately" "numbers" "[I", Cond.fieldLink RX2 13 "DrawerSlips$Lately" "waits" "[I", Cond.fieldLink RX2 16 "DrawerSlips$Lately" "sorts" "[I", Cond.fieldLink RX2 25 "DrawerSlips$Lately" "served" "I"]
def wsX0_copyFrom : List Cond := .code yX0_copyFrom cX0_copyFrom 4 none :: ((wsX0_copyFrom_r1 ++ wsX0_copyFrom_r2) ++ wsX00 ++ wsX50 ++ wsX20)
def wsX7_isIndexOf : List Cond := .code yX7_isIndexOf cX7_isIndexOf 2 (some .boolean) :: ([])
def wsX7_valueAt : List Cond := .code yX7_valueAt cX7_valueAt 2 (some .int) :: ([])
def wsX0_adjust : List Cond := .code yX0_adjust cX0_adjust 4 (some .int) :: ([.fieldLink RX0 13 "DrawerSlips$Archive" "settings" "[I", .static yX7_isIndexOf, .initialized RX7, .code yX7_isIndexOf cX7_isIndexOf 2 (some .boolean), .static yX7_valueAt, .code yX7_valueAt cX7_valueAt 2 (some .int)] ++ wsX00)
def wsX7_isSlip : List Cond := .code yX7_isSlip cX7_isSlip 3 (some .boolean) :: ([])
def wsX5_isOfSort : List Cond := .code yX5_isOfSort cX5_isOfSort 2 (some .boolean) :: ([.fieldLink RX5 13 "DrawerSlips$Slip" "waits" "Z", .fieldLink RX5 21 "DrawerSlips$Slip" "writes" "I"] ++ wsX50)
def wsX5_last : List Cond := .code yX5_last cX5_last 1 (some .int) :: ([.fieldLink RX5 24 "DrawerSlips$Slip" "first" "I", .fieldLink RX5 27 "DrawerSlips$Slip" "many" "I"] ++ wsX50)
def wsX0_hostFor : List Cond := .code yX0_hostFor cX0_hostFor 7 (some (.object "DrawerSlips$Slip")) :: ([.fieldLink RX0 34 "DrawerSlips$Archive" "places" "LDrawerSlips$Slip;", .instanceMethod yX5_isOfSort, .initialized RX5, .selects RX5 yX5_isOfSort yX5_isOfSort, .code yX5_isOfSort cX5_isOfSort 2 (some .boolean), .fieldLink RX5 13 "DrawerSlips$Slip" "waits" "Z", .fieldLink RX5 21 "DrawerSlips$Slip" "writes" "I", .instanceMethod yX5_last, .selects RX5 yX5_last yX5_last, .code yX5_last cX5_last 1 (some .int), .fieldLink RX5 24 "DrawerSlips$Slip" "first" "I", .fieldLink RX5 27 "DrawerSlips$Slip" "many" "I"] ++ wsX00 ++ wsX50)
def wsX0_freePlace : List Cond := .code yX0_freePlace cX0_freePlace 2 (some (.object "DrawerSlips$Slip")) :: ([.fieldLink RX0 34 "DrawerSlips$Archive" "places" "LDrawerSlips$Slip;"] ++ wsX00 ++ wsX50)
def wsX0_countWaiting : List Cond := .code yX0_countWaiting cX0_countWaiting 3 none :: ([.fieldLink RX0 51 "DrawerSlips$Archive" "writesWaiting" "I", .fieldLink RX0 47 "DrawerSlips$Archive" "readsWaiting" "I"] ++ wsX00)
def wsX0_accept_r1 : List Cond := [Cond.fieldLink RX0 54 "DrawerSlips$Archive" "nextNumber" "I", Cond.fieldLink RX0 57 "DrawerSlips$Archive" "now" "I", Cond.static yX7_isSlip, Cond.initialized RX7, Cond.code yX7_isSlip cX7_isSlip 3 (some .boolean), Cond.methodLink RX0 99 yX0_hostFor, Cond.instanceMethod yX0_hostFor, Cond.selects RX0 yX0_hostFor yX0_hostFor, Cond.initialized RX0, Cond.code yX0_hostFor cX0_hostFor 7 (some (.object "DrawerSlips$Slip")), Cond.fieldLink RX0 34 "DrawerSlips$Archive" "places" "LDrawerSlips$Slip;", Cond.instanceMethod yX5_isOfSort, Cond.initialized RX5, Cond.selects RX5 yX5_isOfSort yX5_isOfSort, Cond.code yX5_isOfSort cX5_isOfSort 2 (some .boolean), Cond.fieldLink RX5 13 "DrawerSlips$Slip" "waits" "Z", Cond.fieldLink RX5 21 "DrawerSlips$Slip" "writes" "I", Cond.instanceMethod yX5_last, Cond.selects RX5 yX5_last yX5_last, Cond.code yX5_last cX5_last 1 (some .int), Cond.fieldLink RX5 24 "DrawerSlips$Slip" "first" "I", Cond.fieldLink RX5 27 "DrawerSlips$Slip" "many" "I", Cond.methodLink RX0 112 yX0_freePlace, Cond.instanceMethod yX0_freePlace]
def wsX0_accept_r2 : List Cond := [Cond.selects RX0 yX0_freePlace yX0_freePlace, Cond.code yX0_freePlace cX0_freePlace 2 (some (.object "DrawerSlips$Slip")), Cond.methodLink RX0 129 yX0_countWaiting, Cond.instanceMethod yX0_countWaiting, Cond.selects RX0 yX0_countWaiting yX0_countWaiting, Cond.code yX0_countWaiting cX0_countWaiting 3 none, Cond.fieldLink RX0 51 "DrawerSlips$Archive" "writesWaiting" "I", Cond.fieldLink RX0 47 "DrawerSlips$Archive" "readsWaiting" "I"]
def wsX0_accept : List Cond := .code yX0_accept cX0_accept 6 (some .int) :: ((wsX0_accept_r1 ++ wsX0_accept_r2) ++ wsX50 ++ wsX00)
def wsX0_find : List Cond := .code yX0_find cX0_find 3 (some (.object "DrawerSlips$Slip")) :: ([.fieldLink RX0 34 "DrawerSlips$Archive" "places" "LDrawerSlips$Slip;"] ++ wsX00 ++ wsX50)
def wsX0_remove : List Cond := .code yX0_remove cX0_remove 2 none :: ([.methodLink RX0 129 yX0_countWaiting, .instanceMethod yX0_countWaiting, .selects RX0 yX0_countWaiting yX0_countWaiting, .initialized RX0, .code yX0_countWaiting cX0_countWaiting 3 none, .fieldLink RX0 51 "DrawerSlips$Archive" "writesWaiting" "I", .fieldLink RX0 47 "DrawerSlips$Archive" "readsWaiting" "I"] ++ wsX50 ++ wsX00)
def wsX0_age : List Cond := .code yX0_age cX0_age 2 (some .int) :: ([.fieldLink RX0 57 "DrawerSlips$Archive" "now" "I"] ++ wsX00 ++ wsX50)
def wsX0_tearUp : List Cond := .code yX0_tearUp cX0_tearUp 3 (some .int) :: ([.methodLink RX0 133 yX0_find, .instanceMethod yX0_find, .selects RX0 yX0_find yX0_find, .initialized RX0, .code yX0_find cX0_find 3 (some (.object "DrawerSlips$Slip")), .fieldLink RX0 34 "DrawerSlips$Archive" "places" "LDrawerSlips$Slip;", .methodLink RX0 137 yX0_remove, .instanceMethod yX0_remove, .selects RX0 yX0_remove yX0_remove, .code yX0_remove cX0_remove 2 none, .methodLink RX0 129 yX0_countWaiting, .instanceMethod yX0_countWaiting, .selects RX0 yX0_countWaiting yX0_countWaiting, .code yX0_countWaiting cX0_countWaiting 3 none, .fieldLink RX0 51 "DrawerSlips$Archive" "writesWaiting" "I", .fieldLink RX0 47 "DrawerSlips$Archive" "readsWaiting" "I", .methodLink RX0 140 yX0_age, .instanceMethod yX0_age, .selects RX0 yX0_age yX0_age, .code yX0_age cX0_age 2 (some .int), .fieldLink RX0 57 "DrawerSlips$Archive" "now" "I"] ++ wsX00 ++ wsX50)
def wsX0_stand : List Cond := .code yX0_stand cX0_stand 2 (some .int) :: ([.fieldLink RX0 57 "DrawerSlips$Archive" "now" "I", .constant RX0 144 (99999)] ++ wsX00)
def wsX0_slipsThatWait : List Cond := .code yX0_slipsThatWait cX0_slipsThatWait 1 (some .int) :: ([.fieldLink RX0 47 "DrawerSlips$Archive" "readsWaiting" "I", .fieldLink RX0 51 "DrawerSlips$Archive" "writesWaiting" "I"] ++ wsX00)
def wsX5_isAheadOf : List Cond := .code yX5_isAheadOf cX5_isAheadOf 2 (some .boolean) :: ([.fieldLink RX5 24 "DrawerSlips$Slip" "first" "I", .fieldLink RX5 17 "DrawerSlips$Slip" "number" "I"] ++ wsX50)
def wsX0_slipsAheadOf : List Cond := .code yX0_slipsAheadOf cX0_slipsAheadOf 4 (some .int) :: ([.fieldLink RX0 34 "DrawerSlips$Archive" "places" "LDrawerSlips$Slip;", .instanceMethod yX5_isOfSort, .initialized RX5, .selects RX5 yX5_isOfSort yX5_isOfSort, .code yX5_isOfSort cX5_isOfSort 2 (some .boolean), .fieldLink RX5 13 "DrawerSlips$Slip" "waits" "Z", .fieldLink RX5 21 "DrawerSlips$Slip" "writes" "I", .instanceMethod yX5_isAheadOf, .selects RX5 yX5_isAheadOf yX5_isAheadOf, .code yX5_isAheadOf cX5_isAheadOf 2 (some .boolean), .fieldLink RX5 24 "DrawerSlips$Slip" "first" "I", .fieldLink RX5 17 "DrawerSlips$Slip" "number" "I"] ++ wsX00 ++ wsX50)
def wsX0_ranked : List Cond := .code yX0_ranked cX0_ranked 4 (some (.object "DrawerSlips$Slip")) :: ([.fieldLink RX0 34 "DrawerSlips$Archive" "places" "LDrawerSlips$Slip;", .instanceMethod yX5_isOfSort, .initialized RX5, .selects RX5 yX5_isOfSort yX5_isOfSort, .code yX5_isOfSort cX5_isOfSort 2 (some .boolean), .fieldLink RX5 13 "DrawerSlips$Slip" "waits" "Z", .fieldLink RX5 21 "DrawerSlips$Slip" "writes" "I", .methodLink RX0 153 yX0_slipsAheadOf, .instanceMethod yX0_slipsAheadOf, .selects RX0 yX0_slipsAheadOf yX0_slipsAheadOf, .initialized RX0, .code yX0_slipsAheadOf cX0_slipsAheadOf 4 (some .int), .instanceMethod yX5_isAheadOf, .selects RX5 yX5_isAheadOf yX5_isAheadOf, .code yX5_isAheadOf cX5_isAheadOf 2 (some .boolean), .fieldLink RX5 24 "DrawerSlips$Slip" "first" "I", .fieldLink RX5 17 "DrawerSlips$Slip" "number" "I"] ++ wsX00 ++ wsX50)
def wsX0_isTooOld : List Cond := .code yX0_isTooOld cX0_isTooOld 2 (some .boolean) :: ([.fieldLink RX0 13 "DrawerSlips$Archive" "settings" "[I", .methodLink RX0 140 yX0_age, .instanceMethod yX0_age, .selects RX0 yX0_age yX0_age, .initialized RX0, .code yX0_age cX0_age 2 (some .int), .fieldLink RX0 57 "DrawerSlips$Archive" "now" "I", .static yX7_valueAt, .initialized RX7, .code yX7_valueAt cX7_valueAt 2 (some .int)] ++ wsX00 ++ wsX50)
def wsX0_amount : List Cond := .code yX0_amount cX0_amount 2 (some .int) :: ([.fieldLink RX0 57 "DrawerSlips$Archive" "now" "I", .fieldLink RX0 47 "DrawerSlips$Archive" "readsWaiting" "I", .fieldLink RX0 51 "DrawerSlips$Archive" "writesWaiting" "I", .fieldLink RX0 60 "DrawerSlips$Archive" "arm" "I", .fieldLink RX0 21 "DrawerSlips$Archive" "lately" "LDrawerSlips$Lately;", .fieldLink RX0 63 "DrawerSlips$Archive" "longestWait" "I", .fieldLink RX0 66 "DrawerSlips$Archive" "drawersGone" "I", .fieldLink RX0 69 "DrawerSlips$Archive" "batches" "I", .fieldLink RX0 75 "DrawerSlips$Archive" "batchSlips" "I", .fieldLink RX0 78 "DrawerSlips$Archive" "readsAhead" "I", .fieldLink RX0 13 "DrawerSlips$Archive" "settings" "[I", .static yX7_isIndexOf, .initialized RX7, .code yX7_isIndexOf cX7_isIndexOf 2 (some .boolean), .static yX7_valueAt, .code yX7_valueAt cX7_valueAt 2 (some .int)] ++ wsX00 ++ wsX20)
def wsX0_leastFrom : List Cond := .code yX0_leastFrom cX0_leastFrom 5 (some (.object "DrawerSlips$Slip")) :: ([.fieldLink RX0 34 "DrawerSlips$Archive" "places" "LDrawerSlips$Slip;", .instanceMethod yX5_isOfSort, .initialized RX5, .selects RX5 yX5_isOfSort yX5_isOfSort, .code yX5_isOfSort cX5_isOfSort 2 (some .boolean), .fieldLink RX5 13 "DrawerSlips$Slip" "waits" "Z", .fieldLink RX5 21 "DrawerSlips$Slip" "writes" "I", .instanceMethod yX5_isAheadOf, .selects RX5 yX5_isAheadOf yX5_isAheadOf, .code yX5_isAheadOf cX5_isAheadOf 2 (some .boolean), .fieldLink RX5 24 "DrawerSlips$Slip" "first" "I", .fieldLink RX5 17 "DrawerSlips$Slip" "number" "I"] ++ wsX00 ++ wsX50)
def wsX0_newSort : List Cond := .code yX0_newSort cX0_newSort 1 (some .int) :: ([.fieldLink RX0 51 "DrawerSlips$Archive" "writesWaiting" "I", .fieldLink RX0 47 "DrawerSlips$Archive" "readsWaiting" "I", .fieldLink RX0 78 "DrawerSlips$Archive" "readsAhead" "I", .fieldLink RX0 13 "DrawerSlips$Archive" "settings" "[I", .static yX7_valueAt, .initialized RX7, .code yX7_valueAt cX7_valueAt 2 (some .int)] ++ wsX00)
def wsX0_oldest : List Cond := .code yX0_oldest cX0_oldest 4 (some (.object "DrawerSlips$Slip")) :: ([.fieldLink RX0 34 "DrawerSlips$Archive" "places" "LDrawerSlips$Slip;", .instanceMethod yX5_isOfSort, .initialized RX5, .selects RX5 yX5_isOfSort yX5_isOfSort, .code yX5_isOfSort cX5_isOfSort 2 (some .boolean), .fieldLink RX5 13 "DrawerSlips$Slip" "waits" "Z", .fieldLink RX5 21 "DrawerSlips$Slip" "writes" "I"] ++ wsX00 ++ wsX50)
def wsX0_reason_r1 : List Cond := [Cond.fieldLink RX0 69 "DrawerSlips$Archive" "batches" "I", Cond.fieldLink RX0 75 "DrawerSlips$Archive" "batchSlips" "I", Cond.fieldLink RX0 13 "DrawerSlips$Archive" "settings" "[I", Cond.fieldLink RX0 72 "DrawerSlips$Archive" "batchSort" "I", Cond.fieldLink RX0 60 "DrawerSlips$Archive" "arm" "I", Cond.static yX7_valueAt, Cond.initialized RX7, Cond.code yX7_valueAt cX7_valueAt 2 (some .int), Cond.methodLink RX0 163 yX0_leastFrom, Cond.instanceMethod yX0_leastFrom, Cond.selects RX0 yX0_leastFrom yX0_leastFrom, Cond.initialized RX0, Cond.code yX0_leastFrom cX0_leastFrom 5 (some (.object "DrawerSlips$Slip")), Cond.fieldLink RX0 34 "DrawerSlips$Archive" "places" "LDrawerSlips$Slip;", Cond.instanceMethod yX5_isOfSort, Cond.initialized RX5, Cond.selects RX5 yX5_isOfSort yX5_isOfSort, Cond.code yX5_isOfSort cX5_isOfSort 2 (some .boolean), Cond.fieldLink RX5 13 "DrawerSlips$Slip" "waits" "Z", Cond.fieldLink RX5 21 "DrawerSlips$Slip" "writes" "I", Cond.instanceMethod yX5_isAheadOf, Cond.selects RX5 yX5_isAheadOf yX5_isAheadOf, Cond.code yX5_isAheadOf cX5_isAheadOf 2 (some .boolean), Cond.fieldLink RX5 24 "DrawerSlips$Slip" "first" "I"]
def wsX0_reason_r2 : List Cond := [Cond.fieldLink RX5 17 "DrawerSlips$Slip" "number" "I", Cond.methodLink RX0 167 yX0_newSort, Cond.instanceMethod yX0_newSort, Cond.selects RX0 yX0_newSort yX0_newSort, Cond.code yX0_newSort cX0_newSort 1 (some .int), Cond.fieldLink RX0 51 "DrawerSlips$Archive" "writesWaiting" "I", Cond.fieldLink RX0 47 "DrawerSlips$Archive" "readsWaiting" "I", Cond.fieldLink RX0 78 "DrawerSlips$Archive" "readsAhead" "I", Cond.methodLink RX0 170 yX0_oldest, Cond.instanceMethod yX0_oldest, Cond.selects RX0 yX0_oldest yX0_oldest, Cond.code yX0_oldest cX0_oldest 4 (some (.object "DrawerSlips$Slip")), Cond.methodLink RX0 173 yX0_isTooOld, Cond.instanceMethod yX0_isTooOld, Cond.selects RX0 yX0_isTooOld yX0_isTooOld, Cond.code yX0_isTooOld cX0_isTooOld 2 (some .boolean), Cond.methodLink RX0 140 yX0_age, Cond.instanceMethod yX0_age, Cond.selects RX0 yX0_age yX0_age, Cond.code yX0_age cX0_age 2 (some .int), Cond.fieldLink RX0 57 "DrawerSlips$Archive" "now" "I"]
def wsX0_reason : List Cond := .code yX0_reason cX0_reason 4 (some .int) :: ((wsX0_reason_r1 ++ wsX0_reason_r2) ++ wsX00 ++ wsX50)
def wsX0_chosen_r1 : List Cond := [Cond.fieldLink RX0 72 "DrawerSlips$Archive" "batchSort" "I", Cond.fieldLink RX0 60 "DrawerSlips$Archive" "arm" "I", Cond.methodLink RX0 163 yX0_leastFrom, Cond.instanceMethod yX0_leastFrom, Cond.selects RX0 yX0_leastFrom yX0_leastFrom, Cond.initialized RX0, Cond.code yX0_leastFrom cX0_leastFrom 5 (some (.object "DrawerSlips$Slip")), Cond.fieldLink RX0 34 "DrawerSlips$Archive" "places" "LDrawerSlips$Slip;", Cond.instanceMethod yX5_isOfSort, Cond.initialized RX5, Cond.selects RX5 yX5_isOfSort yX5_isOfSort, Cond.code yX5_isOfSort cX5_isOfSort 2 (some .boolean), Cond.fieldLink RX5 13 "DrawerSlips$Slip" "waits" "Z", Cond.fieldLink RX5 21 "DrawerSlips$Slip" "writes" "I", Cond.instanceMethod yX5_isAheadOf, Cond.selects RX5 yX5_isAheadOf yX5_isAheadOf, Cond.code yX5_isAheadOf cX5_isAheadOf 2 (some .boolean), Cond.fieldLink RX5 24 "DrawerSlips$Slip" "first" "I", Cond.fieldLink RX5 17 "DrawerSlips$Slip" "number" "I", Cond.methodLink RX0 167 yX0_newSort, Cond.instanceMethod yX0_newSort, Cond.selects RX0 yX0_newSort yX0_newSort, Cond.code yX0_newSort cX0_newSort 1 (some .int), Cond.fieldLink RX0 51 "DrawerSlips$Archive" "writesWaiting" "I"]
def wsX0_chosen_r2 : List Cond := [Cond.fieldLink RX0 47 "DrawerSlips$Archive" "readsWaiting" "I", Cond.fieldLink RX0 78 "DrawerSlips$Archive" "readsAhead" "I", Cond.fieldLink RX0 13 "DrawerSlips$Archive" "settings" "[I", Cond.static yX7_valueAt, Cond.initialized RX7, Cond.code yX7_valueAt cX7_valueAt 2 (some .int), Cond.methodLink RX0 170 yX0_oldest, Cond.instanceMethod yX0_oldest, Cond.selects RX0 yX0_oldest yX0_oldest, Cond.code yX0_oldest cX0_oldest 4 (some (.object "DrawerSlips$Slip"))]
def wsX0_chosen : List Cond := .code yX0_chosen cX0_chosen 2 (some (.object "DrawerSlips$Slip")) :: ((wsX0_chosen_r1 ++ wsX0_chosen_r2) ++ wsX00 ++ wsX50)
def wsX0_drawersTo : List Cond := .code yX0_drawersTo cX0_drawersTo 2 (some .int) :: ([.fieldLink RX0 60 "DrawerSlips$Archive" "arm" "I", .methodLink RX0 176 Lib.Math.abs.name, .static Lib.Math.abs.name, .initialized "java/lang/Math", .code Lib.Math.abs.name Lib.Math.abs.code 1 (some .int)] ++ wsX50 ++ wsX00)
def wsX0_minutesFor : List Cond := .code yX0_minutesFor cX0_minutesFor 2 (some .int) :: ([.fieldLink RX0 13 "DrawerSlips$Archive" "settings" "[I", .methodLink RX0 182 yX0_drawersTo, .instanceMethod yX0_drawersTo, .selects RX0 yX0_drawersTo yX0_drawersTo, .initialized RX0, .code yX0_drawersTo cX0_drawersTo 2 (some .int), .fieldLink RX0 60 "DrawerSlips$Archive" "arm" "I", .methodLink RX0 176 Lib.Math.abs.name, .static Lib.Math.abs.name, .initialized "java/lang/Math", .code Lib.Math.abs.name Lib.Math.abs.code 1 (some .int), .static yX7_valueAt, .initialized RX7, .code yX7_valueAt cX7_valueAt 2 (some .int)] ++ wsX00 ++ wsX50)
def wsX0_beginBatch : List Cond := .code yX0_beginBatch cX0_beginBatch 2 none :: ([.fieldLink RX0 69 "DrawerSlips$Archive" "batches" "I", .fieldLink RX0 72 "DrawerSlips$Archive" "batchSort" "I", .fieldLink RX0 75 "DrawerSlips$Archive" "batchSlips" "I", .fieldLink RX0 78 "DrawerSlips$Archive" "readsAhead" "I", .fieldLink RX0 51 "DrawerSlips$Archive" "writesWaiting" "I"] ++ wsX00)
def wsX2_append : List Cond := .code yX2_append cX2_append 5 none :: ([.fieldLink RX2 25 "DrawerSlips$Lately" "served" "I", .fieldLink RX2 9 "DrawerSlips$Lately" "numbers" "[I", .fieldLink RX2 13 "DrawerSlips$Lately" "waits" "[I", .fieldLink RX2 16 "DrawerSlips$Lately" "sorts" "[I", .static yX7_isIndexOf, .initialized RX7, .code yX7_isIndexOf cX7_isIndexOf 2 (some .boolean)] ++ wsX20)
def wsX0_serveNext_r1 : List Cond := [Cond.fieldLink RX0 75 "DrawerSlips$Archive" "batchSlips" "I", Cond.fieldLink RX0 57 "DrawerSlips$Archive" "now" "I", Cond.fieldLink RX0 66 "DrawerSlips$Archive" "drawersGone" "I", Cond.methodLink RX0 198 Lib.Math.min.name, Cond.static Lib.Math.min.name, Cond.initialized "java/lang/Math", Cond.code Lib.Math.min.name Lib.Math.min.code 2 (some .int), Cond.fieldLink RX0 60 "DrawerSlips$Archive" "arm" "I", Cond.fieldLink RX0 63 "DrawerSlips$Archive" "longestWait" "I", Cond.methodLink RX0 202 Lib.Math.max.name, Cond.static Lib.Math.max.name, Cond.code Lib.Math.max.name Lib.Math.max.code 2 (some .int), Cond.fieldLink RX0 21 "DrawerSlips$Archive" "lately" "LDrawerSlips$Lately;", Cond.methodLink RX0 185 yX0_reason, Cond.instanceMethod yX0_reason, Cond.selects RX0 yX0_reason yX0_reason, Cond.initialized RX0, Cond.code yX0_reason cX0_reason 4 (some .int), Cond.fieldLink RX0 69 "DrawerSlips$Archive" "batches" "I", Cond.fieldLink RX0 13 "DrawerSlips$Archive" "settings" "[I", Cond.fieldLink RX0 72 "DrawerSlips$Archive" "batchSort" "I", Cond.static yX7_valueAt, Cond.initialized RX7, Cond.code yX7_valueAt cX7_valueAt 2 (some .int)]
def wsX0_serveNext_r2 : List Cond := [Cond.methodLink RX0 163 yX0_leastFrom, Cond.instanceMethod yX0_leastFrom, Cond.selects RX0 yX0_leastFrom yX0_leastFrom, Cond.code yX0_leastFrom cX0_leastFrom 5 (some (.object "DrawerSlips$Slip")), Cond.fieldLink RX0 34 "DrawerSlips$Archive" "places" "LDrawerSlips$Slip;", Cond.instanceMethod yX5_isOfSort, Cond.initialized RX5, Cond.selects RX5 yX5_isOfSort yX5_isOfSort, Cond.code yX5_isOfSort cX5_isOfSort 2 (some .boolean), Cond.fieldLink RX5 13 "DrawerSlips$Slip" "waits" "Z", Cond.fieldLink RX5 21 "DrawerSlips$Slip" "writes" "I", Cond.instanceMethod yX5_isAheadOf, Cond.selects RX5 yX5_isAheadOf yX5_isAheadOf, Cond.code yX5_isAheadOf cX5_isAheadOf 2 (some .boolean), Cond.fieldLink RX5 24 "DrawerSlips$Slip" "first" "I", Cond.fieldLink RX5 17 "DrawerSlips$Slip" "number" "I", Cond.methodLink RX0 167 yX0_newSort, Cond.instanceMethod yX0_newSort, Cond.selects RX0 yX0_newSort yX0_newSort, Cond.code yX0_newSort cX0_newSort 1 (some .int), Cond.fieldLink RX0 51 "DrawerSlips$Archive" "writesWaiting" "I", Cond.fieldLink RX0 47 "DrawerSlips$Archive" "readsWaiting" "I", Cond.fieldLink RX0 78 "DrawerSlips$Archive" "readsAhead" "I", Cond.methodLink RX0 170 yX0_oldest]
def wsX0_serveNext_r3 : List Cond := [Cond.instanceMethod yX0_oldest, Cond.selects RX0 yX0_oldest yX0_oldest, Cond.code yX0_oldest cX0_oldest 4 (some (.object "DrawerSlips$Slip")), Cond.methodLink RX0 173 yX0_isTooOld, Cond.instanceMethod yX0_isTooOld, Cond.selects RX0 yX0_isTooOld yX0_isTooOld, Cond.code yX0_isTooOld cX0_isTooOld 2 (some .boolean), Cond.methodLink RX0 140 yX0_age, Cond.instanceMethod yX0_age, Cond.selects RX0 yX0_age yX0_age, Cond.code yX0_age cX0_age 2 (some .int), Cond.methodLink RX0 188 yX0_chosen, Cond.instanceMethod yX0_chosen, Cond.selects RX0 yX0_chosen yX0_chosen, Cond.code yX0_chosen cX0_chosen 2 (some (.object "DrawerSlips$Slip")), Cond.methodLink RX0 191 yX0_beginBatch, Cond.instanceMethod yX0_beginBatch, Cond.selects RX0 yX0_beginBatch yX0_beginBatch, Cond.code yX0_beginBatch cX0_beginBatch 2 none, Cond.methodLink RX0 195 yX0_minutesFor, Cond.instanceMethod yX0_minutesFor, Cond.selects RX0 yX0_minutesFor yX0_minutesFor, Cond.code yX0_minutesFor cX0_minutesFor 2 (some .int), Cond.methodLink RX0 182 yX0_drawersTo]
def wsX0_serveNext_r4 : List Cond := [Cond.instanceMethod yX0_drawersTo, Cond.selects RX0 yX0_drawersTo yX0_drawersTo, Cond.code yX0_drawersTo cX0_drawersTo 2 (some .int), Cond.methodLink RX0 176 Lib.Math.abs.name, Cond.static Lib.Math.abs.name, Cond.code Lib.Math.abs.name Lib.Math.abs.code 1 (some .int), Cond.instanceMethod yX5_last, Cond.selects RX5 yX5_last yX5_last, Cond.code yX5_last cX5_last 1 (some .int), Cond.fieldLink RX5 27 "DrawerSlips$Slip" "many" "I", Cond.methodLink RX0 137 yX0_remove, Cond.instanceMethod yX0_remove, Cond.selects RX0 yX0_remove yX0_remove, Cond.code yX0_remove cX0_remove 2 none, Cond.methodLink RX0 129 yX0_countWaiting, Cond.instanceMethod yX0_countWaiting, Cond.selects RX0 yX0_countWaiting yX0_countWaiting, Cond.code yX0_countWaiting cX0_countWaiting 3 none, Cond.instanceMethod yX2_append, Cond.initialized RX2, Cond.selects RX2 yX2_append yX2_append, Cond.code yX2_append cX2_append 5 none, Cond.fieldLink RX2 25 "DrawerSlips$Lately" "served" "I", Cond.fieldLink RX2 9 "DrawerSlips$Lately" "numbers" "[I"]
def wsX0_serveNext_r5 : List Cond := [Cond.fieldLink RX2 13 "DrawerSlips$Lately" "waits" "[I", Cond.fieldLink RX2 16 "DrawerSlips$Lately" "sorts" "[I", Cond.static yX7_isIndexOf, Cond.code yX7_isIndexOf cX7_isIndexOf 2 (some .boolean)]
def wsX0_serveNext : List Cond := .code yX0_serveNext cX0_serveNext 3 none :: ((wsX0_serveNext_r1 ++ (wsX0_serveNext_r2 ++ (wsX0_serveNext_r3 ++ (wsX0_serveNext_r4 ++ wsX0_serveNext_r5)))) ++ wsX50 ++ wsX00 ++ wsX20)
def wsX1_init_r1 : List Cond := [Cond.methodLink RX1 3 objectInit, Cond.instanceMethod objectInit, Cond.code objectInit ⟨#[0xb1]⟩ 1 none, Cond.classLink RX1 9 RX0, Cond.fieldLink RX1 11 "DrawerSlips$History" "states" "[LDrawerSlips$Archive;", Cond.instantiable RX0 14, Cond.initialized RX0, Cond.instanceMethod yX0_init, Cond.code yX0_init cX0_init 3 none, Cond.methodLink RX0 3 objectInit, Cond.arrayClass .int, Cond.fieldLink RX0 13 "DrawerSlips$Archive" "settings" "[I", Cond.classLink RX0 18 RX2, Cond.instantiable RX2 4, Cond.initialized RX2, Cond.fieldLink RX0 21 "DrawerSlips$Archive" "lately" "LDrawerSlips$Lately;", Cond.classLink RX0 29 RX5, Cond.instantiable RX5 8, Cond.initialized RX5, Cond.fieldLink RX0 34 "DrawerSlips$Archive" "places" "LDrawerSlips$Slip;", Cond.instanceMethod yX2_init, Cond.code yX2_init cX2_init 1 none, Cond.methodLink RX2 1 objectInit, Cond.fieldLink RX2 9 "DrawerSlips$Lately" "numbers" "[I"]
def wsX1_init_r2 : List Cond := [Cond.fieldLink RX2 13 "DrawerSlips$Lately" "waits" "[I", Cond.fieldLink RX2 16 "DrawerSlips$Lately" "sorts" "[I", Cond.static yX7_copyRow, Cond.initialized RX7, Cond.code yX7_copyRow cX7_copyRow 3 none, Cond.instanceMethod yX5_init, Cond.code yX5_init cX5_init 2 none, Cond.methodLink RX5 1 objectInit, Cond.fieldLink RX5 7 "DrawerSlips$Slip" "rest" "LDrawerSlips$Slip;"]
def wsX1_init : List Cond := .code yX1_init cX1_init 2 none :: ((wsX1_init_r1 ++ wsX1_init_r2) ++ wsX10 ++ wsX00 ++ wsX20 ++ wsX50)
def wsX1_stateAt : List Cond := .code yX1_stateAt cX1_stateAt 2 (some (.object "DrawerSlips$Archive")) :: ([.fieldLink RX1 11 "DrawerSlips$History" "states" "[LDrawerSlips$Archive;"] ++ wsX10)
def wsX1_prepare_r1 : List Cond := [Cond.fieldLink RX1 16 "DrawerSlips$History" "place" "I", Cond.methodLink RX1 20 yX1_stateAt, Cond.instanceMethod yX1_stateAt, Cond.selects RX1 yX1_stateAt yX1_stateAt, Cond.initialized RX1, Cond.code yX1_stateAt cX1_stateAt 2 (some (.object "DrawerSlips$Archive")), Cond.fieldLink RX1 11 "DrawerSlips$History" "states" "[LDrawerSlips$Archive;", Cond.instanceMethod yX0_copyFrom, Cond.initialized RX0, Cond.selects RX0 yX0_copyFrom yX0_copyFrom, Cond.code yX0_copyFrom cX0_copyFrom 4 none, Cond.fieldLink RX0 13 "DrawerSlips$Archive" "settings" "[I", Cond.fieldLink RX0 34 "DrawerSlips$Archive" "places" "LDrawerSlips$Slip;", Cond.fieldLink RX0 21 "DrawerSlips$Archive" "lately" "LDrawerSlips$Lately;", Cond.fieldLink RX0 47 "DrawerSlips$Archive" "readsWaiting" "I", Cond.fieldLink RX0 51 "DrawerSlips$Archive" "writesWaiting" "I", Cond.fieldLink RX0 54 "DrawerSlips$Archive" "nextNumber" "I", Cond.fieldLink RX0 57 "DrawerSlips$Archive" "now" "I", Cond.fieldLink RX0 60 "DrawerSlips$Archive" "arm" "I", Cond.fieldLink RX0 63 "DrawerSlips$Archive" "longestWait" "I", Cond.fieldLink RX0 66 "DrawerSlips$Archive" "drawersGone" "I", Cond.fieldLink RX0 69 "DrawerSlips$Archive" "batches" "I", Cond.fieldLink RX0 72 "DrawerSlips$Archive" "batchSort" "I", Cond.fieldLink RX0 75 "DrawerSlips$Archive" "batchSlips" "I"]
def wsX1_prepare_r2 : List Cond := [Cond.fieldLink RX0 78 "DrawerSlips$Archive" "readsAhead" "I", Cond.static yX7_copyRow, Cond.initialized RX7, Cond.code yX7_copyRow cX7_copyRow 3 none, Cond.instanceMethod yX5_copyFrom, Cond.initialized RX5, Cond.selects RX5 yX5_copyFrom yX5_copyFrom, Cond.code yX5_copyFrom cX5_copyFrom 2 none, Cond.fieldLink RX5 13 "DrawerSlips$Slip" "waits" "Z", Cond.fieldLink RX5 17 "DrawerSlips$Slip" "number" "I", Cond.fieldLink RX5 21 "DrawerSlips$Slip" "writes" "I", Cond.fieldLink RX5 24 "DrawerSlips$Slip" "first" "I", Cond.fieldLink RX5 27 "DrawerSlips$Slip" "many" "I", Cond.fieldLink RX5 30 "DrawerSlips$Slip" "came" "I", Cond.fieldLink RX5 33 "DrawerSlips$Slip" "joins" "I", Cond.instanceMethod yX2_copyFrom, Cond.initialized RX2, Cond.selects RX2 yX2_copyFrom yX2_copyFrom, Cond.code yX2_copyFrom cX2_copyFrom 2 none, Cond.fieldLink RX2 9 "DrawerSlips$Lately" "numbers" "[I", Cond.fieldLink RX2 13 "DrawerSlips$Lately" "waits" "[I", Cond.fieldLink RX2 16 "DrawerSlips$Lately" "sorts" "[I", Cond.fieldLink RX2 25 "DrawerSlips$Lately" "served" "I"]
def wsX1_prepare : List Cond := .code yX1_prepare cX1_prepare 3 none :: ((wsX1_prepare_r1 ++ wsX1_prepare_r2) ++ wsX10 ++ wsX00 ++ wsX50 ++ wsX20)
def wsX1_keep : List Cond := .code yX1_keep cX1_keep 1 none :: ([.fieldLink RX1 16 "DrawerSlips$History" "place" "I", .fieldLink RX1 28 "DrawerSlips$History" "kept" "I", .methodLink RX1 31 Lib.Math.min.name, .static Lib.Math.min.name, .initialized "java/lang/Math", .code Lib.Math.min.name Lib.Math.min.code 2 (some .int)] ++ wsX10)
def wsX1_takeBack_r1 : List Cond := [Cond.fieldLink RX1 16 "DrawerSlips$History" "place" "I", Cond.fieldLink RX1 28 "DrawerSlips$History" "kept" "I", Cond.methodLink RX1 20 yX1_stateAt, Cond.instanceMethod yX1_stateAt, Cond.selects RX1 yX1_stateAt yX1_stateAt, Cond.initialized RX1, Cond.code yX1_stateAt cX1_stateAt 2 (some (.object "DrawerSlips$Archive")), Cond.fieldLink RX1 11 "DrawerSlips$History" "states" "[LDrawerSlips$Archive;", Cond.instanceMethod yX0_copyFrom, Cond.initialized RX0, Cond.selects RX0 yX0_copyFrom yX0_copyFrom, Cond.code yX0_copyFrom cX0_copyFrom 4 none, Cond.fieldLink RX0 13 "DrawerSlips$Archive" "settings" "[I", Cond.fieldLink RX0 34 "DrawerSlips$Archive" "places" "LDrawerSlips$Slip;", Cond.fieldLink RX0 21 "DrawerSlips$Archive" "lately" "LDrawerSlips$Lately;", Cond.fieldLink RX0 47 "DrawerSlips$Archive" "readsWaiting" "I", Cond.fieldLink RX0 51 "DrawerSlips$Archive" "writesWaiting" "I", Cond.fieldLink RX0 54 "DrawerSlips$Archive" "nextNumber" "I", Cond.fieldLink RX0 57 "DrawerSlips$Archive" "now" "I", Cond.fieldLink RX0 60 "DrawerSlips$Archive" "arm" "I", Cond.fieldLink RX0 63 "DrawerSlips$Archive" "longestWait" "I", Cond.fieldLink RX0 66 "DrawerSlips$Archive" "drawersGone" "I", Cond.fieldLink RX0 69 "DrawerSlips$Archive" "batches" "I", Cond.fieldLink RX0 72 "DrawerSlips$Archive" "batchSort" "I"]
def wsX1_takeBack_r2 : List Cond := [Cond.fieldLink RX0 75 "DrawerSlips$Archive" "batchSlips" "I", Cond.fieldLink RX0 78 "DrawerSlips$Archive" "readsAhead" "I", Cond.static yX7_copyRow, Cond.initialized RX7, Cond.code yX7_copyRow cX7_copyRow 3 none, Cond.instanceMethod yX5_copyFrom, Cond.initialized RX5, Cond.selects RX5 yX5_copyFrom yX5_copyFrom, Cond.code yX5_copyFrom cX5_copyFrom 2 none, Cond.fieldLink RX5 13 "DrawerSlips$Slip" "waits" "Z", Cond.fieldLink RX5 17 "DrawerSlips$Slip" "number" "I", Cond.fieldLink RX5 21 "DrawerSlips$Slip" "writes" "I", Cond.fieldLink RX5 24 "DrawerSlips$Slip" "first" "I", Cond.fieldLink RX5 27 "DrawerSlips$Slip" "many" "I", Cond.fieldLink RX5 30 "DrawerSlips$Slip" "came" "I", Cond.fieldLink RX5 33 "DrawerSlips$Slip" "joins" "I", Cond.instanceMethod yX2_copyFrom, Cond.initialized RX2, Cond.selects RX2 yX2_copyFrom yX2_copyFrom, Cond.code yX2_copyFrom cX2_copyFrom 2 none, Cond.fieldLink RX2 9 "DrawerSlips$Lately" "numbers" "[I", Cond.fieldLink RX2 13 "DrawerSlips$Lately" "waits" "[I", Cond.fieldLink RX2 16 "DrawerSlips$Lately" "sorts" "[I", Cond.fieldLink RX2 25 "DrawerSlips$Lately" "served" "I"]
def wsX1_takeBack : List Cond := .code yX1_takeBack cX1_takeBack 3 none :: ((wsX1_takeBack_r1 ++ wsX1_takeBack_r2) ++ wsX10 ++ wsX00 ++ wsX50 ++ wsX20)
def wsX2_has : List Cond := .code yX2_has cX2_has 2 (some .boolean) :: ([.fieldLink RX2 25 "DrawerSlips$Lately" "served" "I"] ++ wsX20)
def wsX2_place : List Cond := .code yX2_place cX2_place 2 (some .int) :: ([.fieldLink RX2 25 "DrawerSlips$Lately" "served" "I"] ++ wsX20)
def wsX2_numberOf : List Cond := .code yX2_numberOf cX2_numberOf 2 (some .int) :: ([.fieldLink RX2 9 "DrawerSlips$Lately" "numbers" "[I", .methodLink RX2 33 yX2_place, .instanceMethod yX2_place, .selects RX2 yX2_place yX2_place, .initialized RX2, .code yX2_place cX2_place 2 (some .int), .fieldLink RX2 25 "DrawerSlips$Lately" "served" "I", .static yX7_valueAt, .initialized RX7, .code yX7_valueAt cX7_valueAt 2 (some .int)] ++ wsX20)
def wsX2_waitOf : List Cond := .code yX2_waitOf cX2_waitOf 2 (some .int) :: ([.fieldLink RX2 13 "DrawerSlips$Lately" "waits" "[I", .methodLink RX2 33 yX2_place, .instanceMethod yX2_place, .selects RX2 yX2_place yX2_place, .initialized RX2, .code yX2_place cX2_place 2 (some .int), .fieldLink RX2 25 "DrawerSlips$Lately" "served" "I", .static yX7_valueAt, .initialized RX7, .code yX7_valueAt cX7_valueAt 2 (some .int)] ++ wsX20)
def wsX2_sortOf : List Cond := .code yX2_sortOf cX2_sortOf 2 (some .int) :: ([.fieldLink RX2 16 "DrawerSlips$Lately" "sorts" "[I", .methodLink RX2 33 yX2_place, .instanceMethod yX2_place, .selects RX2 yX2_place yX2_place, .initialized RX2, .code yX2_place cX2_place 2 (some .int), .fieldLink RX2 25 "DrawerSlips$Lately" "served" "I", .static yX7_valueAt, .initialized RX7, .code yX7_valueAt cX7_valueAt 2 (some .int)] ++ wsX20)
def wsX3_init : List Cond := .code yX3_init cX3_init 1 none :: ([.methodLink RX3 3 objectInit, .instanceMethod objectInit, .code objectInit ⟨#[0xb1]⟩ 1 none, .arrayClass .int, .fieldLink RX3 11 "DrawerSlips$Pad" "signs" "[I"] ++ wsX30)
def wsX3_signAt : List Cond := .code yX3_signAt cX3_signAt 2 (some .int) :: ([.fieldLink RX3 15 "DrawerSlips$Pad" "length" "I", .fieldLink RX3 11 "DrawerSlips$Pad" "signs" "[I", .static yX7_valueAt, .initialized RX7, .code yX7_valueAt cX7_valueAt 2 (some .int)] ++ wsX30)
def wsX3_signsIn : List Cond := .code yX3_signsIn cX3_signsIn 6 (some .int) :: ([])
def wsX3_add : List Cond := .code yX3_add cX3_add 2 none :: ([.fieldLink RX3 11 "DrawerSlips$Pad" "signs" "[I", .fieldLink RX3 15 "DrawerSlips$Pad" "length" "I", .static yX7_isIndexOf, .initialized RX7, .code yX7_isIndexOf cX7_isIndexOf 2 (some .boolean)] ++ wsX30)
def wsX3_append : List Cond := .code yX3_append cX3_append 5 (some .int) :: ([.fieldLink RX3 15 "DrawerSlips$Pad" "length" "I", .methodLink RX3 23 yX3_signsIn, .static yX3_signsIn, .initialized RX3, .code yX3_signsIn cX3_signsIn 6 (some .int), .methodLink RX3 27 yX3_add, .instanceMethod yX3_add, .selects RX3 yX3_add yX3_add, .code yX3_add cX3_add 2 none, .fieldLink RX3 11 "DrawerSlips$Pad" "signs" "[I", .static yX7_isIndexOf, .initialized RX7, .code yX7_isIndexOf cX7_isIndexOf 2 (some .boolean)] ++ wsX30)
def wsX3_empty : List Cond := .code yX3_empty cX3_empty 2 (some .int) :: ([.fieldLink RX3 15 "DrawerSlips$Pad" "length" "I"] ++ wsX30)
def wsX4_init : List Cond := .code yX4_init cX4_init 2 none :: ([.methodLink RX4 3 objectInit, .instanceMethod objectInit, .code objectInit ⟨#[0xb1]⟩ 1 none, .fieldLink RX4 9 "DrawerSlips$Reader" "pad" "LDrawerSlips$Pad;"] ++ wsX40)
def wsX4_begin : List Cond := .code yX4_begin cX4_begin 1 none :: ([.fieldLink RX4 15 "DrawerSlips$Reader" "at" "I"] ++ wsX40)
def wsX4_isDigitNext : List Cond := .code yX4_isDigitNext cX4_isDigitNext 2 (some .boolean) :: ([.fieldLink RX4 9 "DrawerSlips$Reader" "pad" "LDrawerSlips$Pad;", .fieldLink RX4 15 "DrawerSlips$Reader" "at" "I", .instanceMethod yX3_signAt, .initialized RX3, .selects RX3 yX3_signAt yX3_signAt, .code yX3_signAt cX3_signAt 2 (some .int), .fieldLink RX3 15 "DrawerSlips$Pad" "length" "I", .fieldLink RX3 11 "DrawerSlips$Pad" "signs" "[I", .static yX7_valueAt, .initialized RX7, .code yX7_valueAt cX7_valueAt 2 (some .int)] ++ wsX40 ++ wsX30)
def wsX4_takeDigit : List Cond := .code yX4_takeDigit cX4_takeDigit 2 (some .int) :: ([.fieldLink RX4 9 "DrawerSlips$Reader" "pad" "LDrawerSlips$Pad;", .fieldLink RX4 15 "DrawerSlips$Reader" "at" "I", .instanceMethod yX3_signAt, .initialized RX3, .selects RX3 yX3_signAt yX3_signAt, .code yX3_signAt cX3_signAt 2 (some .int), .fieldLink RX3 15 "DrawerSlips$Pad" "length" "I", .fieldLink RX3 11 "DrawerSlips$Pad" "signs" "[I", .static yX7_valueAt, .initialized RX7, .code yX7_valueAt cX7_valueAt 2 (some .int)] ++ wsX40 ++ wsX30)
def wsX4_readNumber : List Cond := .code yX4_readNumber cX4_readNumber 1 (some .boolean) :: ([.fieldLink RX4 57 "DrawerSlips$Reader" "number" "I", .methodLink RX4 50 yX4_isDigitNext, .instanceMethod yX4_isDigitNext, .selects RX4 yX4_isDigitNext yX4_isDigitNext, .initialized RX4, .code yX4_isDigitNext cX4_isDigitNext 2 (some .boolean), .fieldLink RX4 9 "DrawerSlips$Reader" "pad" "LDrawerSlips$Pad;", .fieldLink RX4 15 "DrawerSlips$Reader" "at" "I", .instanceMethod yX3_signAt, .initialized RX3, .selects RX3 yX3_signAt yX3_signAt, .code yX3_signAt cX3_signAt 2 (some .int), .fieldLink RX3 15 "DrawerSlips$Pad" "length" "I", .fieldLink RX3 11 "DrawerSlips$Pad" "signs" "[I", .static yX7_valueAt, .initialized RX7, .code yX7_valueAt cX7_valueAt 2 (some .int), .methodLink RX4 53 yX4_takeDigit, .instanceMethod yX4_takeDigit, .selects RX4 yX4_takeDigit yX4_takeDigit, .code yX4_takeDigit cX4_takeDigit 2 (some .int)] ++ wsX40 ++ wsX30)
def wsX4_readMore : List Cond := .code yX4_readMore cX4_readMore 1 (some .boolean) :: ([.fieldLink RX4 15 "DrawerSlips$Reader" "at" "I", .fieldLink RX4 41 "DrawerSlips$Reader" "more" "I", .methodLink RX4 50 yX4_isDigitNext, .instanceMethod yX4_isDigitNext, .selects RX4 yX4_isDigitNext yX4_isDigitNext, .initialized RX4, .code yX4_isDigitNext cX4_isDigitNext 2 (some .boolean), .fieldLink RX4 9 "DrawerSlips$Reader" "pad" "LDrawerSlips$Pad;", .instanceMethod yX3_signAt, .initialized RX3, .selects RX3 yX3_signAt yX3_signAt, .code yX3_signAt cX3_signAt 2 (some .int), .fieldLink RX3 15 "DrawerSlips$Pad" "length" "I", .fieldLink RX3 11 "DrawerSlips$Pad" "signs" "[I", .static yX7_valueAt, .initialized RX7, .code yX7_valueAt cX7_valueAt 2 (some .int), .methodLink RX4 53 yX4_takeDigit, .instanceMethod yX4_takeDigit, .selects RX4 yX4_takeDigit yX4_takeDigit, .code yX4_takeDigit cX4_takeDigit 2 (some .int)] ++ wsX40 ++ wsX30)
def wsX4_readOrder_r1 : List Cond := [Cond.fieldLink RX4 9 "DrawerSlips$Reader" "pad" "LDrawerSlips$Pad;", Cond.fieldLink RX4 15 "DrawerSlips$Reader" "at" "I", Cond.fieldLink RX4 38 "DrawerSlips$Reader" "kind" "I", Cond.fieldLink RX4 41 "DrawerSlips$Reader" "more" "I", Cond.instanceMethod yX3_signAt, Cond.initialized RX3, Cond.selects RX3 yX3_signAt yX3_signAt, Cond.code yX3_signAt cX3_signAt 2 (some .int), Cond.fieldLink RX3 15 "DrawerSlips$Pad" "length" "I", Cond.fieldLink RX3 11 "DrawerSlips$Pad" "signs" "[I", Cond.static yX7_valueAt, Cond.initialized RX7, Cond.code yX7_valueAt cX7_valueAt 2 (some .int), Cond.methodLink RX4 44 yX4_readNumber, Cond.instanceMethod yX4_readNumber, Cond.selects RX4 yX4_readNumber yX4_readNumber, Cond.initialized RX4, Cond.code yX4_readNumber cX4_readNumber 1 (some .boolean), Cond.fieldLink RX4 57 "DrawerSlips$Reader" "number" "I", Cond.methodLink RX4 50 yX4_isDigitNext, Cond.instanceMethod yX4_isDigitNext, Cond.selects RX4 yX4_isDigitNext yX4_isDigitNext, Cond.code yX4_isDigitNext cX4_isDigitNext 2 (some .boolean), Cond.methodLink RX4 53 yX4_takeDigit]
def wsX4_readOrder_r2 : List Cond := [Cond.instanceMethod yX4_takeDigit, Cond.selects RX4 yX4_takeDigit yX4_takeDigit, Cond.code yX4_takeDigit cX4_takeDigit 2 (some .int), Cond.methodLink RX4 47 yX4_readMore, Cond.instanceMethod yX4_readMore, Cond.selects RX4 yX4_readMore yX4_readMore, Cond.code yX4_readMore cX4_readMore 1 (some .boolean)]
def wsX4_readOrder : List Cond := .code yX4_readOrder cX4_readOrder 2 (some .boolean) :: ((wsX4_readOrder_r1 ++ wsX4_readOrder_r2) ++ wsX40 ++ wsX30)
def wsX4_skipSemicolon : List Cond := .code yX4_skipSemicolon cX4_skipSemicolon 1 none :: ([.fieldLink RX4 15 "DrawerSlips$Reader" "at" "I"] ++ wsX40)
def wsX4_findFault_r1 : List Cond := [Cond.fieldLink RX4 15 "DrawerSlips$Reader" "at" "I", Cond.fieldLink RX4 9 "DrawerSlips$Reader" "pad" "LDrawerSlips$Pad;", Cond.methodLink RX4 19 yX4_begin, Cond.instanceMethod yX4_begin, Cond.selects RX4 yX4_begin yX4_begin, Cond.initialized RX4, Cond.code yX4_begin cX4_begin 1 none, Cond.methodLink RX4 22 yX4_readOrder, Cond.instanceMethod yX4_readOrder, Cond.selects RX4 yX4_readOrder yX4_readOrder, Cond.code yX4_readOrder cX4_readOrder 2 (some .boolean), Cond.fieldLink RX4 38 "DrawerSlips$Reader" "kind" "I", Cond.fieldLink RX4 41 "DrawerSlips$Reader" "more" "I", Cond.instanceMethod yX3_signAt, Cond.initialized RX3, Cond.selects RX3 yX3_signAt yX3_signAt, Cond.code yX3_signAt cX3_signAt 2 (some .int), Cond.fieldLink RX3 15 "DrawerSlips$Pad" "length" "I", Cond.fieldLink RX3 11 "DrawerSlips$Pad" "signs" "[I", Cond.static yX7_valueAt, Cond.initialized RX7, Cond.code yX7_valueAt cX7_valueAt 2 (some .int), Cond.methodLink RX4 44 yX4_readNumber, Cond.instanceMethod yX4_readNumber]
def wsX4_findFault_r2 : List Cond := [Cond.selects RX4 yX4_readNumber yX4_readNumber, Cond.code yX4_readNumber cX4_readNumber 1 (some .boolean), Cond.fieldLink RX4 57 "DrawerSlips$Reader" "number" "I", Cond.methodLink RX4 50 yX4_isDigitNext, Cond.instanceMethod yX4_isDigitNext, Cond.selects RX4 yX4_isDigitNext yX4_isDigitNext, Cond.code yX4_isDigitNext cX4_isDigitNext 2 (some .boolean), Cond.methodLink RX4 53 yX4_takeDigit, Cond.instanceMethod yX4_takeDigit, Cond.selects RX4 yX4_takeDigit yX4_takeDigit, Cond.code yX4_takeDigit cX4_takeDigit 2 (some .int), Cond.methodLink RX4 47 yX4_readMore, Cond.instanceMethod yX4_readMore, Cond.selects RX4 yX4_readMore yX4_readMore, Cond.code yX4_readMore cX4_readMore 1 (some .boolean), Cond.methodLink RX4 35 yX4_skipSemicolon, Cond.instanceMethod yX4_skipSemicolon, Cond.selects RX4 yX4_skipSemicolon yX4_skipSemicolon, Cond.code yX4_skipSemicolon cX4_skipSemicolon 1 none]
def wsX4_findFault : List Cond := .code yX4_findFault cX4_findFault 2 (some .int) :: ((wsX4_findFault_r1 ++ wsX4_findFault_r2) ++ wsX40 ++ wsX30)
def wsX6_init_r1 : List Cond := [Cond.methodLink RX6 1 objectInit, Cond.instanceMethod objectInit, Cond.code objectInit ⟨#[0xb1]⟩ 1 none, Cond.classLink RX6 7 RX0, Cond.instantiable RX0 14, Cond.initialized RX0, Cond.fieldLink RX6 10 "DrawerSlips$Slot" "state" "LDrawerSlips$Archive;", Cond.instanceMethod yX0_init, Cond.code yX0_init cX0_init 3 none, Cond.methodLink RX0 3 objectInit, Cond.arrayClass .int, Cond.fieldLink RX0 13 "DrawerSlips$Archive" "settings" "[I", Cond.classLink RX0 18 RX2, Cond.instantiable RX2 4, Cond.initialized RX2, Cond.fieldLink RX0 21 "DrawerSlips$Archive" "lately" "LDrawerSlips$Lately;", Cond.classLink RX0 29 RX5, Cond.instantiable RX5 8, Cond.initialized RX5, Cond.fieldLink RX0 34 "DrawerSlips$Archive" "places" "LDrawerSlips$Slip;", Cond.instanceMethod yX2_init, Cond.code yX2_init cX2_init 1 none, Cond.methodLink RX2 1 objectInit, Cond.fieldLink RX2 9 "DrawerSlips$Lately" "numbers" "[I"]
def wsX6_init_r2 : List Cond := [Cond.fieldLink RX2 13 "DrawerSlips$Lately" "waits" "[I", Cond.fieldLink RX2 16 "DrawerSlips$Lately" "sorts" "[I", Cond.static yX7_copyRow, Cond.initialized RX7, Cond.code yX7_copyRow cX7_copyRow 3 none, Cond.instanceMethod yX5_init, Cond.code yX5_init cX5_init 2 none, Cond.methodLink RX5 1 objectInit, Cond.fieldLink RX5 7 "DrawerSlips$Slip" "rest" "LDrawerSlips$Slip;"]
def wsX6_init : List Cond := .code yX6_init cX6_init 1 none :: ((wsX6_init_r1 ++ wsX6_init_r2) ++ wsX00 ++ wsX60 ++ wsX20 ++ wsX50)
def wsX7_init_r1 : List Cond := [Cond.methodLink RX7 1 objectInit, Cond.instanceMethod objectInit, Cond.code objectInit ⟨#[0xb1]⟩ 1 none, Cond.classLink RX7 7 RX0, Cond.instantiable RX0 14, Cond.initialized RX0, Cond.fieldLink RX7 10 "DrawerSlips" "archive" "LDrawerSlips$Archive;", Cond.fieldLink RX7 16 "DrawerSlips" "trial" "LDrawerSlips$Archive;", Cond.classLink RX7 19 RX1, Cond.instantiable RX1 3, Cond.initialized RX1, Cond.fieldLink RX7 22 "DrawerSlips" "history" "LDrawerSlips$History;", Cond.classLink RX7 26 RX6, Cond.instantiable RX6 2, Cond.initialized RX6, Cond.fieldLink RX7 29 "DrawerSlips" "firstSlot" "LDrawerSlips$Slot;", Cond.fieldLink RX7 33 "DrawerSlips" "secondSlot" "LDrawerSlips$Slot;", Cond.classLink RX7 36 RX3, Cond.instantiable RX3 2, Cond.initialized RX3, Cond.fieldLink RX7 39 "DrawerSlips" "pad" "LDrawerSlips$Pad;", Cond.classLink RX7 43 RX4, Cond.instantiable RX4 5, Cond.initialized RX4]
def wsX7_init_r2 : List Cond := [Cond.fieldLink RX7 48 "DrawerSlips" "reader" "LDrawerSlips$Reader;", Cond.instanceMethod yX0_init, Cond.code yX0_init cX0_init 3 none, Cond.methodLink RX0 3 objectInit, Cond.arrayClass .int, Cond.fieldLink RX0 13 "DrawerSlips$Archive" "settings" "[I", Cond.classLink RX0 18 RX2, Cond.instantiable RX2 4, Cond.initialized RX2, Cond.fieldLink RX0 21 "DrawerSlips$Archive" "lately" "LDrawerSlips$Lately;", Cond.classLink RX0 29 RX5, Cond.instantiable RX5 8, Cond.initialized RX5, Cond.fieldLink RX0 34 "DrawerSlips$Archive" "places" "LDrawerSlips$Slip;", Cond.instanceMethod yX2_init, Cond.code yX2_init cX2_init 1 none, Cond.methodLink RX2 1 objectInit, Cond.fieldLink RX2 9 "DrawerSlips$Lately" "numbers" "[I", Cond.fieldLink RX2 13 "DrawerSlips$Lately" "waits" "[I", Cond.fieldLink RX2 16 "DrawerSlips$Lately" "sorts" "[I", Cond.static yX7_copyRow, Cond.initialized RX7, Cond.code yX7_copyRow cX7_copyRow 3 none, Cond.instanceMethod yX5_init]
def wsX7_init_r3 : List Cond := [Cond.code yX5_init cX5_init 2 none, Cond.methodLink RX5 1 objectInit, Cond.fieldLink RX5 7 "DrawerSlips$Slip" "rest" "LDrawerSlips$Slip;", Cond.instanceMethod yX1_init, Cond.code yX1_init cX1_init 2 none, Cond.methodLink RX1 3 objectInit, Cond.classLink RX1 9 RX0, Cond.fieldLink RX1 11 "DrawerSlips$History" "states" "[LDrawerSlips$Archive;", Cond.instanceMethod yX6_init, Cond.code yX6_init cX6_init 1 none, Cond.methodLink RX6 1 objectInit, Cond.classLink RX6 7 RX0, Cond.fieldLink RX6 10 "DrawerSlips$Slot" "state" "LDrawerSlips$Archive;", Cond.instanceMethod yX3_init, Cond.code yX3_init cX3_init 1 none, Cond.methodLink RX3 3 objectInit, Cond.fieldLink RX3 11 "DrawerSlips$Pad" "signs" "[I", Cond.instanceMethod yX4_init, Cond.code yX4_init cX4_init 2 none, Cond.methodLink RX4 3 objectInit, Cond.fieldLink RX4 9 "DrawerSlips$Reader" "pad" "LDrawerSlips$Pad;"]
def wsX7_init : List Cond := .code yX7_init cX7_init 1 none :: ((wsX7_init_r1 ++ (wsX7_init_r2 ++ wsX7_init_r3)) ++ wsX00 ++ wsX70 ++ wsX10 ++ wsX60 ++ wsX30 ++ wsX40 ++ wsX20 ++ wsX50)
def wsX7_settled : List Cond := .code yX7_settled cX7_settled 2 (some .int) :: ([.fieldLink RX7 22 "DrawerSlips" "history" "LDrawerSlips$History;", .instanceMethod yX1_keep, .initialized RX1, .selects RX1 yX1_keep yX1_keep, .code yX1_keep cX1_keep 1 none, .fieldLink RX1 16 "DrawerSlips$History" "place" "I", .fieldLink RX1 28 "DrawerSlips$History" "kept" "I", .methodLink RX1 31 Lib.Math.min.name, .static Lib.Math.min.name, .initialized "java/lang/Math", .code Lib.Math.min.name Lib.Math.min.code 2 (some .int)] ++ wsX70 ++ wsX10)
def wsX7_set_r1 : List Cond := [Cond.fieldLink RX7 22 "DrawerSlips" "history" "LDrawerSlips$History;", Cond.fieldLink RX7 10 "DrawerSlips" "archive" "LDrawerSlips$Archive;", Cond.instanceMethod yX1_prepare, Cond.initialized RX1, Cond.selects RX1 yX1_prepare yX1_prepare, Cond.code yX1_prepare cX1_prepare 3 none, Cond.fieldLink RX1 16 "DrawerSlips$History" "place" "I", Cond.methodLink RX1 20 yX1_stateAt, Cond.instanceMethod yX1_stateAt, Cond.selects RX1 yX1_stateAt yX1_stateAt, Cond.code yX1_stateAt cX1_stateAt 2 (some (.object "DrawerSlips$Archive")), Cond.fieldLink RX1 11 "DrawerSlips$History" "states" "[LDrawerSlips$Archive;", Cond.instanceMethod yX0_copyFrom, Cond.initialized RX0, Cond.selects RX0 yX0_copyFrom yX0_copyFrom, Cond.code yX0_copyFrom cX0_copyFrom 4 none, Cond.fieldLink RX0 13 "DrawerSlips$Archive" "settings" "[I", Cond.fieldLink RX0 34 "DrawerSlips$Archive" "places" "LDrawerSlips$Slip;", Cond.fieldLink RX0 21 "DrawerSlips$Archive" "lately" "LDrawerSlips$Lately;", Cond.fieldLink RX0 47 "DrawerSlips$Archive" "readsWaiting" "I", Cond.fieldLink RX0 51 "DrawerSlips$Archive" "writesWaiting" "I", Cond.fieldLink RX0 54 "DrawerSlips$Archive" "nextNumber" "I", Cond.fieldLink RX0 57 "DrawerSlips$Archive" "now" "I", Cond.fieldLink RX0 60 "DrawerSlips$Archive" "arm" "I"]
def wsX7_set_r2 : List Cond := [Cond.fieldLink RX0 63 "DrawerSlips$Archive" "longestWait" "I", Cond.fieldLink RX0 66 "DrawerSlips$Archive" "drawersGone" "I", Cond.fieldLink RX0 69 "DrawerSlips$Archive" "batches" "I", Cond.fieldLink RX0 72 "DrawerSlips$Archive" "batchSort" "I", Cond.fieldLink RX0 75 "DrawerSlips$Archive" "batchSlips" "I", Cond.fieldLink RX0 78 "DrawerSlips$Archive" "readsAhead" "I", Cond.static yX7_copyRow, Cond.initialized RX7, Cond.code yX7_copyRow cX7_copyRow 3 none, Cond.instanceMethod yX5_copyFrom, Cond.initialized RX5, Cond.selects RX5 yX5_copyFrom yX5_copyFrom, Cond.code yX5_copyFrom cX5_copyFrom 2 none, Cond.fieldLink RX5 13 "DrawerSlips$Slip" "waits" "Z", Cond.fieldLink RX5 17 "DrawerSlips$Slip" "number" "I", Cond.fieldLink RX5 21 "DrawerSlips$Slip" "writes" "I", Cond.fieldLink RX5 24 "DrawerSlips$Slip" "first" "I", Cond.fieldLink RX5 27 "DrawerSlips$Slip" "many" "I", Cond.fieldLink RX5 30 "DrawerSlips$Slip" "came" "I", Cond.fieldLink RX5 33 "DrawerSlips$Slip" "joins" "I", Cond.instanceMethod yX2_copyFrom, Cond.initialized RX2, Cond.selects RX2 yX2_copyFrom yX2_copyFrom, Cond.code yX2_copyFrom cX2_copyFrom 2 none]
def wsX7_set_r3 : List Cond := [Cond.fieldLink RX2 9 "DrawerSlips$Lately" "numbers" "[I", Cond.fieldLink RX2 13 "DrawerSlips$Lately" "waits" "[I", Cond.fieldLink RX2 16 "DrawerSlips$Lately" "sorts" "[I", Cond.fieldLink RX2 25 "DrawerSlips$Lately" "served" "I", Cond.instanceMethod yX0_adjust, Cond.selects RX0 yX0_adjust yX0_adjust, Cond.code yX0_adjust cX0_adjust 4 (some .int), Cond.static yX7_isIndexOf, Cond.code yX7_isIndexOf cX7_isIndexOf 2 (some .boolean), Cond.static yX7_valueAt, Cond.code yX7_valueAt cX7_valueAt 2 (some .int), Cond.methodLink RX7 60 yX7_settled, Cond.instanceMethod yX7_settled, Cond.selects RX7 yX7_settled yX7_settled, Cond.code yX7_settled cX7_settled 2 (some .int), Cond.instanceMethod yX1_keep, Cond.selects RX1 yX1_keep yX1_keep, Cond.code yX1_keep cX1_keep 1 none, Cond.fieldLink RX1 28 "DrawerSlips$History" "kept" "I", Cond.methodLink RX1 31 Lib.Math.min.name, Cond.static Lib.Math.min.name, Cond.initialized "java/lang/Math", Cond.code Lib.Math.min.name Lib.Math.min.code 2 (some .int)]
def wsX7_set : List Cond := .code yX7_set cX7_set 3 (some .int) :: ((wsX7_set_r1 ++ (wsX7_set_r2 ++ wsX7_set_r3)) ++ wsX70 ++ wsX10 ++ wsX00 ++ wsX50 ++ wsX20)
def wsX7_slip_r1 : List Cond := [Cond.fieldLink RX7 22 "DrawerSlips" "history" "LDrawerSlips$History;", Cond.fieldLink RX7 10 "DrawerSlips" "archive" "LDrawerSlips$Archive;", Cond.instanceMethod yX1_prepare, Cond.initialized RX1, Cond.selects RX1 yX1_prepare yX1_prepare, Cond.code yX1_prepare cX1_prepare 3 none, Cond.fieldLink RX1 16 "DrawerSlips$History" "place" "I", Cond.methodLink RX1 20 yX1_stateAt, Cond.instanceMethod yX1_stateAt, Cond.selects RX1 yX1_stateAt yX1_stateAt, Cond.code yX1_stateAt cX1_stateAt 2 (some (.object "DrawerSlips$Archive")), Cond.fieldLink RX1 11 "DrawerSlips$History" "states" "[LDrawerSlips$Archive;", Cond.instanceMethod yX0_copyFrom, Cond.initialized RX0, Cond.selects RX0 yX0_copyFrom yX0_copyFrom, Cond.code yX0_copyFrom cX0_copyFrom 4 none, Cond.fieldLink RX0 13 "DrawerSlips$Archive" "settings" "[I", Cond.fieldLink RX0 34 "DrawerSlips$Archive" "places" "LDrawerSlips$Slip;", Cond.fieldLink RX0 21 "DrawerSlips$Archive" "lately" "LDrawerSlips$Lately;", Cond.fieldLink RX0 47 "DrawerSlips$Archive" "readsWaiting" "I", Cond.fieldLink RX0 51 "DrawerSlips$Archive" "writesWaiting" "I", Cond.fieldLink RX0 54 "DrawerSlips$Archive" "nextNumber" "I", Cond.fieldLink RX0 57 "DrawerSlips$Archive" "now" "I", Cond.fieldLink RX0 60 "DrawerSlips$Archive" "arm" "I"]
def wsX7_slip_r2 : List Cond := [Cond.fieldLink RX0 63 "DrawerSlips$Archive" "longestWait" "I", Cond.fieldLink RX0 66 "DrawerSlips$Archive" "drawersGone" "I", Cond.fieldLink RX0 69 "DrawerSlips$Archive" "batches" "I", Cond.fieldLink RX0 72 "DrawerSlips$Archive" "batchSort" "I", Cond.fieldLink RX0 75 "DrawerSlips$Archive" "batchSlips" "I", Cond.fieldLink RX0 78 "DrawerSlips$Archive" "readsAhead" "I", Cond.static yX7_copyRow, Cond.initialized RX7, Cond.code yX7_copyRow cX7_copyRow 3 none, Cond.instanceMethod yX5_copyFrom, Cond.initialized RX5, Cond.selects RX5 yX5_copyFrom yX5_copyFrom, Cond.code yX5_copyFrom cX5_copyFrom 2 none, Cond.fieldLink RX5 13 "DrawerSlips$Slip" "waits" "Z", Cond.fieldLink RX5 17 "DrawerSlips$Slip" "number" "I", Cond.fieldLink RX5 21 "DrawerSlips$Slip" "writes" "I", Cond.fieldLink RX5 24 "DrawerSlips$Slip" "first" "I", Cond.fieldLink RX5 27 "DrawerSlips$Slip" "many" "I", Cond.fieldLink RX5 30 "DrawerSlips$Slip" "came" "I", Cond.fieldLink RX5 33 "DrawerSlips$Slip" "joins" "I", Cond.instanceMethod yX2_copyFrom, Cond.initialized RX2, Cond.selects RX2 yX2_copyFrom yX2_copyFrom, Cond.code yX2_copyFrom cX2_copyFrom 2 none]
def wsX7_slip_r3 : List Cond := [Cond.fieldLink RX2 9 "DrawerSlips$Lately" "numbers" "[I", Cond.fieldLink RX2 13 "DrawerSlips$Lately" "waits" "[I", Cond.fieldLink RX2 16 "DrawerSlips$Lately" "sorts" "[I", Cond.fieldLink RX2 25 "DrawerSlips$Lately" "served" "I", Cond.instanceMethod yX0_accept, Cond.selects RX0 yX0_accept yX0_accept, Cond.code yX0_accept cX0_accept 6 (some .int), Cond.static yX7_isSlip, Cond.code yX7_isSlip cX7_isSlip 3 (some .boolean), Cond.methodLink RX0 99 yX0_hostFor, Cond.instanceMethod yX0_hostFor, Cond.selects RX0 yX0_hostFor yX0_hostFor, Cond.code yX0_hostFor cX0_hostFor 7 (some (.object "DrawerSlips$Slip")), Cond.instanceMethod yX5_isOfSort, Cond.selects RX5 yX5_isOfSort yX5_isOfSort, Cond.code yX5_isOfSort cX5_isOfSort 2 (some .boolean), Cond.instanceMethod yX5_last, Cond.selects RX5 yX5_last yX5_last, Cond.code yX5_last cX5_last 1 (some .int), Cond.methodLink RX0 112 yX0_freePlace, Cond.instanceMethod yX0_freePlace, Cond.selects RX0 yX0_freePlace yX0_freePlace, Cond.code yX0_freePlace cX0_freePlace 2 (some (.object "DrawerSlips$Slip")), Cond.methodLink RX0 129 yX0_countWaiting]
def wsX7_slip_r4 : List Cond := [Cond.instanceMethod yX0_countWaiting, Cond.selects RX0 yX0_countWaiting yX0_countWaiting, Cond.code yX0_countWaiting cX0_countWaiting 3 none, Cond.methodLink RX7 60 yX7_settled, Cond.instanceMethod yX7_settled, Cond.selects RX7 yX7_settled yX7_settled, Cond.code yX7_settled cX7_settled 2 (some .int), Cond.instanceMethod yX1_keep, Cond.selects RX1 yX1_keep yX1_keep, Cond.code yX1_keep cX1_keep 1 none, Cond.fieldLink RX1 28 "DrawerSlips$History" "kept" "I", Cond.methodLink RX1 31 Lib.Math.min.name, Cond.static Lib.Math.min.name, Cond.initialized "java/lang/Math", Cond.code Lib.Math.min.name Lib.Math.min.code 2 (some .int)]
def wsX7_slip : List Cond := .code yX7_slip cX7_slip 4 (some .int) :: ((wsX7_slip_r1 ++ (wsX7_slip_r2 ++ (wsX7_slip_r3 ++ wsX7_slip_r4))) ++ wsX70 ++ wsX10 ++ wsX00 ++ wsX50 ++ wsX20)
def wsX7_tear_r1 : List Cond := [Cond.fieldLink RX7 22 "DrawerSlips" "history" "LDrawerSlips$History;", Cond.fieldLink RX7 10 "DrawerSlips" "archive" "LDrawerSlips$Archive;", Cond.instanceMethod yX1_prepare, Cond.initialized RX1, Cond.selects RX1 yX1_prepare yX1_prepare, Cond.code yX1_prepare cX1_prepare 3 none, Cond.fieldLink RX1 16 "DrawerSlips$History" "place" "I", Cond.methodLink RX1 20 yX1_stateAt, Cond.instanceMethod yX1_stateAt, Cond.selects RX1 yX1_stateAt yX1_stateAt, Cond.code yX1_stateAt cX1_stateAt 2 (some (.object "DrawerSlips$Archive")), Cond.fieldLink RX1 11 "DrawerSlips$History" "states" "[LDrawerSlips$Archive;", Cond.instanceMethod yX0_copyFrom, Cond.initialized RX0, Cond.selects RX0 yX0_copyFrom yX0_copyFrom, Cond.code yX0_copyFrom cX0_copyFrom 4 none, Cond.fieldLink RX0 13 "DrawerSlips$Archive" "settings" "[I", Cond.fieldLink RX0 34 "DrawerSlips$Archive" "places" "LDrawerSlips$Slip;", Cond.fieldLink RX0 21 "DrawerSlips$Archive" "lately" "LDrawerSlips$Lately;", Cond.fieldLink RX0 47 "DrawerSlips$Archive" "readsWaiting" "I", Cond.fieldLink RX0 51 "DrawerSlips$Archive" "writesWaiting" "I", Cond.fieldLink RX0 54 "DrawerSlips$Archive" "nextNumber" "I", Cond.fieldLink RX0 57 "DrawerSlips$Archive" "now" "I", Cond.fieldLink RX0 60 "DrawerSlips$Archive" "arm" "I"]
def wsX7_tear_r2 : List Cond := [Cond.fieldLink RX0 63 "DrawerSlips$Archive" "longestWait" "I", Cond.fieldLink RX0 66 "DrawerSlips$Archive" "drawersGone" "I", Cond.fieldLink RX0 69 "DrawerSlips$Archive" "batches" "I", Cond.fieldLink RX0 72 "DrawerSlips$Archive" "batchSort" "I", Cond.fieldLink RX0 75 "DrawerSlips$Archive" "batchSlips" "I", Cond.fieldLink RX0 78 "DrawerSlips$Archive" "readsAhead" "I", Cond.static yX7_copyRow, Cond.initialized RX7, Cond.code yX7_copyRow cX7_copyRow 3 none, Cond.instanceMethod yX5_copyFrom, Cond.initialized RX5, Cond.selects RX5 yX5_copyFrom yX5_copyFrom, Cond.code yX5_copyFrom cX5_copyFrom 2 none, Cond.fieldLink RX5 13 "DrawerSlips$Slip" "waits" "Z", Cond.fieldLink RX5 17 "DrawerSlips$Slip" "number" "I", Cond.fieldLink RX5 21 "DrawerSlips$Slip" "writes" "I", Cond.fieldLink RX5 24 "DrawerSlips$Slip" "first" "I", Cond.fieldLink RX5 27 "DrawerSlips$Slip" "many" "I", Cond.fieldLink RX5 30 "DrawerSlips$Slip" "came" "I", Cond.fieldLink RX5 33 "DrawerSlips$Slip" "joins" "I", Cond.instanceMethod yX2_copyFrom, Cond.initialized RX2, Cond.selects RX2 yX2_copyFrom yX2_copyFrom, Cond.code yX2_copyFrom cX2_copyFrom 2 none]
def wsX7_tear_r3 : List Cond := [Cond.fieldLink RX2 9 "DrawerSlips$Lately" "numbers" "[I", Cond.fieldLink RX2 13 "DrawerSlips$Lately" "waits" "[I", Cond.fieldLink RX2 16 "DrawerSlips$Lately" "sorts" "[I", Cond.fieldLink RX2 25 "DrawerSlips$Lately" "served" "I", Cond.instanceMethod yX0_tearUp, Cond.selects RX0 yX0_tearUp yX0_tearUp, Cond.code yX0_tearUp cX0_tearUp 3 (some .int), Cond.methodLink RX0 133 yX0_find, Cond.instanceMethod yX0_find, Cond.selects RX0 yX0_find yX0_find, Cond.code yX0_find cX0_find 3 (some (.object "DrawerSlips$Slip")), Cond.methodLink RX0 137 yX0_remove, Cond.instanceMethod yX0_remove, Cond.selects RX0 yX0_remove yX0_remove, Cond.code yX0_remove cX0_remove 2 none, Cond.methodLink RX0 129 yX0_countWaiting, Cond.instanceMethod yX0_countWaiting, Cond.selects RX0 yX0_countWaiting yX0_countWaiting, Cond.code yX0_countWaiting cX0_countWaiting 3 none, Cond.methodLink RX0 140 yX0_age, Cond.instanceMethod yX0_age, Cond.selects RX0 yX0_age yX0_age, Cond.code yX0_age cX0_age 2 (some .int), Cond.methodLink RX7 60 yX7_settled]
def wsX7_tear_r4 : List Cond := [Cond.instanceMethod yX7_settled, Cond.selects RX7 yX7_settled yX7_settled, Cond.code yX7_settled cX7_settled 2 (some .int), Cond.instanceMethod yX1_keep, Cond.selects RX1 yX1_keep yX1_keep, Cond.code yX1_keep cX1_keep 1 none, Cond.fieldLink RX1 28 "DrawerSlips$History" "kept" "I", Cond.methodLink RX1 31 Lib.Math.min.name, Cond.static Lib.Math.min.name, Cond.initialized "java/lang/Math", Cond.code Lib.Math.min.name Lib.Math.min.code 2 (some .int)]
def wsX7_tear : List Cond := .code yX7_tear cX7_tear 2 (some .int) :: ((wsX7_tear_r1 ++ (wsX7_tear_r2 ++ (wsX7_tear_r3 ++ wsX7_tear_r4))) ++ wsX70 ++ wsX10 ++ wsX00 ++ wsX50 ++ wsX20)
def wsX7_serveSlips_r1 : List Cond := [Cond.fieldLink RX7 10 "DrawerSlips" "archive" "LDrawerSlips$Archive;", Cond.methodLink RX7 84 Lib.Math.min.name, Cond.static Lib.Math.min.name, Cond.initialized "java/lang/Math", Cond.code Lib.Math.min.name Lib.Math.min.code 2 (some .int), Cond.fieldLink RX7 16 "DrawerSlips" "trial" "LDrawerSlips$Archive;", Cond.constant RX7 99 (99999), Cond.instanceMethod yX0_slipsThatWait, Cond.initialized RX0, Cond.selects RX0 yX0_slipsThatWait yX0_slipsThatWait, Cond.code yX0_slipsThatWait cX0_slipsThatWait 1 (some .int), Cond.fieldLink RX0 47 "DrawerSlips$Archive" "readsWaiting" "I", Cond.fieldLink RX0 51 "DrawerSlips$Archive" "writesWaiting" "I", Cond.instanceMethod yX0_copyFrom, Cond.selects RX0 yX0_copyFrom yX0_copyFrom, Cond.code yX0_copyFrom cX0_copyFrom 4 none, Cond.fieldLink RX0 13 "DrawerSlips$Archive" "settings" "[I", Cond.fieldLink RX0 34 "DrawerSlips$Archive" "places" "LDrawerSlips$Slip;", Cond.fieldLink RX0 21 "DrawerSlips$Archive" "lately" "LDrawerSlips$Lately;", Cond.fieldLink RX0 54 "DrawerSlips$Archive" "nextNumber" "I", Cond.fieldLink RX0 57 "DrawerSlips$Archive" "now" "I", Cond.fieldLink RX0 60 "DrawerSlips$Archive" "arm" "I", Cond.fieldLink RX0 63 "DrawerSlips$Archive" "longestWait" "I", Cond.fieldLink RX0 66 "DrawerSlips$Archive" "drawersGone" "I"]
def wsX7_serveSlips_r2 : List Cond := [Cond.fieldLink RX0 69 "DrawerSlips$Archive" "batches" "I", Cond.fieldLink RX0 72 "DrawerSlips$Archive" "batchSort" "I", Cond.fieldLink RX0 75 "DrawerSlips$Archive" "batchSlips" "I", Cond.fieldLink RX0 78 "DrawerSlips$Archive" "readsAhead" "I", Cond.static yX7_copyRow, Cond.initialized RX7, Cond.code yX7_copyRow cX7_copyRow 3 none, Cond.instanceMethod yX5_copyFrom, Cond.initialized RX5, Cond.selects RX5 yX5_copyFrom yX5_copyFrom, Cond.code yX5_copyFrom cX5_copyFrom 2 none, Cond.fieldLink RX5 13 "DrawerSlips$Slip" "waits" "Z", Cond.fieldLink RX5 17 "DrawerSlips$Slip" "number" "I", Cond.fieldLink RX5 21 "DrawerSlips$Slip" "writes" "I", Cond.fieldLink RX5 24 "DrawerSlips$Slip" "first" "I", Cond.fieldLink RX5 27 "DrawerSlips$Slip" "many" "I", Cond.fieldLink RX5 30 "DrawerSlips$Slip" "came" "I", Cond.fieldLink RX5 33 "DrawerSlips$Slip" "joins" "I", Cond.instanceMethod yX2_copyFrom, Cond.initialized RX2, Cond.selects RX2 yX2_copyFrom yX2_copyFrom, Cond.code yX2_copyFrom cX2_copyFrom 2 none, Cond.fieldLink RX2 9 "DrawerSlips$Lately" "numbers" "[I", Cond.fieldLink RX2 13 "DrawerSlips$Lately" "waits" "[I"]
def wsX7_serveSlips_r3 : List Cond := [Cond.fieldLink RX2 16 "DrawerSlips$Lately" "sorts" "[I", Cond.fieldLink RX2 25 "DrawerSlips$Lately" "served" "I", Cond.instanceMethod yX0_serveNext, Cond.selects RX0 yX0_serveNext yX0_serveNext, Cond.code yX0_serveNext cX0_serveNext 3 none, Cond.methodLink RX0 198 Lib.Math.min.name, Cond.methodLink RX0 202 Lib.Math.max.name, Cond.static Lib.Math.max.name, Cond.code Lib.Math.max.name Lib.Math.max.code 2 (some .int), Cond.methodLink RX0 185 yX0_reason, Cond.instanceMethod yX0_reason, Cond.selects RX0 yX0_reason yX0_reason, Cond.code yX0_reason cX0_reason 4 (some .int), Cond.static yX7_valueAt, Cond.code yX7_valueAt cX7_valueAt 2 (some .int), Cond.methodLink RX0 163 yX0_leastFrom, Cond.instanceMethod yX0_leastFrom, Cond.selects RX0 yX0_leastFrom yX0_leastFrom, Cond.code yX0_leastFrom cX0_leastFrom 5 (some (.object "DrawerSlips$Slip")), Cond.instanceMethod yX5_isOfSort, Cond.selects RX5 yX5_isOfSort yX5_isOfSort, Cond.code yX5_isOfSort cX5_isOfSort 2 (some .boolean), Cond.instanceMethod yX5_isAheadOf, Cond.selects RX5 yX5_isAheadOf yX5_isAheadOf]
def wsX7_serveSlips_r4 : List Cond := [Cond.code yX5_isAheadOf cX5_isAheadOf 2 (some .boolean), Cond.methodLink RX0 167 yX0_newSort, Cond.instanceMethod yX0_newSort, Cond.selects RX0 yX0_newSort yX0_newSort, Cond.code yX0_newSort cX0_newSort 1 (some .int), Cond.methodLink RX0 170 yX0_oldest, Cond.instanceMethod yX0_oldest, Cond.selects RX0 yX0_oldest yX0_oldest, Cond.code yX0_oldest cX0_oldest 4 (some (.object "DrawerSlips$Slip")), Cond.methodLink RX0 173 yX0_isTooOld, Cond.instanceMethod yX0_isTooOld, Cond.selects RX0 yX0_isTooOld yX0_isTooOld, Cond.code yX0_isTooOld cX0_isTooOld 2 (some .boolean), Cond.methodLink RX0 140 yX0_age, Cond.instanceMethod yX0_age, Cond.selects RX0 yX0_age yX0_age, Cond.code yX0_age cX0_age 2 (some .int), Cond.methodLink RX0 188 yX0_chosen, Cond.instanceMethod yX0_chosen, Cond.selects RX0 yX0_chosen yX0_chosen, Cond.code yX0_chosen cX0_chosen 2 (some (.object "DrawerSlips$Slip")), Cond.methodLink RX0 191 yX0_beginBatch, Cond.instanceMethod yX0_beginBatch, Cond.selects RX0 yX0_beginBatch yX0_beginBatch]
def wsX7_serveSlips_r5 : List Cond := [Cond.code yX0_beginBatch cX0_beginBatch 2 none, Cond.methodLink RX0 195 yX0_minutesFor, Cond.instanceMethod yX0_minutesFor, Cond.selects RX0 yX0_minutesFor yX0_minutesFor, Cond.code yX0_minutesFor cX0_minutesFor 2 (some .int), Cond.methodLink RX0 182 yX0_drawersTo, Cond.instanceMethod yX0_drawersTo, Cond.selects RX0 yX0_drawersTo yX0_drawersTo, Cond.code yX0_drawersTo cX0_drawersTo 2 (some .int), Cond.methodLink RX0 176 Lib.Math.abs.name, Cond.static Lib.Math.abs.name, Cond.code Lib.Math.abs.name Lib.Math.abs.code 1 (some .int), Cond.instanceMethod yX5_last, Cond.selects RX5 yX5_last yX5_last, Cond.code yX5_last cX5_last 1 (some .int), Cond.methodLink RX0 137 yX0_remove, Cond.instanceMethod yX0_remove, Cond.selects RX0 yX0_remove yX0_remove, Cond.code yX0_remove cX0_remove 2 none, Cond.methodLink RX0 129 yX0_countWaiting, Cond.instanceMethod yX0_countWaiting, Cond.selects RX0 yX0_countWaiting yX0_countWaiting, Cond.code yX0_countWaiting cX0_countWaiting 3 none, Cond.instanceMethod yX2_append]
def wsX7_serveSlips_r6 : List Cond := [Cond.selects RX2 yX2_append yX2_append, Cond.code yX2_append cX2_append 5 none, Cond.static yX7_isIndexOf, Cond.code yX7_isIndexOf cX7_isIndexOf 2 (some .boolean)]
def wsX7_serveSlips : List Cond := .code yX7_serveSlips cX7_serveSlips 4 (some .int) :: ((wsX7_serveSlips_r1 ++ (wsX7_serveSlips_r2 ++ (wsX7_serveSlips_r3 ++ (wsX7_serveSlips_r4 ++ (wsX7_serveSlips_r5 ++ wsX7_serveSlips_r6))))) ++ wsX70 ++ wsX00 ++ wsX50 ++ wsX20)
def wsX7_serve_r1 : List Cond := [Cond.fieldLink RX7 22 "DrawerSlips" "history" "LDrawerSlips$History;", Cond.fieldLink RX7 10 "DrawerSlips" "archive" "LDrawerSlips$Archive;", Cond.instanceMethod yX1_prepare, Cond.initialized RX1, Cond.selects RX1 yX1_prepare yX1_prepare, Cond.code yX1_prepare cX1_prepare 3 none, Cond.fieldLink RX1 16 "DrawerSlips$History" "place" "I", Cond.methodLink RX1 20 yX1_stateAt, Cond.instanceMethod yX1_stateAt, Cond.selects RX1 yX1_stateAt yX1_stateAt, Cond.code yX1_stateAt cX1_stateAt 2 (some (.object "DrawerSlips$Archive")), Cond.fieldLink RX1 11 "DrawerSlips$History" "states" "[LDrawerSlips$Archive;", Cond.instanceMethod yX0_copyFrom, Cond.initialized RX0, Cond.selects RX0 yX0_copyFrom yX0_copyFrom, Cond.code yX0_copyFrom cX0_copyFrom 4 none, Cond.fieldLink RX0 13 "DrawerSlips$Archive" "settings" "[I", Cond.fieldLink RX0 34 "DrawerSlips$Archive" "places" "LDrawerSlips$Slip;", Cond.fieldLink RX0 21 "DrawerSlips$Archive" "lately" "LDrawerSlips$Lately;", Cond.fieldLink RX0 47 "DrawerSlips$Archive" "readsWaiting" "I", Cond.fieldLink RX0 51 "DrawerSlips$Archive" "writesWaiting" "I", Cond.fieldLink RX0 54 "DrawerSlips$Archive" "nextNumber" "I", Cond.fieldLink RX0 57 "DrawerSlips$Archive" "now" "I", Cond.fieldLink RX0 60 "DrawerSlips$Archive" "arm" "I"]
def wsX7_serve_r2 : List Cond := [Cond.fieldLink RX0 63 "DrawerSlips$Archive" "longestWait" "I", Cond.fieldLink RX0 66 "DrawerSlips$Archive" "drawersGone" "I", Cond.fieldLink RX0 69 "DrawerSlips$Archive" "batches" "I", Cond.fieldLink RX0 72 "DrawerSlips$Archive" "batchSort" "I", Cond.fieldLink RX0 75 "DrawerSlips$Archive" "batchSlips" "I", Cond.fieldLink RX0 78 "DrawerSlips$Archive" "readsAhead" "I", Cond.static yX7_copyRow, Cond.initialized RX7, Cond.code yX7_copyRow cX7_copyRow 3 none, Cond.instanceMethod yX5_copyFrom, Cond.initialized RX5, Cond.selects RX5 yX5_copyFrom yX5_copyFrom, Cond.code yX5_copyFrom cX5_copyFrom 2 none, Cond.fieldLink RX5 13 "DrawerSlips$Slip" "waits" "Z", Cond.fieldLink RX5 17 "DrawerSlips$Slip" "number" "I", Cond.fieldLink RX5 21 "DrawerSlips$Slip" "writes" "I", Cond.fieldLink RX5 24 "DrawerSlips$Slip" "first" "I", Cond.fieldLink RX5 27 "DrawerSlips$Slip" "many" "I", Cond.fieldLink RX5 30 "DrawerSlips$Slip" "came" "I", Cond.fieldLink RX5 33 "DrawerSlips$Slip" "joins" "I", Cond.instanceMethod yX2_copyFrom, Cond.initialized RX2, Cond.selects RX2 yX2_copyFrom yX2_copyFrom, Cond.code yX2_copyFrom cX2_copyFrom 2 none]
def wsX7_serve_r3 : List Cond := [Cond.fieldLink RX2 9 "DrawerSlips$Lately" "numbers" "[I", Cond.fieldLink RX2 13 "DrawerSlips$Lately" "waits" "[I", Cond.fieldLink RX2 16 "DrawerSlips$Lately" "sorts" "[I", Cond.fieldLink RX2 25 "DrawerSlips$Lately" "served" "I", Cond.methodLink RX7 71 yX7_serveSlips, Cond.instanceMethod yX7_serveSlips, Cond.selects RX7 yX7_serveSlips yX7_serveSlips, Cond.code yX7_serveSlips cX7_serveSlips 4 (some .int), Cond.methodLink RX7 84 Lib.Math.min.name, Cond.static Lib.Math.min.name, Cond.initialized "java/lang/Math", Cond.code Lib.Math.min.name Lib.Math.min.code 2 (some .int), Cond.fieldLink RX7 16 "DrawerSlips" "trial" "LDrawerSlips$Archive;", Cond.constant RX7 99 (99999), Cond.instanceMethod yX0_slipsThatWait, Cond.selects RX0 yX0_slipsThatWait yX0_slipsThatWait, Cond.code yX0_slipsThatWait cX0_slipsThatWait 1 (some .int), Cond.instanceMethod yX0_serveNext, Cond.selects RX0 yX0_serveNext yX0_serveNext, Cond.code yX0_serveNext cX0_serveNext 3 none, Cond.methodLink RX0 198 Lib.Math.min.name, Cond.methodLink RX0 202 Lib.Math.max.name, Cond.static Lib.Math.max.name, Cond.code Lib.Math.max.name Lib.Math.max.code 2 (some .int)]
def wsX7_serve_r4 : List Cond := [Cond.methodLink RX0 185 yX0_reason, Cond.instanceMethod yX0_reason, Cond.selects RX0 yX0_reason yX0_reason, Cond.code yX0_reason cX0_reason 4 (some .int), Cond.static yX7_valueAt, Cond.code yX7_valueAt cX7_valueAt 2 (some .int), Cond.methodLink RX0 163 yX0_leastFrom, Cond.instanceMethod yX0_leastFrom, Cond.selects RX0 yX0_leastFrom yX0_leastFrom, Cond.code yX0_leastFrom cX0_leastFrom 5 (some (.object "DrawerSlips$Slip")), Cond.instanceMethod yX5_isOfSort, Cond.selects RX5 yX5_isOfSort yX5_isOfSort, Cond.code yX5_isOfSort cX5_isOfSort 2 (some .boolean), Cond.instanceMethod yX5_isAheadOf, Cond.selects RX5 yX5_isAheadOf yX5_isAheadOf, Cond.code yX5_isAheadOf cX5_isAheadOf 2 (some .boolean), Cond.methodLink RX0 167 yX0_newSort, Cond.instanceMethod yX0_newSort, Cond.selects RX0 yX0_newSort yX0_newSort, Cond.code yX0_newSort cX0_newSort 1 (some .int), Cond.methodLink RX0 170 yX0_oldest, Cond.instanceMethod yX0_oldest, Cond.selects RX0 yX0_oldest yX0_oldest, Cond.code yX0_oldest cX0_oldest 4 (some (.object "DrawerSlips$Slip"))]
def wsX7_serve_r5 : List Cond := [Cond.methodLink RX0 173 yX0_isTooOld, Cond.instanceMethod yX0_isTooOld, Cond.selects RX0 yX0_isTooOld yX0_isTooOld, Cond.code yX0_isTooOld cX0_isTooOld 2 (some .boolean), Cond.methodLink RX0 140 yX0_age, Cond.instanceMethod yX0_age, Cond.selects RX0 yX0_age yX0_age, Cond.code yX0_age cX0_age 2 (some .int), Cond.methodLink RX0 188 yX0_chosen, Cond.instanceMethod yX0_chosen, Cond.selects RX0 yX0_chosen yX0_chosen, Cond.code yX0_chosen cX0_chosen 2 (some (.object "DrawerSlips$Slip")), Cond.methodLink RX0 191 yX0_beginBatch, Cond.instanceMethod yX0_beginBatch, Cond.selects RX0 yX0_beginBatch yX0_beginBatch, Cond.code yX0_beginBatch cX0_beginBatch 2 none, Cond.methodLink RX0 195 yX0_minutesFor, Cond.instanceMethod yX0_minutesFor, Cond.selects RX0 yX0_minutesFor yX0_minutesFor, Cond.code yX0_minutesFor cX0_minutesFor 2 (some .int), Cond.methodLink RX0 182 yX0_drawersTo, Cond.instanceMethod yX0_drawersTo, Cond.selects RX0 yX0_drawersTo yX0_drawersTo, Cond.code yX0_drawersTo cX0_drawersTo 2 (some .int)]
def wsX7_serve_r6 : List Cond := [Cond.methodLink RX0 176 Lib.Math.abs.name, Cond.static Lib.Math.abs.name, Cond.code Lib.Math.abs.name Lib.Math.abs.code 1 (some .int), Cond.instanceMethod yX5_last, Cond.selects RX5 yX5_last yX5_last, Cond.code yX5_last cX5_last 1 (some .int), Cond.methodLink RX0 137 yX0_remove, Cond.instanceMethod yX0_remove, Cond.selects RX0 yX0_remove yX0_remove, Cond.code yX0_remove cX0_remove 2 none, Cond.methodLink RX0 129 yX0_countWaiting, Cond.instanceMethod yX0_countWaiting, Cond.selects RX0 yX0_countWaiting yX0_countWaiting, Cond.code yX0_countWaiting cX0_countWaiting 3 none, Cond.instanceMethod yX2_append, Cond.selects RX2 yX2_append yX2_append, Cond.code yX2_append cX2_append 5 none, Cond.static yX7_isIndexOf, Cond.code yX7_isIndexOf cX7_isIndexOf 2 (some .boolean), Cond.methodLink RX7 60 yX7_settled, Cond.instanceMethod yX7_settled, Cond.selects RX7 yX7_settled yX7_settled, Cond.code yX7_settled cX7_settled 2 (some .int), Cond.instanceMethod yX1_keep]
def wsX7_serve_r7 : List Cond := [Cond.selects RX1 yX1_keep yX1_keep, Cond.code yX1_keep cX1_keep 1 none, Cond.fieldLink RX1 28 "DrawerSlips$History" "kept" "I", Cond.methodLink RX1 31 Lib.Math.min.name]
def wsX7_serve : List Cond := .code yX7_serve cX7_serve 2 (some .int) :: ((wsX7_serve_r1 ++ (wsX7_serve_r2 ++ (wsX7_serve_r3 ++ (wsX7_serve_r4 ++ (wsX7_serve_r5 ++ (wsX7_serve_r6 ++ wsX7_serve_r7)))))) ++ wsX70 ++ wsX10 ++ wsX00 ++ wsX50 ++ wsX20)
def wsX7_pass_r1 : List Cond := [Cond.fieldLink RX7 22 "DrawerSlips" "history" "LDrawerSlips$History;", Cond.fieldLink RX7 10 "DrawerSlips" "archive" "LDrawerSlips$Archive;", Cond.instanceMethod yX1_prepare, Cond.initialized RX1, Cond.selects RX1 yX1_prepare yX1_prepare, Cond.code yX1_prepare cX1_prepare 3 none, Cond.fieldLink RX1 16 "DrawerSlips$History" "place" "I", Cond.methodLink RX1 20 yX1_stateAt, Cond.instanceMethod yX1_stateAt, Cond.selects RX1 yX1_stateAt yX1_stateAt, Cond.code yX1_stateAt cX1_stateAt 2 (some (.object "DrawerSlips$Archive")), Cond.fieldLink RX1 11 "DrawerSlips$History" "states" "[LDrawerSlips$Archive;", Cond.instanceMethod yX0_copyFrom, Cond.initialized RX0, Cond.selects RX0 yX0_copyFrom yX0_copyFrom, Cond.code yX0_copyFrom cX0_copyFrom 4 none, Cond.fieldLink RX0 13 "DrawerSlips$Archive" "settings" "[I", Cond.fieldLink RX0 34 "DrawerSlips$Archive" "places" "LDrawerSlips$Slip;", Cond.fieldLink RX0 21 "DrawerSlips$Archive" "lately" "LDrawerSlips$Lately;", Cond.fieldLink RX0 47 "DrawerSlips$Archive" "readsWaiting" "I", Cond.fieldLink RX0 51 "DrawerSlips$Archive" "writesWaiting" "I", Cond.fieldLink RX0 54 "DrawerSlips$Archive" "nextNumber" "I", Cond.fieldLink RX0 57 "DrawerSlips$Archive" "now" "I", Cond.fieldLink RX0 60 "DrawerSlips$Archive" "arm" "I"]
def wsX7_pass_r2 : List Cond := [Cond.fieldLink RX0 63 "DrawerSlips$Archive" "longestWait" "I", Cond.fieldLink RX0 66 "DrawerSlips$Archive" "drawersGone" "I", Cond.fieldLink RX0 69 "DrawerSlips$Archive" "batches" "I", Cond.fieldLink RX0 72 "DrawerSlips$Archive" "batchSort" "I", Cond.fieldLink RX0 75 "DrawerSlips$Archive" "batchSlips" "I", Cond.fieldLink RX0 78 "DrawerSlips$Archive" "readsAhead" "I", Cond.static yX7_copyRow, Cond.initialized RX7, Cond.code yX7_copyRow cX7_copyRow 3 none, Cond.instanceMethod yX5_copyFrom, Cond.initialized RX5, Cond.selects RX5 yX5_copyFrom yX5_copyFrom, Cond.code yX5_copyFrom cX5_copyFrom 2 none, Cond.fieldLink RX5 13 "DrawerSlips$Slip" "waits" "Z", Cond.fieldLink RX5 17 "DrawerSlips$Slip" "number" "I", Cond.fieldLink RX5 21 "DrawerSlips$Slip" "writes" "I", Cond.fieldLink RX5 24 "DrawerSlips$Slip" "first" "I", Cond.fieldLink RX5 27 "DrawerSlips$Slip" "many" "I", Cond.fieldLink RX5 30 "DrawerSlips$Slip" "came" "I", Cond.fieldLink RX5 33 "DrawerSlips$Slip" "joins" "I", Cond.instanceMethod yX2_copyFrom, Cond.initialized RX2, Cond.selects RX2 yX2_copyFrom yX2_copyFrom, Cond.code yX2_copyFrom cX2_copyFrom 2 none]
def wsX7_pass_r3 : List Cond := [Cond.fieldLink RX2 9 "DrawerSlips$Lately" "numbers" "[I", Cond.fieldLink RX2 13 "DrawerSlips$Lately" "waits" "[I", Cond.fieldLink RX2 16 "DrawerSlips$Lately" "sorts" "[I", Cond.fieldLink RX2 25 "DrawerSlips$Lately" "served" "I", Cond.instanceMethod yX0_stand, Cond.selects RX0 yX0_stand yX0_stand, Cond.code yX0_stand cX0_stand 2 (some .int), Cond.constant RX0 144 (99999), Cond.methodLink RX7 60 yX7_settled, Cond.instanceMethod yX7_settled, Cond.selects RX7 yX7_settled yX7_settled, Cond.code yX7_settled cX7_settled 2 (some .int), Cond.instanceMethod yX1_keep, Cond.selects RX1 yX1_keep yX1_keep, Cond.code yX1_keep cX1_keep 1 none, Cond.fieldLink RX1 28 "DrawerSlips$History" "kept" "I", Cond.methodLink RX1 31 Lib.Math.min.name, Cond.static Lib.Math.min.name, Cond.initialized "java/lang/Math", Cond.code Lib.Math.min.name Lib.Math.min.code 2 (some .int)]
def wsX7_pass : List Cond := .code yX7_pass cX7_pass 2 (some .int) :: ((wsX7_pass_r1 ++ (wsX7_pass_r2 ++ wsX7_pass_r3)) ++ wsX70 ++ wsX10 ++ wsX00 ++ wsX50 ++ wsX20)
def wsX7_of : List Cond := .code yX7_of cX7_of 4 (some .int) :: ([.fieldLink RX7 10 "DrawerSlips" "archive" "LDrawerSlips$Archive;", .instanceMethod yX0_find, .initialized RX0, .selects RX0 yX0_find yX0_find, .code yX0_find cX0_find 3 (some (.object "DrawerSlips$Slip")), .fieldLink RX0 34 "DrawerSlips$Archive" "places" "LDrawerSlips$Slip;", .instanceMethod yX5_last, .initialized RX5, .selects RX5 yX5_last yX5_last, .code yX5_last cX5_last 1 (some .int), .fieldLink RX5 24 "DrawerSlips$Slip" "first" "I", .fieldLink RX5 27 "DrawerSlips$Slip" "many" "I", .instanceMethod yX0_age, .selects RX0 yX0_age yX0_age, .code yX0_age cX0_age 2 (some .int), .fieldLink RX0 57 "DrawerSlips$Archive" "now" "I", .instanceMethod yX0_isTooOld, .selects RX0 yX0_isTooOld yX0_isTooOld, .code yX0_isTooOld cX0_isTooOld 2 (some .boolean), .fieldLink RX0 13 "DrawerSlips$Archive" "settings" "[I", .methodLink RX0 140 yX0_age, .static yX7_valueAt, .initialized RX7, .code yX7_valueAt cX7_valueAt 2 (some .int)] ++ wsX70 ++ wsX50 ++ wsX00)
def wsX7_waiting : List Cond := .code yX7_waiting cX7_waiting 4 (some .int) :: ([.fieldLink RX7 10 "DrawerSlips" "archive" "LDrawerSlips$Archive;", .instanceMethod yX0_ranked, .initialized RX0, .selects RX0 yX0_ranked yX0_ranked, .code yX0_ranked cX0_ranked 4 (some (.object "DrawerSlips$Slip")), .fieldLink RX0 34 "DrawerSlips$Archive" "places" "LDrawerSlips$Slip;", .instanceMethod yX5_isOfSort, .initialized RX5, .selects RX5 yX5_isOfSort yX5_isOfSort, .code yX5_isOfSort cX5_isOfSort 2 (some .boolean), .fieldLink RX5 13 "DrawerSlips$Slip" "waits" "Z", .fieldLink RX5 21 "DrawerSlips$Slip" "writes" "I", .methodLink RX0 153 yX0_slipsAheadOf, .instanceMethod yX0_slipsAheadOf, .selects RX0 yX0_slipsAheadOf yX0_slipsAheadOf, .code yX0_slipsAheadOf cX0_slipsAheadOf 4 (some .int), .instanceMethod yX5_isAheadOf, .selects RX5 yX5_isAheadOf yX5_isAheadOf, .code yX5_isAheadOf cX5_isAheadOf 2 (some .boolean), .fieldLink RX5 24 "DrawerSlips$Slip" "first" "I", .fieldLink RX5 17 "DrawerSlips$Slip" "number" "I"] ++ wsX70 ++ wsX50 ++ wsX00)
def wsX7_log_r1 : List Cond := [Cond.fieldLink RX7 10 "DrawerSlips" "archive" "LDrawerSlips$Archive;", Cond.instanceMethod yX2_has, Cond.initialized RX2, Cond.selects RX2 yX2_has yX2_has, Cond.code yX2_has cX2_has 2 (some .boolean), Cond.fieldLink RX2 25 "DrawerSlips$Lately" "served" "I", Cond.instanceMethod yX2_numberOf, Cond.selects RX2 yX2_numberOf yX2_numberOf, Cond.code yX2_numberOf cX2_numberOf 2 (some .int), Cond.fieldLink RX2 9 "DrawerSlips$Lately" "numbers" "[I", Cond.methodLink RX2 33 yX2_place, Cond.instanceMethod yX2_place, Cond.selects RX2 yX2_place yX2_place, Cond.code yX2_place cX2_place 2 (some .int), Cond.static yX7_valueAt, Cond.initialized RX7, Cond.code yX7_valueAt cX7_valueAt 2 (some .int), Cond.instanceMethod yX2_waitOf, Cond.selects RX2 yX2_waitOf yX2_waitOf, Cond.code yX2_waitOf cX2_waitOf 2 (some .int), Cond.fieldLink RX2 13 "DrawerSlips$Lately" "waits" "[I", Cond.instanceMethod yX2_sortOf, Cond.selects RX2 yX2_sortOf yX2_sortOf, Cond.code yX2_sortOf cX2_sortOf 2 (some .int)]
def wsX7_log_r2 : List Cond := [Cond.fieldLink RX2 16 "DrawerSlips$Lately" "sorts" "[I"]
def wsX7_log : List Cond := .code yX7_log cX7_log 3 (some .int) :: ((wsX7_log_r1 ++ wsX7_log_r2) ++ wsX70 ++ wsX00 ++ wsX20)
def wsX7_count : List Cond := .code yX7_count cX7_count 2 (some .int) :: ([.fieldLink RX7 39 "DrawerSlips" "pad" "LDrawerSlips$Pad;", .fieldLink RX7 22 "DrawerSlips" "history" "LDrawerSlips$History;", .fieldLink RX7 10 "DrawerSlips" "archive" "LDrawerSlips$Archive;", .instanceMethod yX0_amount, .initialized RX0, .selects RX0 yX0_amount yX0_amount, .code yX0_amount cX0_amount 2 (some .int), .fieldLink RX0 57 "DrawerSlips$Archive" "now" "I", .fieldLink RX0 47 "DrawerSlips$Archive" "readsWaiting" "I", .fieldLink RX0 51 "DrawerSlips$Archive" "writesWaiting" "I", .fieldLink RX0 60 "DrawerSlips$Archive" "arm" "I", .fieldLink RX0 21 "DrawerSlips$Archive" "lately" "LDrawerSlips$Lately;", .fieldLink RX0 63 "DrawerSlips$Archive" "longestWait" "I", .fieldLink RX0 66 "DrawerSlips$Archive" "drawersGone" "I", .fieldLink RX0 69 "DrawerSlips$Archive" "batches" "I", .fieldLink RX0 75 "DrawerSlips$Archive" "batchSlips" "I", .fieldLink RX0 78 "DrawerSlips$Archive" "readsAhead" "I", .fieldLink RX0 13 "DrawerSlips$Archive" "settings" "[I", .static yX7_isIndexOf, .initialized RX7, .code yX7_isIndexOf cX7_isIndexOf 2 (some .boolean), .static yX7_valueAt, .code yX7_valueAt cX7_valueAt 2 (some .int)] ++ wsX70 ++ wsX30 ++ wsX10 ++ wsX00 ++ wsX20)
def wsX7_next_r1 : List Cond := [Cond.fieldLink RX7 10 "DrawerSlips" "archive" "LDrawerSlips$Archive;", Cond.instanceMethod yX0_reason, Cond.initialized RX0, Cond.selects RX0 yX0_reason yX0_reason, Cond.code yX0_reason cX0_reason 4 (some .int), Cond.fieldLink RX0 69 "DrawerSlips$Archive" "batches" "I", Cond.fieldLink RX0 75 "DrawerSlips$Archive" "batchSlips" "I", Cond.fieldLink RX0 13 "DrawerSlips$Archive" "settings" "[I", Cond.fieldLink RX0 72 "DrawerSlips$Archive" "batchSort" "I", Cond.fieldLink RX0 60 "DrawerSlips$Archive" "arm" "I", Cond.static yX7_valueAt, Cond.initialized RX7, Cond.code yX7_valueAt cX7_valueAt 2 (some .int), Cond.methodLink RX0 163 yX0_leastFrom, Cond.instanceMethod yX0_leastFrom, Cond.selects RX0 yX0_leastFrom yX0_leastFrom, Cond.code yX0_leastFrom cX0_leastFrom 5 (some (.object "DrawerSlips$Slip")), Cond.fieldLink RX0 34 "DrawerSlips$Archive" "places" "LDrawerSlips$Slip;", Cond.instanceMethod yX5_isOfSort, Cond.initialized RX5, Cond.selects RX5 yX5_isOfSort yX5_isOfSort, Cond.code yX5_isOfSort cX5_isOfSort 2 (some .boolean), Cond.fieldLink RX5 13 "DrawerSlips$Slip" "waits" "Z", Cond.fieldLink RX5 21 "DrawerSlips$Slip" "writes" "I"]
def wsX7_next_r2 : List Cond := [Cond.instanceMethod yX5_isAheadOf, Cond.selects RX5 yX5_isAheadOf yX5_isAheadOf, Cond.code yX5_isAheadOf cX5_isAheadOf 2 (some .boolean), Cond.fieldLink RX5 24 "DrawerSlips$Slip" "first" "I", Cond.fieldLink RX5 17 "DrawerSlips$Slip" "number" "I", Cond.methodLink RX0 167 yX0_newSort, Cond.instanceMethod yX0_newSort, Cond.selects RX0 yX0_newSort yX0_newSort, Cond.code yX0_newSort cX0_newSort 1 (some .int), Cond.fieldLink RX0 51 "DrawerSlips$Archive" "writesWaiting" "I", Cond.fieldLink RX0 47 "DrawerSlips$Archive" "readsWaiting" "I", Cond.fieldLink RX0 78 "DrawerSlips$Archive" "readsAhead" "I", Cond.methodLink RX0 170 yX0_oldest, Cond.instanceMethod yX0_oldest, Cond.selects RX0 yX0_oldest yX0_oldest, Cond.code yX0_oldest cX0_oldest 4 (some (.object "DrawerSlips$Slip")), Cond.methodLink RX0 173 yX0_isTooOld, Cond.instanceMethod yX0_isTooOld, Cond.selects RX0 yX0_isTooOld yX0_isTooOld, Cond.code yX0_isTooOld cX0_isTooOld 2 (some .boolean), Cond.methodLink RX0 140 yX0_age, Cond.instanceMethod yX0_age, Cond.selects RX0 yX0_age yX0_age, Cond.code yX0_age cX0_age 2 (some .int)]
def wsX7_next_r3 : List Cond := [Cond.fieldLink RX0 57 "DrawerSlips$Archive" "now" "I", Cond.instanceMethod yX0_chosen, Cond.selects RX0 yX0_chosen yX0_chosen, Cond.code yX0_chosen cX0_chosen 2 (some (.object "DrawerSlips$Slip")), Cond.instanceMethod yX0_minutesFor, Cond.selects RX0 yX0_minutesFor yX0_minutesFor, Cond.code yX0_minutesFor cX0_minutesFor 2 (some .int), Cond.methodLink RX0 182 yX0_drawersTo, Cond.instanceMethod yX0_drawersTo, Cond.selects RX0 yX0_drawersTo yX0_drawersTo, Cond.code yX0_drawersTo cX0_drawersTo 2 (some .int), Cond.methodLink RX0 176 Lib.Math.abs.name, Cond.static Lib.Math.abs.name, Cond.initialized "java/lang/Math", Cond.code Lib.Math.abs.name Lib.Math.abs.code 1 (some .int)]
def wsX7_next : List Cond := .code yX7_next cX7_next 4 (some .int) :: ((wsX7_next_r1 ++ (wsX7_next_r2 ++ wsX7_next_r3)) ++ wsX70 ++ wsX50 ++ wsX00)
def wsX7_servedIn_r1 : List Cond := [Cond.fieldLink RX7 10 "DrawerSlips" "archive" "LDrawerSlips$Archive;", Cond.fieldLink RX7 16 "DrawerSlips" "trial" "LDrawerSlips$Archive;", Cond.instanceMethod yX0_find, Cond.initialized RX0, Cond.selects RX0 yX0_find yX0_find, Cond.code yX0_find cX0_find 3 (some (.object "DrawerSlips$Slip")), Cond.fieldLink RX0 34 "DrawerSlips$Archive" "places" "LDrawerSlips$Slip;", Cond.instanceMethod yX0_copyFrom, Cond.selects RX0 yX0_copyFrom yX0_copyFrom, Cond.code yX0_copyFrom cX0_copyFrom 4 none, Cond.fieldLink RX0 13 "DrawerSlips$Archive" "settings" "[I", Cond.fieldLink RX0 21 "DrawerSlips$Archive" "lately" "LDrawerSlips$Lately;", Cond.fieldLink RX0 47 "DrawerSlips$Archive" "readsWaiting" "I", Cond.fieldLink RX0 51 "DrawerSlips$Archive" "writesWaiting" "I", Cond.fieldLink RX0 54 "DrawerSlips$Archive" "nextNumber" "I", Cond.fieldLink RX0 57 "DrawerSlips$Archive" "now" "I", Cond.fieldLink RX0 60 "DrawerSlips$Archive" "arm" "I", Cond.fieldLink RX0 63 "DrawerSlips$Archive" "longestWait" "I", Cond.fieldLink RX0 66 "DrawerSlips$Archive" "drawersGone" "I", Cond.fieldLink RX0 69 "DrawerSlips$Archive" "batches" "I", Cond.fieldLink RX0 72 "DrawerSlips$Archive" "batchSort" "I", Cond.fieldLink RX0 75 "DrawerSlips$Archive" "batchSlips" "I", Cond.fieldLink RX0 78 "DrawerSlips$Archive" "readsAhead" "I", Cond.static yX7_copyRow]
def wsX7_servedIn_r2 : List Cond := [Cond.initialized RX7, Cond.code yX7_copyRow cX7_copyRow 3 none, Cond.instanceMethod yX5_copyFrom, Cond.initialized RX5, Cond.selects RX5 yX5_copyFrom yX5_copyFrom, Cond.code yX5_copyFrom cX5_copyFrom 2 none, Cond.fieldLink RX5 13 "DrawerSlips$Slip" "waits" "Z", Cond.fieldLink RX5 17 "DrawerSlips$Slip" "number" "I", Cond.fieldLink RX5 21 "DrawerSlips$Slip" "writes" "I", Cond.fieldLink RX5 24 "DrawerSlips$Slip" "first" "I", Cond.fieldLink RX5 27 "DrawerSlips$Slip" "many" "I", Cond.fieldLink RX5 30 "DrawerSlips$Slip" "came" "I", Cond.fieldLink RX5 33 "DrawerSlips$Slip" "joins" "I", Cond.instanceMethod yX2_copyFrom, Cond.initialized RX2, Cond.selects RX2 yX2_copyFrom yX2_copyFrom, Cond.code yX2_copyFrom cX2_copyFrom 2 none, Cond.fieldLink RX2 9 "DrawerSlips$Lately" "numbers" "[I", Cond.fieldLink RX2 13 "DrawerSlips$Lately" "waits" "[I", Cond.fieldLink RX2 16 "DrawerSlips$Lately" "sorts" "[I", Cond.fieldLink RX2 25 "DrawerSlips$Lately" "served" "I", Cond.instanceMethod yX0_serveNext, Cond.selects RX0 yX0_serveNext yX0_serveNext, Cond.code yX0_serveNext cX0_serveNext 3 none]
def wsX7_servedIn_r3 : List Cond := [Cond.methodLink RX0 198 Lib.Math.min.name, Cond.static Lib.Math.min.name, Cond.initialized "java/lang/Math", Cond.code Lib.Math.min.name Lib.Math.min.code 2 (some .int), Cond.methodLink RX0 202 Lib.Math.max.name, Cond.static Lib.Math.max.name, Cond.code Lib.Math.max.name Lib.Math.max.code 2 (some .int), Cond.methodLink RX0 185 yX0_reason, Cond.instanceMethod yX0_reason, Cond.selects RX0 yX0_reason yX0_reason, Cond.code yX0_reason cX0_reason 4 (some .int), Cond.static yX7_valueAt, Cond.code yX7_valueAt cX7_valueAt 2 (some .int), Cond.methodLink RX0 163 yX0_leastFrom, Cond.instanceMethod yX0_leastFrom, Cond.selects RX0 yX0_leastFrom yX0_leastFrom, Cond.code yX0_leastFrom cX0_leastFrom 5 (some (.object "DrawerSlips$Slip")), Cond.instanceMethod yX5_isOfSort, Cond.selects RX5 yX5_isOfSort yX5_isOfSort, Cond.code yX5_isOfSort cX5_isOfSort 2 (some .boolean), Cond.instanceMethod yX5_isAheadOf, Cond.selects RX5 yX5_isAheadOf yX5_isAheadOf, Cond.code yX5_isAheadOf cX5_isAheadOf 2 (some .boolean), Cond.methodLink RX0 167 yX0_newSort]
def wsX7_servedIn_r4 : List Cond := [Cond.instanceMethod yX0_newSort, Cond.selects RX0 yX0_newSort yX0_newSort, Cond.code yX0_newSort cX0_newSort 1 (some .int), Cond.methodLink RX0 170 yX0_oldest, Cond.instanceMethod yX0_oldest, Cond.selects RX0 yX0_oldest yX0_oldest, Cond.code yX0_oldest cX0_oldest 4 (some (.object "DrawerSlips$Slip")), Cond.methodLink RX0 173 yX0_isTooOld, Cond.instanceMethod yX0_isTooOld, Cond.selects RX0 yX0_isTooOld yX0_isTooOld, Cond.code yX0_isTooOld cX0_isTooOld 2 (some .boolean), Cond.methodLink RX0 140 yX0_age, Cond.instanceMethod yX0_age, Cond.selects RX0 yX0_age yX0_age, Cond.code yX0_age cX0_age 2 (some .int), Cond.methodLink RX0 188 yX0_chosen, Cond.instanceMethod yX0_chosen, Cond.selects RX0 yX0_chosen yX0_chosen, Cond.code yX0_chosen cX0_chosen 2 (some (.object "DrawerSlips$Slip")), Cond.methodLink RX0 191 yX0_beginBatch, Cond.instanceMethod yX0_beginBatch, Cond.selects RX0 yX0_beginBatch yX0_beginBatch, Cond.code yX0_beginBatch cX0_beginBatch 2 none, Cond.methodLink RX0 195 yX0_minutesFor]
def wsX7_servedIn_r5 : List Cond := [Cond.instanceMethod yX0_minutesFor, Cond.selects RX0 yX0_minutesFor yX0_minutesFor, Cond.code yX0_minutesFor cX0_minutesFor 2 (some .int), Cond.methodLink RX0 182 yX0_drawersTo, Cond.instanceMethod yX0_drawersTo, Cond.selects RX0 yX0_drawersTo yX0_drawersTo, Cond.code yX0_drawersTo cX0_drawersTo 2 (some .int), Cond.methodLink RX0 176 Lib.Math.abs.name, Cond.static Lib.Math.abs.name, Cond.code Lib.Math.abs.name Lib.Math.abs.code 1 (some .int), Cond.instanceMethod yX5_last, Cond.selects RX5 yX5_last yX5_last, Cond.code yX5_last cX5_last 1 (some .int), Cond.methodLink RX0 137 yX0_remove, Cond.instanceMethod yX0_remove, Cond.selects RX0 yX0_remove yX0_remove, Cond.code yX0_remove cX0_remove 2 none, Cond.methodLink RX0 129 yX0_countWaiting, Cond.instanceMethod yX0_countWaiting, Cond.selects RX0 yX0_countWaiting yX0_countWaiting, Cond.code yX0_countWaiting cX0_countWaiting 3 none, Cond.instanceMethod yX2_append, Cond.selects RX2 yX2_append yX2_append, Cond.code yX2_append cX2_append 5 none]
def wsX7_servedIn_r6 : List Cond := [Cond.static yX7_isIndexOf, Cond.code yX7_isIndexOf cX7_isIndexOf 2 (some .boolean)]
def wsX7_servedIn : List Cond := .code yX7_servedIn cX7_servedIn 3 (some .int) :: ((wsX7_servedIn_r1 ++ (wsX7_servedIn_r2 ++ (wsX7_servedIn_r3 ++ (wsX7_servedIn_r4 ++ (wsX7_servedIn_r5 ++ wsX7_servedIn_r6))))) ++ wsX70 ++ wsX00 ++ wsX50 ++ wsX20)
def wsX7_all_r1 : List Cond := [Cond.fieldLink RX7 10 "DrawerSlips" "archive" "LDrawerSlips$Archive;", Cond.fieldLink RX7 16 "DrawerSlips" "trial" "LDrawerSlips$Archive;", Cond.instanceMethod yX0_slipsThatWait, Cond.initialized RX0, Cond.selects RX0 yX0_slipsThatWait yX0_slipsThatWait, Cond.code yX0_slipsThatWait cX0_slipsThatWait 1 (some .int), Cond.fieldLink RX0 47 "DrawerSlips$Archive" "readsWaiting" "I", Cond.fieldLink RX0 51 "DrawerSlips$Archive" "writesWaiting" "I", Cond.instanceMethod yX0_copyFrom, Cond.selects RX0 yX0_copyFrom yX0_copyFrom, Cond.code yX0_copyFrom cX0_copyFrom 4 none, Cond.fieldLink RX0 13 "DrawerSlips$Archive" "settings" "[I", Cond.fieldLink RX0 34 "DrawerSlips$Archive" "places" "LDrawerSlips$Slip;", Cond.fieldLink RX0 21 "DrawerSlips$Archive" "lately" "LDrawerSlips$Lately;", Cond.fieldLink RX0 54 "DrawerSlips$Archive" "nextNumber" "I", Cond.fieldLink RX0 57 "DrawerSlips$Archive" "now" "I", Cond.fieldLink RX0 60 "DrawerSlips$Archive" "arm" "I", Cond.fieldLink RX0 63 "DrawerSlips$Archive" "longestWait" "I", Cond.fieldLink RX0 66 "DrawerSlips$Archive" "drawersGone" "I", Cond.fieldLink RX0 69 "DrawerSlips$Archive" "batches" "I", Cond.fieldLink RX0 72 "DrawerSlips$Archive" "batchSort" "I", Cond.fieldLink RX0 75 "DrawerSlips$Archive" "batchSlips" "I", Cond.fieldLink RX0 78 "DrawerSlips$Archive" "readsAhead" "I", Cond.static yX7_copyRow]
def wsX7_all_r2 : List Cond := [Cond.initialized RX7, Cond.code yX7_copyRow cX7_copyRow 3 none, Cond.instanceMethod yX5_copyFrom, Cond.initialized RX5, Cond.selects RX5 yX5_copyFrom yX5_copyFrom, Cond.code yX5_copyFrom cX5_copyFrom 2 none, Cond.fieldLink RX5 13 "DrawerSlips$Slip" "waits" "Z", Cond.fieldLink RX5 17 "DrawerSlips$Slip" "number" "I", Cond.fieldLink RX5 21 "DrawerSlips$Slip" "writes" "I", Cond.fieldLink RX5 24 "DrawerSlips$Slip" "first" "I", Cond.fieldLink RX5 27 "DrawerSlips$Slip" "many" "I", Cond.fieldLink RX5 30 "DrawerSlips$Slip" "came" "I", Cond.fieldLink RX5 33 "DrawerSlips$Slip" "joins" "I", Cond.instanceMethod yX2_copyFrom, Cond.initialized RX2, Cond.selects RX2 yX2_copyFrom yX2_copyFrom, Cond.code yX2_copyFrom cX2_copyFrom 2 none, Cond.fieldLink RX2 9 "DrawerSlips$Lately" "numbers" "[I", Cond.fieldLink RX2 13 "DrawerSlips$Lately" "waits" "[I", Cond.fieldLink RX2 16 "DrawerSlips$Lately" "sorts" "[I", Cond.fieldLink RX2 25 "DrawerSlips$Lately" "served" "I", Cond.instanceMethod yX0_serveNext, Cond.selects RX0 yX0_serveNext yX0_serveNext, Cond.code yX0_serveNext cX0_serveNext 3 none]
def wsX7_all_r3 : List Cond := [Cond.methodLink RX0 198 Lib.Math.min.name, Cond.static Lib.Math.min.name, Cond.initialized "java/lang/Math", Cond.code Lib.Math.min.name Lib.Math.min.code 2 (some .int), Cond.methodLink RX0 202 Lib.Math.max.name, Cond.static Lib.Math.max.name, Cond.code Lib.Math.max.name Lib.Math.max.code 2 (some .int), Cond.methodLink RX0 185 yX0_reason, Cond.instanceMethod yX0_reason, Cond.selects RX0 yX0_reason yX0_reason, Cond.code yX0_reason cX0_reason 4 (some .int), Cond.static yX7_valueAt, Cond.code yX7_valueAt cX7_valueAt 2 (some .int), Cond.methodLink RX0 163 yX0_leastFrom, Cond.instanceMethod yX0_leastFrom, Cond.selects RX0 yX0_leastFrom yX0_leastFrom, Cond.code yX0_leastFrom cX0_leastFrom 5 (some (.object "DrawerSlips$Slip")), Cond.instanceMethod yX5_isOfSort, Cond.selects RX5 yX5_isOfSort yX5_isOfSort, Cond.code yX5_isOfSort cX5_isOfSort 2 (some .boolean), Cond.instanceMethod yX5_isAheadOf, Cond.selects RX5 yX5_isAheadOf yX5_isAheadOf, Cond.code yX5_isAheadOf cX5_isAheadOf 2 (some .boolean), Cond.methodLink RX0 167 yX0_newSort]
def wsX7_all_r4 : List Cond := [Cond.instanceMethod yX0_newSort, Cond.selects RX0 yX0_newSort yX0_newSort, Cond.code yX0_newSort cX0_newSort 1 (some .int), Cond.methodLink RX0 170 yX0_oldest, Cond.instanceMethod yX0_oldest, Cond.selects RX0 yX0_oldest yX0_oldest, Cond.code yX0_oldest cX0_oldest 4 (some (.object "DrawerSlips$Slip")), Cond.methodLink RX0 173 yX0_isTooOld, Cond.instanceMethod yX0_isTooOld, Cond.selects RX0 yX0_isTooOld yX0_isTooOld, Cond.code yX0_isTooOld cX0_isTooOld 2 (some .boolean), Cond.methodLink RX0 140 yX0_age, Cond.instanceMethod yX0_age, Cond.selects RX0 yX0_age yX0_age, Cond.code yX0_age cX0_age 2 (some .int), Cond.methodLink RX0 188 yX0_chosen, Cond.instanceMethod yX0_chosen, Cond.selects RX0 yX0_chosen yX0_chosen, Cond.code yX0_chosen cX0_chosen 2 (some (.object "DrawerSlips$Slip")), Cond.methodLink RX0 191 yX0_beginBatch, Cond.instanceMethod yX0_beginBatch, Cond.selects RX0 yX0_beginBatch yX0_beginBatch, Cond.code yX0_beginBatch cX0_beginBatch 2 none, Cond.methodLink RX0 195 yX0_minutesFor]
def wsX7_all_r5 : List Cond := [Cond.instanceMethod yX0_minutesFor, Cond.selects RX0 yX0_minutesFor yX0_minutesFor, Cond.code yX0_minutesFor cX0_minutesFor 2 (some .int), Cond.methodLink RX0 182 yX0_drawersTo, Cond.instanceMethod yX0_drawersTo, Cond.selects RX0 yX0_drawersTo yX0_drawersTo, Cond.code yX0_drawersTo cX0_drawersTo 2 (some .int), Cond.methodLink RX0 176 Lib.Math.abs.name, Cond.static Lib.Math.abs.name, Cond.code Lib.Math.abs.name Lib.Math.abs.code 1 (some .int), Cond.instanceMethod yX5_last, Cond.selects RX5 yX5_last yX5_last, Cond.code yX5_last cX5_last 1 (some .int), Cond.methodLink RX0 137 yX0_remove, Cond.instanceMethod yX0_remove, Cond.selects RX0 yX0_remove yX0_remove, Cond.code yX0_remove cX0_remove 2 none, Cond.methodLink RX0 129 yX0_countWaiting, Cond.instanceMethod yX0_countWaiting, Cond.selects RX0 yX0_countWaiting yX0_countWaiting, Cond.code yX0_countWaiting cX0_countWaiting 3 none, Cond.instanceMethod yX2_append, Cond.selects RX2 yX2_append yX2_append, Cond.code yX2_append cX2_append 5 none]
def wsX7_all_r6 : List Cond := [Cond.static yX7_isIndexOf, Cond.code yX7_isIndexOf cX7_isIndexOf 2 (some .boolean)]
def wsX7_all : List Cond := .code yX7_all cX7_all 4 (some .int) :: ((wsX7_all_r1 ++ (wsX7_all_r2 ++ (wsX7_all_r3 ++ (wsX7_all_r4 ++ (wsX7_all_r5 ++ wsX7_all_r6))))) ++ wsX70 ++ wsX00 ++ wsX50 ++ wsX20)
def wsX7_joined : List Cond := .code yX7_joined cX7_joined 5 (some .int) :: ([.fieldLink RX7 10 "DrawerSlips" "archive" "LDrawerSlips$Archive;", .methodLink RX7 176 yX7_isSlip, .static yX7_isSlip, .initialized RX7, .code yX7_isSlip cX7_isSlip 3 (some .boolean), .instanceMethod yX0_hostFor, .initialized RX0, .selects RX0 yX0_hostFor yX0_hostFor, .code yX0_hostFor cX0_hostFor 7 (some (.object "DrawerSlips$Slip")), .fieldLink RX0 34 "DrawerSlips$Archive" "places" "LDrawerSlips$Slip;", .instanceMethod yX5_isOfSort, .initialized RX5, .selects RX5 yX5_isOfSort yX5_isOfSort, .code yX5_isOfSort cX5_isOfSort 2 (some .boolean), .fieldLink RX5 13 "DrawerSlips$Slip" "waits" "Z", .fieldLink RX5 21 "DrawerSlips$Slip" "writes" "I", .instanceMethod yX5_last, .selects RX5 yX5_last yX5_last, .code yX5_last cX5_last 1 (some .int), .fieldLink RX5 24 "DrawerSlips$Slip" "first" "I", .fieldLink RX5 27 "DrawerSlips$Slip" "many" "I"] ++ wsX70 ++ wsX50 ++ wsX00)
def wsX7_put : List Cond := .code yX7_put cX7_put 3 (some .int) :: ([.fieldLink RX7 39 "DrawerSlips" "pad" "LDrawerSlips$Pad;", .instanceMethod yX3_append, .initialized RX3, .selects RX3 yX3_append yX3_append, .code yX3_append cX3_append 5 (some .int), .fieldLink RX3 15 "DrawerSlips$Pad" "length" "I", .methodLink RX3 23 yX3_signsIn, .static yX3_signsIn, .code yX3_signsIn cX3_signsIn 6 (some .int), .methodLink RX3 27 yX3_add, .instanceMethod yX3_add, .selects RX3 yX3_add yX3_add, .code yX3_add cX3_add 2 none, .fieldLink RX3 11 "DrawerSlips$Pad" "signs" "[I", .static yX7_isIndexOf, .initialized RX7, .code yX7_isIndexOf cX7_isIndexOf 2 (some .boolean)] ++ wsX70 ++ wsX30)
def wsX7_wipe : List Cond := .code yX7_wipe cX7_wipe 1 (some .int) :: ([.fieldLink RX7 39 "DrawerSlips" "pad" "LDrawerSlips$Pad;", .instanceMethod yX3_empty, .initialized RX3, .selects RX3 yX3_empty yX3_empty, .code yX3_empty cX3_empty 2 (some .int), .fieldLink RX3 15 "DrawerSlips$Pad" "length" "I"] ++ wsX70 ++ wsX30)
def wsX7_fault_r1 : List Cond := [Cond.fieldLink RX7 48 "DrawerSlips" "reader" "LDrawerSlips$Reader;", Cond.instanceMethod yX4_findFault, Cond.initialized RX4, Cond.selects RX4 yX4_findFault yX4_findFault, Cond.code yX4_findFault cX4_findFault 2 (some .int), Cond.fieldLink RX4 15 "DrawerSlips$Reader" "at" "I", Cond.fieldLink RX4 9 "DrawerSlips$Reader" "pad" "LDrawerSlips$Pad;", Cond.methodLink RX4 19 yX4_begin, Cond.instanceMethod yX4_begin, Cond.selects RX4 yX4_begin yX4_begin, Cond.code yX4_begin cX4_begin 1 none, Cond.methodLink RX4 22 yX4_readOrder, Cond.instanceMethod yX4_readOrder, Cond.selects RX4 yX4_readOrder yX4_readOrder, Cond.code yX4_readOrder cX4_readOrder 2 (some .boolean), Cond.fieldLink RX4 38 "DrawerSlips$Reader" "kind" "I", Cond.fieldLink RX4 41 "DrawerSlips$Reader" "more" "I", Cond.instanceMethod yX3_signAt, Cond.initialized RX3, Cond.selects RX3 yX3_signAt yX3_signAt, Cond.code yX3_signAt cX3_signAt 2 (some .int), Cond.fieldLink RX3 15 "DrawerSlips$Pad" "length" "I", Cond.fieldLink RX3 11 "DrawerSlips$Pad" "signs" "[I", Cond.static yX7_valueAt]
def wsX7_fault_r2 : List Cond := [Cond.initialized RX7, Cond.code yX7_valueAt cX7_valueAt 2 (some .int), Cond.methodLink RX4 44 yX4_readNumber, Cond.instanceMethod yX4_readNumber, Cond.selects RX4 yX4_readNumber yX4_readNumber, Cond.code yX4_readNumber cX4_readNumber 1 (some .boolean), Cond.fieldLink RX4 57 "DrawerSlips$Reader" "number" "I", Cond.methodLink RX4 50 yX4_isDigitNext, Cond.instanceMethod yX4_isDigitNext, Cond.selects RX4 yX4_isDigitNext yX4_isDigitNext, Cond.code yX4_isDigitNext cX4_isDigitNext 2 (some .boolean), Cond.methodLink RX4 53 yX4_takeDigit, Cond.instanceMethod yX4_takeDigit, Cond.selects RX4 yX4_takeDigit yX4_takeDigit, Cond.code yX4_takeDigit cX4_takeDigit 2 (some .int), Cond.methodLink RX4 47 yX4_readMore, Cond.instanceMethod yX4_readMore, Cond.selects RX4 yX4_readMore yX4_readMore, Cond.code yX4_readMore cX4_readMore 1 (some .boolean), Cond.methodLink RX4 35 yX4_skipSemicolon, Cond.instanceMethod yX4_skipSemicolon, Cond.selects RX4 yX4_skipSemicolon yX4_skipSemicolon, Cond.code yX4_skipSemicolon cX4_skipSemicolon 1 none]
def wsX7_fault : List Cond := .code yX7_fault cX7_fault 1 (some .int) :: ((wsX7_fault_r1 ++ wsX7_fault_r2) ++ wsX70 ++ wsX40 ++ wsX30)
def wsX7_obey_r1 : List Cond := [Cond.fieldLink RX7 48 "DrawerSlips" "reader" "LDrawerSlips$Reader;", Cond.fieldLink RX7 10 "DrawerSlips" "archive" "LDrawerSlips$Archive;", Cond.instanceMethod yX0_accept, Cond.initialized RX0, Cond.selects RX0 yX0_accept yX0_accept, Cond.code yX0_accept cX0_accept 6 (some .int), Cond.fieldLink RX0 54 "DrawerSlips$Archive" "nextNumber" "I", Cond.fieldLink RX0 57 "DrawerSlips$Archive" "now" "I", Cond.static yX7_isSlip, Cond.initialized RX7, Cond.code yX7_isSlip cX7_isSlip 3 (some .boolean), Cond.methodLink RX0 99 yX0_hostFor, Cond.instanceMethod yX0_hostFor, Cond.selects RX0 yX0_hostFor yX0_hostFor, Cond.code yX0_hostFor cX0_hostFor 7 (some (.object "DrawerSlips$Slip")), Cond.fieldLink RX0 34 "DrawerSlips$Archive" "places" "LDrawerSlips$Slip;", Cond.instanceMethod yX5_isOfSort, Cond.initialized RX5, Cond.selects RX5 yX5_isOfSort yX5_isOfSort, Cond.code yX5_isOfSort cX5_isOfSort 2 (some .boolean), Cond.fieldLink RX5 13 "DrawerSlips$Slip" "waits" "Z", Cond.fieldLink RX5 21 "DrawerSlips$Slip" "writes" "I", Cond.instanceMethod yX5_last, Cond.selects RX5 yX5_last yX5_last]
def wsX7_obey_r2 : List Cond := [Cond.code yX5_last cX5_last 1 (some .int), Cond.fieldLink RX5 24 "DrawerSlips$Slip" "first" "I", Cond.fieldLink RX5 27 "DrawerSlips$Slip" "many" "I", Cond.methodLink RX0 112 yX0_freePlace, Cond.instanceMethod yX0_freePlace, Cond.selects RX0 yX0_freePlace yX0_freePlace, Cond.code yX0_freePlace cX0_freePlace 2 (some (.object "DrawerSlips$Slip")), Cond.methodLink RX0 129 yX0_countWaiting, Cond.instanceMethod yX0_countWaiting, Cond.selects RX0 yX0_countWaiting yX0_countWaiting, Cond.code yX0_countWaiting cX0_countWaiting 3 none, Cond.fieldLink RX0 51 "DrawerSlips$Archive" "writesWaiting" "I", Cond.fieldLink RX0 47 "DrawerSlips$Archive" "readsWaiting" "I", Cond.methodLink RX7 71 yX7_serveSlips, Cond.instanceMethod yX7_serveSlips, Cond.selects RX7 yX7_serveSlips yX7_serveSlips, Cond.code yX7_serveSlips cX7_serveSlips 4 (some .int), Cond.methodLink RX7 84 Lib.Math.min.name, Cond.static Lib.Math.min.name, Cond.initialized "java/lang/Math", Cond.code Lib.Math.min.name Lib.Math.min.code 2 (some .int), Cond.fieldLink RX7 16 "DrawerSlips" "trial" "LDrawerSlips$Archive;", Cond.constant RX7 99 (99999), Cond.instanceMethod yX0_slipsThatWait]
def wsX7_obey_r3 : List Cond := [Cond.selects RX0 yX0_slipsThatWait yX0_slipsThatWait, Cond.code yX0_slipsThatWait cX0_slipsThatWait 1 (some .int), Cond.instanceMethod yX0_copyFrom, Cond.selects RX0 yX0_copyFrom yX0_copyFrom, Cond.code yX0_copyFrom cX0_copyFrom 4 none, Cond.fieldLink RX0 13 "DrawerSlips$Archive" "settings" "[I", Cond.fieldLink RX0 21 "DrawerSlips$Archive" "lately" "LDrawerSlips$Lately;", Cond.fieldLink RX0 60 "DrawerSlips$Archive" "arm" "I", Cond.fieldLink RX0 63 "DrawerSlips$Archive" "longestWait" "I", Cond.fieldLink RX0 66 "DrawerSlips$Archive" "drawersGone" "I", Cond.fieldLink RX0 69 "DrawerSlips$Archive" "batches" "I", Cond.fieldLink RX0 72 "DrawerSlips$Archive" "batchSort" "I", Cond.fieldLink RX0 75 "DrawerSlips$Archive" "batchSlips" "I", Cond.fieldLink RX0 78 "DrawerSlips$Archive" "readsAhead" "I", Cond.static yX7_copyRow, Cond.code yX7_copyRow cX7_copyRow 3 none, Cond.instanceMethod yX5_copyFrom, Cond.selects RX5 yX5_copyFrom yX5_copyFrom, Cond.code yX5_copyFrom cX5_copyFrom 2 none, Cond.fieldLink RX5 17 "DrawerSlips$Slip" "number" "I", Cond.fieldLink RX5 30 "DrawerSlips$Slip" "came" "I", Cond.fieldLink RX5 33 "DrawerSlips$Slip" "joins" "I", Cond.instanceMethod yX2_copyFrom, Cond.initialized RX2]
def wsX7_obey_r4 : List Cond := [Cond.selects RX2 yX2_copyFrom yX2_copyFrom, Cond.code yX2_copyFrom cX2_copyFrom 2 none, Cond.fieldLink RX2 9 "DrawerSlips$Lately" "numbers" "[I", Cond.fieldLink RX2 13 "DrawerSlips$Lately" "waits" "[I", Cond.fieldLink RX2 16 "DrawerSlips$Lately" "sorts" "[I", Cond.fieldLink RX2 25 "DrawerSlips$Lately" "served" "I", Cond.instanceMethod yX0_serveNext, Cond.selects RX0 yX0_serveNext yX0_serveNext, Cond.code yX0_serveNext cX0_serveNext 3 none, Cond.methodLink RX0 198 Lib.Math.min.name, Cond.methodLink RX0 202 Lib.Math.max.name, Cond.static Lib.Math.max.name, Cond.code Lib.Math.max.name Lib.Math.max.code 2 (some .int), Cond.methodLink RX0 185 yX0_reason, Cond.instanceMethod yX0_reason, Cond.selects RX0 yX0_reason yX0_reason, Cond.code yX0_reason cX0_reason 4 (some .int), Cond.static yX7_valueAt, Cond.code yX7_valueAt cX7_valueAt 2 (some .int), Cond.methodLink RX0 163 yX0_leastFrom, Cond.instanceMethod yX0_leastFrom, Cond.selects RX0 yX0_leastFrom yX0_leastFrom, Cond.code yX0_leastFrom cX0_leastFrom 5 (some (.object "DrawerSlips$Slip")), Cond.instanceMethod yX5_isAheadOf]
def wsX7_obey_r5 : List Cond := [Cond.selects RX5 yX5_isAheadOf yX5_isAheadOf, Cond.code yX5_isAheadOf cX5_isAheadOf 2 (some .boolean), Cond.methodLink RX0 167 yX0_newSort, Cond.instanceMethod yX0_newSort, Cond.selects RX0 yX0_newSort yX0_newSort, Cond.code yX0_newSort cX0_newSort 1 (some .int), Cond.methodLink RX0 170 yX0_oldest, Cond.instanceMethod yX0_oldest, Cond.selects RX0 yX0_oldest yX0_oldest, Cond.code yX0_oldest cX0_oldest 4 (some (.object "DrawerSlips$Slip")), Cond.methodLink RX0 173 yX0_isTooOld, Cond.instanceMethod yX0_isTooOld, Cond.selects RX0 yX0_isTooOld yX0_isTooOld, Cond.code yX0_isTooOld cX0_isTooOld 2 (some .boolean), Cond.methodLink RX0 140 yX0_age, Cond.instanceMethod yX0_age, Cond.selects RX0 yX0_age yX0_age, Cond.code yX0_age cX0_age 2 (some .int), Cond.methodLink RX0 188 yX0_chosen, Cond.instanceMethod yX0_chosen, Cond.selects RX0 yX0_chosen yX0_chosen, Cond.code yX0_chosen cX0_chosen 2 (some (.object "DrawerSlips$Slip")), Cond.methodLink RX0 191 yX0_beginBatch, Cond.instanceMethod yX0_beginBatch]
def wsX7_obey_r6 : List Cond := [Cond.selects RX0 yX0_beginBatch yX0_beginBatch, Cond.code yX0_beginBatch cX0_beginBatch 2 none, Cond.methodLink RX0 195 yX0_minutesFor, Cond.instanceMethod yX0_minutesFor, Cond.selects RX0 yX0_minutesFor yX0_minutesFor, Cond.code yX0_minutesFor cX0_minutesFor 2 (some .int), Cond.methodLink RX0 182 yX0_drawersTo, Cond.instanceMethod yX0_drawersTo, Cond.selects RX0 yX0_drawersTo yX0_drawersTo, Cond.code yX0_drawersTo cX0_drawersTo 2 (some .int), Cond.methodLink RX0 176 Lib.Math.abs.name, Cond.static Lib.Math.abs.name, Cond.code Lib.Math.abs.name Lib.Math.abs.code 1 (some .int), Cond.methodLink RX0 137 yX0_remove, Cond.instanceMethod yX0_remove, Cond.selects RX0 yX0_remove yX0_remove, Cond.code yX0_remove cX0_remove 2 none, Cond.instanceMethod yX2_append, Cond.selects RX2 yX2_append yX2_append, Cond.code yX2_append cX2_append 5 none, Cond.static yX7_isIndexOf, Cond.code yX7_isIndexOf cX7_isIndexOf 2 (some .boolean), Cond.instanceMethod yX0_stand, Cond.selects RX0 yX0_stand yX0_stand]
def wsX7_obey_r7 : List Cond := [Cond.code yX0_stand cX0_stand 2 (some .int), Cond.constant RX0 144 (99999)]
def wsX7_obey : List Cond := .code yX7_obey cX7_obey 1 (some .int) :: ((wsX7_obey_r1 ++ (wsX7_obey_r2 ++ (wsX7_obey_r3 ++ (wsX7_obey_r4 ++ (wsX7_obey_r5 ++ (wsX7_obey_r6 ++ wsX7_obey_r7)))))) ++ wsX70 ++ wsX40 ++ wsX50 ++ wsX00 ++ wsX20)
def wsX7_carryOut_r1 : List Cond := [Cond.fieldLink RX7 48 "DrawerSlips" "reader" "LDrawerSlips$Reader;", Cond.fieldLink RX7 22 "DrawerSlips" "history" "LDrawerSlips$History;", Cond.fieldLink RX7 10 "DrawerSlips" "archive" "LDrawerSlips$Archive;", Cond.fieldLink RX7 39 "DrawerSlips" "pad" "LDrawerSlips$Pad;", Cond.instanceMethod yX4_findFault, Cond.initialized RX4, Cond.selects RX4 yX4_findFault yX4_findFault, Cond.code yX4_findFault cX4_findFault 2 (some .int), Cond.fieldLink RX4 15 "DrawerSlips$Reader" "at" "I", Cond.fieldLink RX4 9 "DrawerSlips$Reader" "pad" "LDrawerSlips$Pad;", Cond.methodLink RX4 19 yX4_begin, Cond.instanceMethod yX4_begin, Cond.selects RX4 yX4_begin yX4_begin, Cond.code yX4_begin cX4_begin 1 none, Cond.methodLink RX4 22 yX4_readOrder, Cond.instanceMethod yX4_readOrder, Cond.selects RX4 yX4_readOrder yX4_readOrder, Cond.code yX4_readOrder cX4_readOrder 2 (some .boolean), Cond.fieldLink RX4 38 "DrawerSlips$Reader" "kind" "I", Cond.fieldLink RX4 41 "DrawerSlips$Reader" "more" "I", Cond.instanceMethod yX3_signAt, Cond.initialized RX3, Cond.selects RX3 yX3_signAt yX3_signAt, Cond.code yX3_signAt cX3_signAt 2 (some .int)]
def wsX7_carryOut_r2 : List Cond := [Cond.fieldLink RX3 15 "DrawerSlips$Pad" "length" "I", Cond.fieldLink RX3 11 "DrawerSlips$Pad" "signs" "[I", Cond.static yX7_valueAt, Cond.initialized RX7, Cond.code yX7_valueAt cX7_valueAt 2 (some .int), Cond.methodLink RX4 44 yX4_readNumber, Cond.instanceMethod yX4_readNumber, Cond.selects RX4 yX4_readNumber yX4_readNumber, Cond.code yX4_readNumber cX4_readNumber 1 (some .boolean), Cond.fieldLink RX4 57 "DrawerSlips$Reader" "number" "I", Cond.methodLink RX4 50 yX4_isDigitNext, Cond.instanceMethod yX4_isDigitNext, Cond.selects RX4 yX4_isDigitNext yX4_isDigitNext, Cond.code yX4_isDigitNext cX4_isDigitNext 2 (some .boolean), Cond.methodLink RX4 53 yX4_takeDigit, Cond.instanceMethod yX4_takeDigit, Cond.selects RX4 yX4_takeDigit yX4_takeDigit, Cond.code yX4_takeDigit cX4_takeDigit 2 (some .int), Cond.methodLink RX4 47 yX4_readMore, Cond.instanceMethod yX4_readMore, Cond.selects RX4 yX4_readMore yX4_readMore, Cond.code yX4_readMore cX4_readMore 1 (some .boolean), Cond.methodLink RX4 35 yX4_skipSemicolon, Cond.instanceMethod yX4_skipSemicolon]
def wsX7_carryOut_r3 : List Cond := [Cond.selects RX4 yX4_skipSemicolon yX4_skipSemicolon, Cond.code yX4_skipSemicolon cX4_skipSemicolon 1 none, Cond.instanceMethod yX1_prepare, Cond.initialized RX1, Cond.selects RX1 yX1_prepare yX1_prepare, Cond.code yX1_prepare cX1_prepare 3 none, Cond.fieldLink RX1 16 "DrawerSlips$History" "place" "I", Cond.methodLink RX1 20 yX1_stateAt, Cond.instanceMethod yX1_stateAt, Cond.selects RX1 yX1_stateAt yX1_stateAt, Cond.code yX1_stateAt cX1_stateAt 2 (some (.object "DrawerSlips$Archive")), Cond.fieldLink RX1 11 "DrawerSlips$History" "states" "[LDrawerSlips$Archive;", Cond.instanceMethod yX0_copyFrom, Cond.initialized RX0, Cond.selects RX0 yX0_copyFrom yX0_copyFrom, Cond.code yX0_copyFrom cX0_copyFrom 4 none, Cond.fieldLink RX0 13 "DrawerSlips$Archive" "settings" "[I", Cond.fieldLink RX0 34 "DrawerSlips$Archive" "places" "LDrawerSlips$Slip;", Cond.fieldLink RX0 21 "DrawerSlips$Archive" "lately" "LDrawerSlips$Lately;", Cond.fieldLink RX0 47 "DrawerSlips$Archive" "readsWaiting" "I", Cond.fieldLink RX0 51 "DrawerSlips$Archive" "writesWaiting" "I", Cond.fieldLink RX0 54 "DrawerSlips$Archive" "nextNumber" "I", Cond.fieldLink RX0 57 "DrawerSlips$Archive" "now" "I", Cond.fieldLink RX0 60 "DrawerSlips$Archive" "arm" "I"]
def wsX7_carryOut_r4 : List Cond := [Cond.fieldLink RX0 63 "DrawerSlips$Archive" "longestWait" "I", Cond.fieldLink RX0 66 "DrawerSlips$Archive" "drawersGone" "I", Cond.fieldLink RX0 69 "DrawerSlips$Archive" "batches" "I", Cond.fieldLink RX0 72 "DrawerSlips$Archive" "batchSort" "I", Cond.fieldLink RX0 75 "DrawerSlips$Archive" "batchSlips" "I", Cond.fieldLink RX0 78 "DrawerSlips$Archive" "readsAhead" "I", Cond.static yX7_copyRow, Cond.code yX7_copyRow cX7_copyRow 3 none, Cond.instanceMethod yX5_copyFrom, Cond.initialized RX5, Cond.selects RX5 yX5_copyFrom yX5_copyFrom, Cond.code yX5_copyFrom cX5_copyFrom 2 none, Cond.fieldLink RX5 13 "DrawerSlips$Slip" "waits" "Z", Cond.fieldLink RX5 17 "DrawerSlips$Slip" "number" "I", Cond.fieldLink RX5 21 "DrawerSlips$Slip" "writes" "I", Cond.fieldLink RX5 24 "DrawerSlips$Slip" "first" "I", Cond.fieldLink RX5 27 "DrawerSlips$Slip" "many" "I", Cond.fieldLink RX5 30 "DrawerSlips$Slip" "came" "I", Cond.fieldLink RX5 33 "DrawerSlips$Slip" "joins" "I", Cond.instanceMethod yX2_copyFrom, Cond.initialized RX2, Cond.selects RX2 yX2_copyFrom yX2_copyFrom, Cond.code yX2_copyFrom cX2_copyFrom 2 none, Cond.fieldLink RX2 9 "DrawerSlips$Lately" "numbers" "[I"]
def wsX7_carryOut_r5 : List Cond := [Cond.fieldLink RX2 13 "DrawerSlips$Lately" "waits" "[I", Cond.fieldLink RX2 16 "DrawerSlips$Lately" "sorts" "[I", Cond.fieldLink RX2 25 "DrawerSlips$Lately" "served" "I", Cond.methodLink RX7 201 yX7_obey, Cond.instanceMethod yX7_obey, Cond.selects RX7 yX7_obey yX7_obey, Cond.code yX7_obey cX7_obey 1 (some .int), Cond.instanceMethod yX0_accept, Cond.selects RX0 yX0_accept yX0_accept, Cond.code yX0_accept cX0_accept 6 (some .int), Cond.static yX7_isSlip, Cond.code yX7_isSlip cX7_isSlip 3 (some .boolean), Cond.methodLink RX0 99 yX0_hostFor, Cond.instanceMethod yX0_hostFor, Cond.selects RX0 yX0_hostFor yX0_hostFor, Cond.code yX0_hostFor cX0_hostFor 7 (some (.object "DrawerSlips$Slip")), Cond.instanceMethod yX5_isOfSort, Cond.selects RX5 yX5_isOfSort yX5_isOfSort, Cond.code yX5_isOfSort cX5_isOfSort 2 (some .boolean), Cond.instanceMethod yX5_last, Cond.selects RX5 yX5_last yX5_last, Cond.code yX5_last cX5_last 1 (some .int), Cond.methodLink RX0 112 yX0_freePlace, Cond.instanceMethod yX0_freePlace]
def wsX7_carryOut_r6 : List Cond := [Cond.selects RX0 yX0_freePlace yX0_freePlace, Cond.code yX0_freePlace cX0_freePlace 2 (some (.object "DrawerSlips$Slip")), Cond.methodLink RX0 129 yX0_countWaiting, Cond.instanceMethod yX0_countWaiting, Cond.selects RX0 yX0_countWaiting yX0_countWaiting, Cond.code yX0_countWaiting cX0_countWaiting 3 none, Cond.methodLink RX7 71 yX7_serveSlips, Cond.instanceMethod yX7_serveSlips, Cond.selects RX7 yX7_serveSlips yX7_serveSlips, Cond.code yX7_serveSlips cX7_serveSlips 4 (some .int), Cond.methodLink RX7 84 Lib.Math.min.name, Cond.static Lib.Math.min.name, Cond.initialized "java/lang/Math", Cond.code Lib.Math.min.name Lib.Math.min.code 2 (some .int), Cond.fieldLink RX7 16 "DrawerSlips" "trial" "LDrawerSlips$Archive;", Cond.constant RX7 99 (99999), Cond.instanceMethod yX0_slipsThatWait, Cond.selects RX0 yX0_slipsThatWait yX0_slipsThatWait, Cond.code yX0_slipsThatWait cX0_slipsThatWait 1 (some .int), Cond.instanceMethod yX0_serveNext, Cond.selects RX0 yX0_serveNext yX0_serveNext, Cond.code yX0_serveNext cX0_serveNext 3 none, Cond.methodLink RX0 198 Lib.Math.min.name, Cond.methodLink RX0 202 Lib.Math.max.name]
def wsX7_carryOut_r7 : List Cond := [Cond.static Lib.Math.max.name, Cond.code Lib.Math.max.name Lib.Math.max.code 2 (some .int), Cond.methodLink RX0 185 yX0_reason, Cond.instanceMethod yX0_reason, Cond.selects RX0 yX0_reason yX0_reason, Cond.code yX0_reason cX0_reason 4 (some .int), Cond.methodLink RX0 163 yX0_leastFrom, Cond.instanceMethod yX0_leastFrom, Cond.selects RX0 yX0_leastFrom yX0_leastFrom, Cond.code yX0_leastFrom cX0_leastFrom 5 (some (.object "DrawerSlips$Slip")), Cond.instanceMethod yX5_isAheadOf, Cond.selects RX5 yX5_isAheadOf yX5_isAheadOf, Cond.code yX5_isAheadOf cX5_isAheadOf 2 (some .boolean), Cond.methodLink RX0 167 yX0_newSort, Cond.instanceMethod yX0_newSort, Cond.selects RX0 yX0_newSort yX0_newSort, Cond.code yX0_newSort cX0_newSort 1 (some .int), Cond.methodLink RX0 170 yX0_oldest, Cond.instanceMethod yX0_oldest, Cond.selects RX0 yX0_oldest yX0_oldest, Cond.code yX0_oldest cX0_oldest 4 (some (.object "DrawerSlips$Slip")), Cond.methodLink RX0 173 yX0_isTooOld, Cond.instanceMethod yX0_isTooOld, Cond.selects RX0 yX0_isTooOld yX0_isTooOld]
def wsX7_carryOut_r8 : List Cond := [Cond.code yX0_isTooOld cX0_isTooOld 2 (some .boolean), Cond.methodLink RX0 140 yX0_age, Cond.instanceMethod yX0_age, Cond.selects RX0 yX0_age yX0_age, Cond.code yX0_age cX0_age 2 (some .int), Cond.methodLink RX0 188 yX0_chosen, Cond.instanceMethod yX0_chosen, Cond.selects RX0 yX0_chosen yX0_chosen, Cond.code yX0_chosen cX0_chosen 2 (some (.object "DrawerSlips$Slip")), Cond.methodLink RX0 191 yX0_beginBatch, Cond.instanceMethod yX0_beginBatch, Cond.selects RX0 yX0_beginBatch yX0_beginBatch, Cond.code yX0_beginBatch cX0_beginBatch 2 none, Cond.methodLink RX0 195 yX0_minutesFor, Cond.instanceMethod yX0_minutesFor, Cond.selects RX0 yX0_minutesFor yX0_minutesFor, Cond.code yX0_minutesFor cX0_minutesFor 2 (some .int), Cond.methodLink RX0 182 yX0_drawersTo, Cond.instanceMethod yX0_drawersTo, Cond.selects RX0 yX0_drawersTo yX0_drawersTo, Cond.code yX0_drawersTo cX0_drawersTo 2 (some .int), Cond.methodLink RX0 176 Lib.Math.abs.name, Cond.static Lib.Math.abs.name, Cond.code Lib.Math.abs.name Lib.Math.abs.code 1 (some .int)]
def wsX7_carryOut_r9 : List Cond := [Cond.methodLink RX0 137 yX0_remove, Cond.instanceMethod yX0_remove, Cond.selects RX0 yX0_remove yX0_remove, Cond.code yX0_remove cX0_remove 2 none, Cond.instanceMethod yX2_append, Cond.selects RX2 yX2_append yX2_append, Cond.code yX2_append cX2_append 5 none, Cond.static yX7_isIndexOf, Cond.code yX7_isIndexOf cX7_isIndexOf 2 (some .boolean), Cond.instanceMethod yX0_stand, Cond.selects RX0 yX0_stand yX0_stand, Cond.code yX0_stand cX0_stand 2 (some .int), Cond.constant RX0 144 (99999), Cond.instanceMethod yX3_empty, Cond.selects RX3 yX3_empty yX3_empty, Cond.code yX3_empty cX3_empty 2 (some .int), Cond.methodLink RX7 60 yX7_settled, Cond.instanceMethod yX7_settled, Cond.selects RX7 yX7_settled yX7_settled, Cond.code yX7_settled cX7_settled 2 (some .int), Cond.instanceMethod yX1_keep, Cond.selects RX1 yX1_keep yX1_keep, Cond.code yX1_keep cX1_keep 1 none, Cond.fieldLink RX1 28 "DrawerSlips$History" "kept" "I"]
def wsX7_carryOut_r10 : List Cond := [Cond.methodLink RX1 31 Lib.Math.min.name]
def wsX7_carryOut : List Cond := .code yX7_carryOut cX7_carryOut 2 (some .int) :: ((wsX7_carryOut_r1 ++ (wsX7_carryOut_r2 ++ (wsX7_carryOut_r3 ++ (wsX7_carryOut_r4 ++ (wsX7_carryOut_r5 ++ (wsX7_carryOut_r6 ++ (wsX7_carryOut_r7 ++ (wsX7_carryOut_r8 ++ (wsX7_carryOut_r9 ++ wsX7_carryOut_r10))))))))) ++ wsX70 ++ wsX40 ++ wsX30 ++ wsX10 ++ wsX00 ++ wsX50 ++ wsX20)
def wsX7_undo_r1 : List Cond := [Cond.fieldLink RX7 22 "DrawerSlips" "history" "LDrawerSlips$History;", Cond.fieldLink RX7 10 "DrawerSlips" "archive" "LDrawerSlips$Archive;", Cond.instanceMethod yX1_takeBack, Cond.initialized RX1, Cond.selects RX1 yX1_takeBack yX1_takeBack, Cond.code yX1_takeBack cX1_takeBack 3 none, Cond.fieldLink RX1 16 "DrawerSlips$History" "place" "I", Cond.fieldLink RX1 28 "DrawerSlips$History" "kept" "I", Cond.methodLink RX1 20 yX1_stateAt, Cond.instanceMethod yX1_stateAt, Cond.selects RX1 yX1_stateAt yX1_stateAt, Cond.code yX1_stateAt cX1_stateAt 2 (some (.object "DrawerSlips$Archive")), Cond.fieldLink RX1 11 "DrawerSlips$History" "states" "[LDrawerSlips$Archive;", Cond.instanceMethod yX0_copyFrom, Cond.initialized RX0, Cond.selects RX0 yX0_copyFrom yX0_copyFrom, Cond.code yX0_copyFrom cX0_copyFrom 4 none, Cond.fieldLink RX0 13 "DrawerSlips$Archive" "settings" "[I", Cond.fieldLink RX0 34 "DrawerSlips$Archive" "places" "LDrawerSlips$Slip;", Cond.fieldLink RX0 21 "DrawerSlips$Archive" "lately" "LDrawerSlips$Lately;", Cond.fieldLink RX0 47 "DrawerSlips$Archive" "readsWaiting" "I", Cond.fieldLink RX0 51 "DrawerSlips$Archive" "writesWaiting" "I", Cond.fieldLink RX0 54 "DrawerSlips$Archive" "nextNumber" "I", Cond.fieldLink RX0 57 "DrawerSlips$Archive" "now" "I"]
def wsX7_undo_r2 : List Cond := [Cond.fieldLink RX0 60 "DrawerSlips$Archive" "arm" "I", Cond.fieldLink RX0 63 "DrawerSlips$Archive" "longestWait" "I", Cond.fieldLink RX0 66 "DrawerSlips$Archive" "drawersGone" "I", Cond.fieldLink RX0 69 "DrawerSlips$Archive" "batches" "I", Cond.fieldLink RX0 72 "DrawerSlips$Archive" "batchSort" "I", Cond.fieldLink RX0 75 "DrawerSlips$Archive" "batchSlips" "I", Cond.fieldLink RX0 78 "DrawerSlips$Archive" "readsAhead" "I", Cond.static yX7_copyRow, Cond.initialized RX7, Cond.code yX7_copyRow cX7_copyRow 3 none, Cond.instanceMethod yX5_copyFrom, Cond.initialized RX5, Cond.selects RX5 yX5_copyFrom yX5_copyFrom, Cond.code yX5_copyFrom cX5_copyFrom 2 none, Cond.fieldLink RX5 13 "DrawerSlips$Slip" "waits" "Z", Cond.fieldLink RX5 17 "DrawerSlips$Slip" "number" "I", Cond.fieldLink RX5 21 "DrawerSlips$Slip" "writes" "I", Cond.fieldLink RX5 24 "DrawerSlips$Slip" "first" "I", Cond.fieldLink RX5 27 "DrawerSlips$Slip" "many" "I", Cond.fieldLink RX5 30 "DrawerSlips$Slip" "came" "I", Cond.fieldLink RX5 33 "DrawerSlips$Slip" "joins" "I", Cond.instanceMethod yX2_copyFrom, Cond.initialized RX2, Cond.selects RX2 yX2_copyFrom yX2_copyFrom]
def wsX7_undo_r3 : List Cond := [Cond.code yX2_copyFrom cX2_copyFrom 2 none, Cond.fieldLink RX2 9 "DrawerSlips$Lately" "numbers" "[I", Cond.fieldLink RX2 13 "DrawerSlips$Lately" "waits" "[I", Cond.fieldLink RX2 16 "DrawerSlips$Lately" "sorts" "[I", Cond.fieldLink RX2 25 "DrawerSlips$Lately" "served" "I"]
def wsX7_undo : List Cond := .code yX7_undo cX7_undo 1 (some .int) :: ((wsX7_undo_r1 ++ (wsX7_undo_r2 ++ wsX7_undo_r3)) ++ wsX70 ++ wsX10 ++ wsX00 ++ wsX50 ++ wsX20)
def wsX7_slotAt : List Cond := .code yX7_slotAt cX7_slotAt 2 (some (.object "DrawerSlips$Slot")) :: ([.fieldLink RX7 29 "DrawerSlips" "firstSlot" "LDrawerSlips$Slot;", .fieldLink RX7 33 "DrawerSlips" "secondSlot" "LDrawerSlips$Slot;"] ++ wsX70)
def wsX7_save_r1 : List Cond := [Cond.fieldLink RX7 10 "DrawerSlips" "archive" "LDrawerSlips$Archive;", Cond.methodLink RX7 217 yX7_slotAt, Cond.instanceMethod yX7_slotAt, Cond.selects RX7 yX7_slotAt yX7_slotAt, Cond.initialized RX7, Cond.code yX7_slotAt cX7_slotAt 2 (some (.object "DrawerSlips$Slot")), Cond.fieldLink RX7 29 "DrawerSlips" "firstSlot" "LDrawerSlips$Slot;", Cond.fieldLink RX7 33 "DrawerSlips" "secondSlot" "LDrawerSlips$Slot;", Cond.instanceMethod yX0_copyFrom, Cond.initialized RX0, Cond.selects RX0 yX0_copyFrom yX0_copyFrom, Cond.code yX0_copyFrom cX0_copyFrom 4 none, Cond.fieldLink RX0 13 "DrawerSlips$Archive" "settings" "[I", Cond.fieldLink RX0 34 "DrawerSlips$Archive" "places" "LDrawerSlips$Slip;", Cond.fieldLink RX0 21 "DrawerSlips$Archive" "lately" "LDrawerSlips$Lately;", Cond.fieldLink RX0 47 "DrawerSlips$Archive" "readsWaiting" "I", Cond.fieldLink RX0 51 "DrawerSlips$Archive" "writesWaiting" "I", Cond.fieldLink RX0 54 "DrawerSlips$Archive" "nextNumber" "I", Cond.fieldLink RX0 57 "DrawerSlips$Archive" "now" "I", Cond.fieldLink RX0 60 "DrawerSlips$Archive" "arm" "I", Cond.fieldLink RX0 63 "DrawerSlips$Archive" "longestWait" "I", Cond.fieldLink RX0 66 "DrawerSlips$Archive" "drawersGone" "I", Cond.fieldLink RX0 69 "DrawerSlips$Archive" "batches" "I", Cond.fieldLink RX0 72 "DrawerSlips$Archive" "batchSort" "I"]
def wsX7_save_r2 : List Cond := [Cond.fieldLink RX0 75 "DrawerSlips$Archive" "batchSlips" "I", Cond.fieldLink RX0 78 "DrawerSlips$Archive" "readsAhead" "I", Cond.static yX7_copyRow, Cond.code yX7_copyRow cX7_copyRow 3 none, Cond.instanceMethod yX5_copyFrom, Cond.initialized RX5, Cond.selects RX5 yX5_copyFrom yX5_copyFrom, Cond.code yX5_copyFrom cX5_copyFrom 2 none, Cond.fieldLink RX5 13 "DrawerSlips$Slip" "waits" "Z", Cond.fieldLink RX5 17 "DrawerSlips$Slip" "number" "I", Cond.fieldLink RX5 21 "DrawerSlips$Slip" "writes" "I", Cond.fieldLink RX5 24 "DrawerSlips$Slip" "first" "I", Cond.fieldLink RX5 27 "DrawerSlips$Slip" "many" "I", Cond.fieldLink RX5 30 "DrawerSlips$Slip" "came" "I", Cond.fieldLink RX5 33 "DrawerSlips$Slip" "joins" "I", Cond.instanceMethod yX2_copyFrom, Cond.initialized RX2, Cond.selects RX2 yX2_copyFrom yX2_copyFrom, Cond.code yX2_copyFrom cX2_copyFrom 2 none, Cond.fieldLink RX2 9 "DrawerSlips$Lately" "numbers" "[I", Cond.fieldLink RX2 13 "DrawerSlips$Lately" "waits" "[I", Cond.fieldLink RX2 16 "DrawerSlips$Lately" "sorts" "[I", Cond.fieldLink RX2 25 "DrawerSlips$Lately" "served" "I", Cond.instanceMethod yX0_slipsThatWait]
def wsX7_save_r3 : List Cond := [Cond.selects RX0 yX0_slipsThatWait yX0_slipsThatWait, Cond.code yX0_slipsThatWait cX0_slipsThatWait 1 (some .int)]
def wsX7_save : List Cond := .code yX7_save cX7_save 3 (some .int) :: ((wsX7_save_r1 ++ (wsX7_save_r2 ++ wsX7_save_r3)) ++ wsX60 ++ wsX70 ++ wsX00 ++ wsX50 ++ wsX20)
def wsX7_restore_r1 : List Cond := [Cond.fieldLink RX7 22 "DrawerSlips" "history" "LDrawerSlips$History;", Cond.fieldLink RX7 10 "DrawerSlips" "archive" "LDrawerSlips$Archive;", Cond.methodLink RX7 217 yX7_slotAt, Cond.instanceMethod yX7_slotAt, Cond.selects RX7 yX7_slotAt yX7_slotAt, Cond.initialized RX7, Cond.code yX7_slotAt cX7_slotAt 2 (some (.object "DrawerSlips$Slot")), Cond.fieldLink RX7 29 "DrawerSlips" "firstSlot" "LDrawerSlips$Slot;", Cond.fieldLink RX7 33 "DrawerSlips" "secondSlot" "LDrawerSlips$Slot;", Cond.instanceMethod yX1_prepare, Cond.initialized RX1, Cond.selects RX1 yX1_prepare yX1_prepare, Cond.code yX1_prepare cX1_prepare 3 none, Cond.fieldLink RX1 16 "DrawerSlips$History" "place" "I", Cond.methodLink RX1 20 yX1_stateAt, Cond.instanceMethod yX1_stateAt, Cond.selects RX1 yX1_stateAt yX1_stateAt, Cond.code yX1_stateAt cX1_stateAt 2 (some (.object "DrawerSlips$Archive")), Cond.fieldLink RX1 11 "DrawerSlips$History" "states" "[LDrawerSlips$Archive;", Cond.instanceMethod yX0_copyFrom, Cond.initialized RX0, Cond.selects RX0 yX0_copyFrom yX0_copyFrom, Cond.code yX0_copyFrom cX0_copyFrom 4 none, Cond.fieldLink RX0 13 "DrawerSlips$Archive" "settings" "[I"]
def wsX7_restore_r2 : List Cond := [Cond.fieldLink RX0 34 "DrawerSlips$Archive" "places" "LDrawerSlips$Slip;", Cond.fieldLink RX0 21 "DrawerSlips$Archive" "lately" "LDrawerSlips$Lately;", Cond.fieldLink RX0 47 "DrawerSlips$Archive" "readsWaiting" "I", Cond.fieldLink RX0 51 "DrawerSlips$Archive" "writesWaiting" "I", Cond.fieldLink RX0 54 "DrawerSlips$Archive" "nextNumber" "I", Cond.fieldLink RX0 57 "DrawerSlips$Archive" "now" "I", Cond.fieldLink RX0 60 "DrawerSlips$Archive" "arm" "I", Cond.fieldLink RX0 63 "DrawerSlips$Archive" "longestWait" "I", Cond.fieldLink RX0 66 "DrawerSlips$Archive" "drawersGone" "I", Cond.fieldLink RX0 69 "DrawerSlips$Archive" "batches" "I", Cond.fieldLink RX0 72 "DrawerSlips$Archive" "batchSort" "I", Cond.fieldLink RX0 75 "DrawerSlips$Archive" "batchSlips" "I", Cond.fieldLink RX0 78 "DrawerSlips$Archive" "readsAhead" "I", Cond.static yX7_copyRow, Cond.code yX7_copyRow cX7_copyRow 3 none, Cond.instanceMethod yX5_copyFrom, Cond.initialized RX5, Cond.selects RX5 yX5_copyFrom yX5_copyFrom, Cond.code yX5_copyFrom cX5_copyFrom 2 none, Cond.fieldLink RX5 13 "DrawerSlips$Slip" "waits" "Z", Cond.fieldLink RX5 17 "DrawerSlips$Slip" "number" "I", Cond.fieldLink RX5 21 "DrawerSlips$Slip" "writes" "I", Cond.fieldLink RX5 24 "DrawerSlips$Slip" "first" "I", Cond.fieldLink RX5 27 "DrawerSlips$Slip" "many" "I"]
def wsX7_restore_r3 : List Cond := [Cond.fieldLink RX5 30 "DrawerSlips$Slip" "came" "I", Cond.fieldLink RX5 33 "DrawerSlips$Slip" "joins" "I", Cond.instanceMethod yX2_copyFrom, Cond.initialized RX2, Cond.selects RX2 yX2_copyFrom yX2_copyFrom, Cond.code yX2_copyFrom cX2_copyFrom 2 none, Cond.fieldLink RX2 9 "DrawerSlips$Lately" "numbers" "[I", Cond.fieldLink RX2 13 "DrawerSlips$Lately" "waits" "[I", Cond.fieldLink RX2 16 "DrawerSlips$Lately" "sorts" "[I", Cond.fieldLink RX2 25 "DrawerSlips$Lately" "served" "I", Cond.instanceMethod yX0_slipsThatWait, Cond.selects RX0 yX0_slipsThatWait yX0_slipsThatWait, Cond.code yX0_slipsThatWait cX0_slipsThatWait 1 (some .int), Cond.methodLink RX7 60 yX7_settled, Cond.instanceMethod yX7_settled, Cond.selects RX7 yX7_settled yX7_settled, Cond.code yX7_settled cX7_settled 2 (some .int), Cond.instanceMethod yX1_keep, Cond.selects RX1 yX1_keep yX1_keep, Cond.code yX1_keep cX1_keep 1 none, Cond.fieldLink RX1 28 "DrawerSlips$History" "kept" "I", Cond.methodLink RX1 31 Lib.Math.min.name, Cond.static Lib.Math.min.name, Cond.initialized "java/lang/Math"]
def wsX7_restore_r4 : List Cond := [Cond.code Lib.Math.min.name Lib.Math.min.code 2 (some .int)]
def wsX7_restore : List Cond := .code yX7_restore cX7_restore 3 (some .int) :: ((wsX7_restore_r1 ++ (wsX7_restore_r2 ++ (wsX7_restore_r3 ++ wsX7_restore_r4))) ++ wsX60 ++ wsX70 ++ wsX10 ++ wsX00 ++ wsX50 ++ wsX20)
def wsX8_init : List Cond := .code yX8_init cX8_init 1 none :: ([.methodLink RX8 1 objectInit, .instanceMethod objectInit, .code objectInit ⟨#[0xb1]⟩ 1 none, .arrayClass .int, .fieldLink RX8 7 "DrawerSlipsModel" "row" "[I", .fieldLink RX8 13 "DrawerSlipsModel" "past" "[I", .fieldLink RX8 16 "DrawerSlipsModel" "before" "[I", .fieldLink RX8 19 "DrawerSlipsModel" "aside" "[I", .fieldLink RX8 22 "DrawerSlipsModel" "slots" "[I", .arrayClass .boolean, .fieldLink RX8 25 "DrawerSlipsModel" "isSaved" "[Z", .fieldLink RX8 29 "DrawerSlipsModel" "pad" "[I", .fieldLink RX8 32 "DrawerSlipsModel" "codes" "[I"] ++ wsX80)
def wsX8_in : List Cond := .code yX8_in cX8_in 4 (some .boolean) :: ([])
def wsX8_far : List Cond := .code yX8_far cX8_far 2 (some .int) :: ([])
def wsX8_its : List Cond := .code yX8_its cX8_its 3 (some .int) :: ([.fieldLink RX8 7 "DrawerSlipsModel" "row" "[I"] ++ wsX80)
def wsX8_lastOf : List Cond := .code yX8_lastOf cX8_lastOf 2 (some .int) :: ([.methodLink RX8 35 yX8_its, .instanceMethod yX8_its, .selects RX8 yX8_its yX8_its, .initialized RX8, .code yX8_its cX8_its 3 (some .int), .fieldLink RX8 7 "DrawerSlipsModel" "row" "[I"] ++ wsX80)
def wsX8_find : List Cond := .code yX8_find cX8_find 3 (some .int) :: ([.fieldLink RX8 7 "DrawerSlipsModel" "row" "[I", .methodLink RX8 35 yX8_its, .instanceMethod yX8_its, .selects RX8 yX8_its yX8_its, .initialized RX8, .code yX8_its cX8_its 3 (some .int)] ++ wsX80)
def wsX8_many : List Cond := .code yX8_many cX8_many 4 (some .int) :: ([.fieldLink RX8 7 "DrawerSlipsModel" "row" "[I", .methodLink RX8 35 yX8_its, .instanceMethod yX8_its, .selects RX8 yX8_its yX8_its, .initialized RX8, .code yX8_its cX8_its 3 (some .int)] ++ wsX80)
def wsX8_remember : List Cond := .code yX8_remember cX8_remember 2 none :: ([.fieldLink RX8 16 "DrawerSlipsModel" "before" "[I", .fieldLink RX8 7 "DrawerSlipsModel" "row" "[I"] ++ wsX80)
def wsX8_record : List Cond := .code yX8_record cX8_record 3 (some .int) :: ([.fieldLink RX8 39 "DrawerSlipsModel" "states" "I", .fieldLink RX8 13 "DrawerSlipsModel" "past" "[I", .fieldLink RX8 16 "DrawerSlipsModel" "before" "[I"] ++ wsX80)
def wsX8_undo : List Cond := .code yX8_undo cX8_undo 2 (some .int) :: ([.fieldLink RX8 39 "DrawerSlipsModel" "states" "I", .fieldLink RX8 7 "DrawerSlipsModel" "row" "[I", .fieldLink RX8 13 "DrawerSlipsModel" "past" "[I"] ++ wsX80)
def wsX8_save : List Cond := .code yX8_save cX8_save 3 (some .int) :: ([.fieldLink RX8 22 "DrawerSlipsModel" "slots" "[I", .fieldLink RX8 7 "DrawerSlipsModel" "row" "[I", .fieldLink RX8 25 "DrawerSlipsModel" "isSaved" "[Z", .methodLink RX8 43 yX8_in, .static yX8_in, .initialized RX8, .code yX8_in cX8_in 4 (some .boolean)] ++ wsX80)
def wsX8_restore : List Cond := .code yX8_restore cX8_restore 3 (some .int) :: ([.fieldLink RX8 25 "DrawerSlipsModel" "isSaved" "[Z", .fieldLink RX8 7 "DrawerSlipsModel" "row" "[I", .fieldLink RX8 22 "DrawerSlipsModel" "slots" "[I", .methodLink RX8 43 yX8_in, .static yX8_in, .initialized RX8, .code yX8_in cX8_in 4 (some .boolean), .methodLink RX8 47 yX8_remember, .instanceMethod yX8_remember, .selects RX8 yX8_remember yX8_remember, .code yX8_remember cX8_remember 2 none, .fieldLink RX8 16 "DrawerSlipsModel" "before" "[I", .methodLink RX8 50 yX8_record, .instanceMethod yX8_record, .selects RX8 yX8_record yX8_record, .code yX8_record cX8_record 3 (some .int), .fieldLink RX8 39 "DrawerSlipsModel" "states" "I", .fieldLink RX8 13 "DrawerSlipsModel" "past" "[I"] ++ wsX80)
def wsX8_layAside : List Cond := .code yX8_layAside cX8_layAside 2 none :: ([.fieldLink RX8 19 "DrawerSlipsModel" "aside" "[I", .fieldLink RX8 7 "DrawerSlipsModel" "row" "[I"] ++ wsX80)
def wsX8_putBack : List Cond := .code yX8_putBack cX8_putBack 2 none :: ([.fieldLink RX8 7 "DrawerSlipsModel" "row" "[I", .fieldLink RX8 19 "DrawerSlipsModel" "aside" "[I"] ++ wsX80)
def wsX8_lowest : List Cond := .code yX8_lowest cX8_lowest 6 (some .int) :: ([.fieldLink RX8 7 "DrawerSlipsModel" "row" "[I", .methodLink RX8 35 yX8_its, .instanceMethod yX8_its, .selects RX8 yX8_its yX8_its, .initialized RX8, .code yX8_its cX8_its 3 (some .int)] ++ wsX80)
def wsX8_oldest : List Cond := .code yX8_oldest cX8_oldest 4 (some .int) :: ([.fieldLink RX8 7 "DrawerSlipsModel" "row" "[I", .methodLink RX8 35 yX8_its, .instanceMethod yX8_its, .selects RX8 yX8_its yX8_its, .initialized RX8, .code yX8_its cX8_its 3 (some .int)] ++ wsX80)
def wsX8_isOld : List Cond := .code yX8_isOld cX8_isOld 2 (some .boolean) :: ([.fieldLink RX8 7 "DrawerSlipsModel" "row" "[I", .methodLink RX8 35 yX8_its, .instanceMethod yX8_its, .selects RX8 yX8_its yX8_its, .initialized RX8, .code yX8_its cX8_its 3 (some .int)] ++ wsX80)
def wsX8_nextSort : List Cond := .code yX8_nextSort cX8_nextSort 2 (some .int) :: ([.fieldLink RX8 7 "DrawerSlipsModel" "row" "[I", .methodLink RX8 54 yX8_many, .instanceMethod yX8_many, .selects RX8 yX8_many yX8_many, .initialized RX8, .code yX8_many cX8_many 4 (some .int), .methodLink RX8 35 yX8_its, .instanceMethod yX8_its, .selects RX8 yX8_its yX8_its, .code yX8_its cX8_its 3 (some .int)] ++ wsX80)
def wsX8_look_r1 : List Cond := [Cond.fieldLink RX8 7 "DrawerSlipsModel" "row" "[I", Cond.fieldLink RX8 60 "DrawerSlipsModel" "place" "I", Cond.fieldLink RX8 63 "DrawerSlipsModel" "why" "I", Cond.methodLink RX8 57 yX8_lowest, Cond.instanceMethod yX8_lowest, Cond.selects RX8 yX8_lowest yX8_lowest, Cond.initialized RX8, Cond.code yX8_lowest cX8_lowest 6 (some .int), Cond.methodLink RX8 35 yX8_its, Cond.instanceMethod yX8_its, Cond.selects RX8 yX8_its yX8_its, Cond.code yX8_its cX8_its 3 (some .int), Cond.methodLink RX8 66 yX8_nextSort, Cond.instanceMethod yX8_nextSort, Cond.selects RX8 yX8_nextSort yX8_nextSort, Cond.code yX8_nextSort cX8_nextSort 2 (some .int), Cond.methodLink RX8 54 yX8_many, Cond.instanceMethod yX8_many, Cond.selects RX8 yX8_many yX8_many, Cond.code yX8_many cX8_many 4 (some .int), Cond.methodLink RX8 70 yX8_oldest, Cond.instanceMethod yX8_oldest, Cond.selects RX8 yX8_oldest yX8_oldest, Cond.code yX8_oldest cX8_oldest 4 (some .int)]
def wsX8_look_r2 : List Cond := [Cond.methodLink RX8 73 yX8_isOld, Cond.instanceMethod yX8_isOld, Cond.selects RX8 yX8_isOld yX8_isOld, Cond.code yX8_isOld cX8_isOld 2 (some .boolean)]
def wsX8_look : List Cond := .code yX8_look cX8_look 2 none :: ((wsX8_look_r1 ++ wsX8_look_r2) ++ wsX80)
def wsX8_minute : List Cond := .code yX8_minute cX8_minute 1 (some .int) :: ([.fieldLink RX8 7 "DrawerSlipsModel" "row" "[I", .fieldLink RX8 60 "DrawerSlipsModel" "place" "I", .methodLink RX8 35 yX8_its, .instanceMethod yX8_its, .selects RX8 yX8_its yX8_its, .initialized RX8, .code yX8_its cX8_its 3 (some .int), .methodLink RX8 77 yX8_far, .static yX8_far, .code yX8_far cX8_far 2 (some .int)] ++ wsX80)
def wsX8_drop : List Cond := .code yX8_drop cX8_drop 3 none :: ([.fieldLink RX8 7 "DrawerSlipsModel" "row" "[I"] ++ wsX80)
def wsX8_note : List Cond := .code yX8_note cX8_note 5 none :: ([.fieldLink RX8 7 "DrawerSlipsModel" "row" "[I"] ++ wsX80)
def wsX8_serveOne_r1 : List Cond := [Cond.fieldLink RX8 60 "DrawerSlipsModel" "place" "I", Cond.fieldLink RX8 63 "DrawerSlipsModel" "why" "I", Cond.fieldLink RX8 7 "DrawerSlipsModel" "row" "[I", Cond.methodLink RX8 80 yX8_look, Cond.instanceMethod yX8_look, Cond.selects RX8 yX8_look yX8_look, Cond.initialized RX8, Cond.code yX8_look cX8_look 2 none, Cond.methodLink RX8 57 yX8_lowest, Cond.instanceMethod yX8_lowest, Cond.selects RX8 yX8_lowest yX8_lowest, Cond.code yX8_lowest cX8_lowest 6 (some .int), Cond.methodLink RX8 35 yX8_its, Cond.instanceMethod yX8_its, Cond.selects RX8 yX8_its yX8_its, Cond.code yX8_its cX8_its 3 (some .int), Cond.methodLink RX8 66 yX8_nextSort, Cond.instanceMethod yX8_nextSort, Cond.selects RX8 yX8_nextSort yX8_nextSort, Cond.code yX8_nextSort cX8_nextSort 2 (some .int), Cond.methodLink RX8 54 yX8_many, Cond.instanceMethod yX8_many, Cond.selects RX8 yX8_many yX8_many, Cond.code yX8_many cX8_many 4 (some .int)]
def wsX8_serveOne_r2 : List Cond := [Cond.methodLink RX8 70 yX8_oldest, Cond.instanceMethod yX8_oldest, Cond.selects RX8 yX8_oldest yX8_oldest, Cond.code yX8_oldest cX8_oldest 4 (some .int), Cond.methodLink RX8 73 yX8_isOld, Cond.instanceMethod yX8_isOld, Cond.selects RX8 yX8_isOld yX8_isOld, Cond.code yX8_isOld cX8_isOld 2 (some .boolean), Cond.methodLink RX8 83 yX8_minute, Cond.instanceMethod yX8_minute, Cond.selects RX8 yX8_minute yX8_minute, Cond.code yX8_minute cX8_minute 1 (some .int), Cond.methodLink RX8 77 yX8_far, Cond.static yX8_far, Cond.code yX8_far cX8_far 2 (some .int), Cond.methodLink RX8 86 yX8_lastOf, Cond.instanceMethod yX8_lastOf, Cond.selects RX8 yX8_lastOf yX8_lastOf, Cond.code yX8_lastOf cX8_lastOf 2 (some .int), Cond.methodLink RX8 89 yX8_note, Cond.instanceMethod yX8_note, Cond.selects RX8 yX8_note yX8_note, Cond.code yX8_note cX8_note 5 none, Cond.methodLink RX8 93 yX8_drop]
def wsX8_serveOne_r3 : List Cond := [Cond.instanceMethod yX8_drop, Cond.selects RX8 yX8_drop yX8_drop, Cond.code yX8_drop cX8_drop 3 none]
def wsX8_serveOne : List Cond := .code yX8_serveOne cX8_serveOne 4 none :: ((wsX8_serveOne_r1 ++ (wsX8_serveOne_r2 ++ wsX8_serveOne_r3)) ++ wsX80)
def wsX8_isSlip : List Cond := .code yX8_isSlip cX8_isSlip 3 (some .boolean) :: ([.methodLink RX8 43 yX8_in, .static yX8_in, .initialized RX8, .code yX8_in cX8_in 4 (some .boolean)])
def wsX8_partner : List Cond := .code yX8_partner cX8_partner 5 (some .int) :: ([.fieldLink RX8 7 "DrawerSlipsModel" "row" "[I", .methodLink RX8 35 yX8_its, .instanceMethod yX8_its, .selects RX8 yX8_its yX8_its, .initialized RX8, .code yX8_its cX8_its 3 (some .int), .methodLink RX8 86 yX8_lastOf, .instanceMethod yX8_lastOf, .selects RX8 yX8_lastOf yX8_lastOf, .code yX8_lastOf cX8_lastOf 2 (some .int)] ++ wsX80)
def wsX8_comes : List Cond := .code yX8_comes cX8_comes 6 (some .int) :: ([.fieldLink RX8 7 "DrawerSlipsModel" "row" "[I", .methodLink RX8 97 yX8_isSlip, .static yX8_isSlip, .initialized RX8, .code yX8_isSlip cX8_isSlip 3 (some .boolean), .methodLink RX8 43 yX8_in, .static yX8_in, .code yX8_in cX8_in 4 (some .boolean), .methodLink RX8 101 yX8_partner, .instanceMethod yX8_partner, .selects RX8 yX8_partner yX8_partner, .code yX8_partner cX8_partner 5 (some .int), .methodLink RX8 35 yX8_its, .instanceMethod yX8_its, .selects RX8 yX8_its yX8_its, .code yX8_its cX8_its 3 (some .int), .methodLink RX8 86 yX8_lastOf, .instanceMethod yX8_lastOf, .selects RX8 yX8_lastOf yX8_lastOf, .code yX8_lastOf cX8_lastOf 2 (some .int)] ++ wsX80)
def wsX8_serves_r1 : List Cond := [Cond.fieldLink RX8 7 "DrawerSlipsModel" "row" "[I", Cond.constant RX8 111 (99999), Cond.methodLink RX8 43 yX8_in, Cond.static yX8_in, Cond.initialized RX8, Cond.code yX8_in cX8_in 4 (some .boolean), Cond.methodLink RX8 105 yX8_layAside, Cond.instanceMethod yX8_layAside, Cond.selects RX8 yX8_layAside yX8_layAside, Cond.code yX8_layAside cX8_layAside 2 none, Cond.fieldLink RX8 19 "DrawerSlipsModel" "aside" "[I", Cond.methodLink RX8 108 yX8_serveOne, Cond.instanceMethod yX8_serveOne, Cond.selects RX8 yX8_serveOne yX8_serveOne, Cond.code yX8_serveOne cX8_serveOne 4 none, Cond.fieldLink RX8 60 "DrawerSlipsModel" "place" "I", Cond.fieldLink RX8 63 "DrawerSlipsModel" "why" "I", Cond.methodLink RX8 80 yX8_look, Cond.instanceMethod yX8_look, Cond.selects RX8 yX8_look yX8_look, Cond.code yX8_look cX8_look 2 none, Cond.methodLink RX8 57 yX8_lowest, Cond.instanceMethod yX8_lowest, Cond.selects RX8 yX8_lowest yX8_lowest]
def wsX8_serves_r2 : List Cond := [Cond.code yX8_lowest cX8_lowest 6 (some .int), Cond.methodLink RX8 35 yX8_its, Cond.instanceMethod yX8_its, Cond.selects RX8 yX8_its yX8_its, Cond.code yX8_its cX8_its 3 (some .int), Cond.methodLink RX8 66 yX8_nextSort, Cond.instanceMethod yX8_nextSort, Cond.selects RX8 yX8_nextSort yX8_nextSort, Cond.code yX8_nextSort cX8_nextSort 2 (some .int), Cond.methodLink RX8 54 yX8_many, Cond.instanceMethod yX8_many, Cond.selects RX8 yX8_many yX8_many, Cond.code yX8_many cX8_many 4 (some .int), Cond.methodLink RX8 70 yX8_oldest, Cond.instanceMethod yX8_oldest, Cond.selects RX8 yX8_oldest yX8_oldest, Cond.code yX8_oldest cX8_oldest 4 (some .int), Cond.methodLink RX8 73 yX8_isOld, Cond.instanceMethod yX8_isOld, Cond.selects RX8 yX8_isOld yX8_isOld, Cond.code yX8_isOld cX8_isOld 2 (some .boolean), Cond.methodLink RX8 83 yX8_minute, Cond.instanceMethod yX8_minute, Cond.selects RX8 yX8_minute yX8_minute]
def wsX8_serves_r3 : List Cond := [Cond.code yX8_minute cX8_minute 1 (some .int), Cond.methodLink RX8 77 yX8_far, Cond.static yX8_far, Cond.code yX8_far cX8_far 2 (some .int), Cond.methodLink RX8 86 yX8_lastOf, Cond.instanceMethod yX8_lastOf, Cond.selects RX8 yX8_lastOf yX8_lastOf, Cond.code yX8_lastOf cX8_lastOf 2 (some .int), Cond.methodLink RX8 89 yX8_note, Cond.instanceMethod yX8_note, Cond.selects RX8 yX8_note yX8_note, Cond.code yX8_note cX8_note 5 none, Cond.methodLink RX8 93 yX8_drop, Cond.instanceMethod yX8_drop, Cond.selects RX8 yX8_drop yX8_drop, Cond.code yX8_drop cX8_drop 3 none, Cond.methodLink RX8 112 yX8_putBack, Cond.instanceMethod yX8_putBack, Cond.selects RX8 yX8_putBack yX8_putBack, Cond.code yX8_putBack cX8_putBack 2 none]
def wsX8_serves : List Cond := .code yX8_serves cX8_serves 3 (some .int) :: ((wsX8_serves_r1 ++ (wsX8_serves_r2 ++ wsX8_serves_r3)) ++ wsX80)
def wsX8_waits : List Cond := .code yX8_waits cX8_waits 2 (some .int) :: ([.fieldLink RX8 7 "DrawerSlipsModel" "row" "[I", .constant RX8 111 (99999), .methodLink RX8 43 yX8_in, .static yX8_in, .initialized RX8, .code yX8_in cX8_in 4 (some .boolean)] ++ wsX80)
def wsX8_leastOf : List Cond := .code yX8_leastOf cX8_leastOf 1 (some .int) :: ([])
def wsX8_mostOf : List Cond := .code yX8_mostOf cX8_mostOf 1 (some .int) :: ([])
def wsX8_set : List Cond := .code yX8_set cX8_set 4 (some .int) :: ([.fieldLink RX8 7 "DrawerSlipsModel" "row" "[I", .methodLink RX8 43 yX8_in, .static yX8_in, .initialized RX8, .code yX8_in cX8_in 4 (some .boolean), .methodLink RX8 115 yX8_leastOf, .static yX8_leastOf, .code yX8_leastOf cX8_leastOf 1 (some .int), .methodLink RX8 118 yX8_mostOf, .static yX8_mostOf, .code yX8_mostOf cX8_mostOf 1 (some .int), .methodLink RX8 47 yX8_remember, .instanceMethod yX8_remember, .selects RX8 yX8_remember yX8_remember, .code yX8_remember cX8_remember 2 none, .fieldLink RX8 16 "DrawerSlipsModel" "before" "[I", .methodLink RX8 50 yX8_record, .instanceMethod yX8_record, .selects RX8 yX8_record yX8_record, .code yX8_record cX8_record 3 (some .int), .fieldLink RX8 39 "DrawerSlipsModel" "states" "I", .fieldLink RX8 13 "DrawerSlipsModel" "past" "[I"] ++ wsX80)
def wsX8_slip_r1 : List Cond := [Cond.methodLink RX8 47 yX8_remember, Cond.instanceMethod yX8_remember, Cond.selects RX8 yX8_remember yX8_remember, Cond.initialized RX8, Cond.code yX8_remember cX8_remember 2 none, Cond.fieldLink RX8 16 "DrawerSlipsModel" "before" "[I", Cond.fieldLink RX8 7 "DrawerSlipsModel" "row" "[I", Cond.methodLink RX8 121 yX8_comes, Cond.instanceMethod yX8_comes, Cond.selects RX8 yX8_comes yX8_comes, Cond.code yX8_comes cX8_comes 6 (some .int), Cond.methodLink RX8 97 yX8_isSlip, Cond.static yX8_isSlip, Cond.code yX8_isSlip cX8_isSlip 3 (some .boolean), Cond.methodLink RX8 43 yX8_in, Cond.static yX8_in, Cond.code yX8_in cX8_in 4 (some .boolean), Cond.methodLink RX8 101 yX8_partner, Cond.instanceMethod yX8_partner, Cond.selects RX8 yX8_partner yX8_partner, Cond.code yX8_partner cX8_partner 5 (some .int), Cond.methodLink RX8 35 yX8_its, Cond.instanceMethod yX8_its, Cond.selects RX8 yX8_its yX8_its]
def wsX8_slip_r2 : List Cond := [Cond.code yX8_its cX8_its 3 (some .int), Cond.methodLink RX8 86 yX8_lastOf, Cond.instanceMethod yX8_lastOf, Cond.selects RX8 yX8_lastOf yX8_lastOf, Cond.code yX8_lastOf cX8_lastOf 2 (some .int), Cond.methodLink RX8 50 yX8_record, Cond.instanceMethod yX8_record, Cond.selects RX8 yX8_record yX8_record, Cond.code yX8_record cX8_record 3 (some .int), Cond.fieldLink RX8 39 "DrawerSlipsModel" "states" "I", Cond.fieldLink RX8 13 "DrawerSlipsModel" "past" "[I"]
def wsX8_slip : List Cond := .code yX8_slip cX8_slip 4 (some .int) :: ((wsX8_slip_r1 ++ wsX8_slip_r2) ++ wsX80)
def wsX8_tear_r1 : List Cond := [Cond.fieldLink RX8 7 "DrawerSlipsModel" "row" "[I", Cond.methodLink RX8 124 yX8_find, Cond.instanceMethod yX8_find, Cond.selects RX8 yX8_find yX8_find, Cond.initialized RX8, Cond.code yX8_find cX8_find 3 (some .int), Cond.methodLink RX8 35 yX8_its, Cond.instanceMethod yX8_its, Cond.selects RX8 yX8_its yX8_its, Cond.code yX8_its cX8_its 3 (some .int), Cond.methodLink RX8 47 yX8_remember, Cond.instanceMethod yX8_remember, Cond.selects RX8 yX8_remember yX8_remember, Cond.code yX8_remember cX8_remember 2 none, Cond.fieldLink RX8 16 "DrawerSlipsModel" "before" "[I", Cond.methodLink RX8 93 yX8_drop, Cond.instanceMethod yX8_drop, Cond.selects RX8 yX8_drop yX8_drop, Cond.code yX8_drop cX8_drop 3 none, Cond.methodLink RX8 50 yX8_record, Cond.instanceMethod yX8_record, Cond.selects RX8 yX8_record yX8_record, Cond.code yX8_record cX8_record 3 (some .int), Cond.fieldLink RX8 39 "DrawerSlipsModel" "states" "I"]
def wsX8_tear_r2 : List Cond := [Cond.fieldLink RX8 13 "DrawerSlipsModel" "past" "[I"]
def wsX8_tear : List Cond := .code yX8_tear cX8_tear 4 (some .int) :: ((wsX8_tear_r1 ++ wsX8_tear_r2) ++ wsX80)
def wsX8_serve_r1 : List Cond := [Cond.methodLink RX8 47 yX8_remember, Cond.instanceMethod yX8_remember, Cond.selects RX8 yX8_remember yX8_remember, Cond.initialized RX8, Cond.code yX8_remember cX8_remember 2 none, Cond.fieldLink RX8 16 "DrawerSlipsModel" "before" "[I", Cond.fieldLink RX8 7 "DrawerSlipsModel" "row" "[I", Cond.methodLink RX8 127 yX8_serves, Cond.instanceMethod yX8_serves, Cond.selects RX8 yX8_serves yX8_serves, Cond.code yX8_serves cX8_serves 3 (some .int), Cond.constant RX8 111 (99999), Cond.methodLink RX8 43 yX8_in, Cond.static yX8_in, Cond.code yX8_in cX8_in 4 (some .boolean), Cond.methodLink RX8 105 yX8_layAside, Cond.instanceMethod yX8_layAside, Cond.selects RX8 yX8_layAside yX8_layAside, Cond.code yX8_layAside cX8_layAside 2 none, Cond.fieldLink RX8 19 "DrawerSlipsModel" "aside" "[I", Cond.methodLink RX8 108 yX8_serveOne, Cond.instanceMethod yX8_serveOne, Cond.selects RX8 yX8_serveOne yX8_serveOne, Cond.code yX8_serveOne cX8_serveOne 4 none]
def wsX8_serve_r2 : List Cond := [Cond.fieldLink RX8 60 "DrawerSlipsModel" "place" "I", Cond.fieldLink RX8 63 "DrawerSlipsModel" "why" "I", Cond.methodLink RX8 80 yX8_look, Cond.instanceMethod yX8_look, Cond.selects RX8 yX8_look yX8_look, Cond.code yX8_look cX8_look 2 none, Cond.methodLink RX8 57 yX8_lowest, Cond.instanceMethod yX8_lowest, Cond.selects RX8 yX8_lowest yX8_lowest, Cond.code yX8_lowest cX8_lowest 6 (some .int), Cond.methodLink RX8 35 yX8_its, Cond.instanceMethod yX8_its, Cond.selects RX8 yX8_its yX8_its, Cond.code yX8_its cX8_its 3 (some .int), Cond.methodLink RX8 66 yX8_nextSort, Cond.instanceMethod yX8_nextSort, Cond.selects RX8 yX8_nextSort yX8_nextSort, Cond.code yX8_nextSort cX8_nextSort 2 (some .int), Cond.methodLink RX8 54 yX8_many, Cond.instanceMethod yX8_many, Cond.selects RX8 yX8_many yX8_many, Cond.code yX8_many cX8_many 4 (some .int), Cond.methodLink RX8 70 yX8_oldest, Cond.instanceMethod yX8_oldest]
def wsX8_serve_r3 : List Cond := [Cond.selects RX8 yX8_oldest yX8_oldest, Cond.code yX8_oldest cX8_oldest 4 (some .int), Cond.methodLink RX8 73 yX8_isOld, Cond.instanceMethod yX8_isOld, Cond.selects RX8 yX8_isOld yX8_isOld, Cond.code yX8_isOld cX8_isOld 2 (some .boolean), Cond.methodLink RX8 83 yX8_minute, Cond.instanceMethod yX8_minute, Cond.selects RX8 yX8_minute yX8_minute, Cond.code yX8_minute cX8_minute 1 (some .int), Cond.methodLink RX8 77 yX8_far, Cond.static yX8_far, Cond.code yX8_far cX8_far 2 (some .int), Cond.methodLink RX8 86 yX8_lastOf, Cond.instanceMethod yX8_lastOf, Cond.selects RX8 yX8_lastOf yX8_lastOf, Cond.code yX8_lastOf cX8_lastOf 2 (some .int), Cond.methodLink RX8 89 yX8_note, Cond.instanceMethod yX8_note, Cond.selects RX8 yX8_note yX8_note, Cond.code yX8_note cX8_note 5 none, Cond.methodLink RX8 93 yX8_drop, Cond.instanceMethod yX8_drop, Cond.selects RX8 yX8_drop yX8_drop]
def wsX8_serve_r4 : List Cond := [Cond.code yX8_drop cX8_drop 3 none, Cond.methodLink RX8 112 yX8_putBack, Cond.instanceMethod yX8_putBack, Cond.selects RX8 yX8_putBack yX8_putBack, Cond.code yX8_putBack cX8_putBack 2 none, Cond.methodLink RX8 50 yX8_record, Cond.instanceMethod yX8_record, Cond.selects RX8 yX8_record yX8_record, Cond.code yX8_record cX8_record 3 (some .int), Cond.fieldLink RX8 39 "DrawerSlipsModel" "states" "I", Cond.fieldLink RX8 13 "DrawerSlipsModel" "past" "[I"]
def wsX8_serve : List Cond := .code yX8_serve cX8_serve 2 (some .int) :: ((wsX8_serve_r1 ++ (wsX8_serve_r2 ++ (wsX8_serve_r3 ++ wsX8_serve_r4))) ++ wsX80)
def wsX8_pass : List Cond := .code yX8_pass cX8_pass 2 (some .int) :: ([.methodLink RX8 47 yX8_remember, .instanceMethod yX8_remember, .selects RX8 yX8_remember yX8_remember, .initialized RX8, .code yX8_remember cX8_remember 2 none, .fieldLink RX8 16 "DrawerSlipsModel" "before" "[I", .fieldLink RX8 7 "DrawerSlipsModel" "row" "[I", .methodLink RX8 130 yX8_waits, .instanceMethod yX8_waits, .selects RX8 yX8_waits yX8_waits, .code yX8_waits cX8_waits 2 (some .int), .constant RX8 111 (99999), .methodLink RX8 43 yX8_in, .static yX8_in, .code yX8_in cX8_in 4 (some .boolean), .methodLink RX8 50 yX8_record, .instanceMethod yX8_record, .selects RX8 yX8_record yX8_record, .code yX8_record cX8_record 3 (some .int), .fieldLink RX8 39 "DrawerSlipsModel" "states" "I", .fieldLink RX8 13 "DrawerSlipsModel" "past" "[I"] ++ wsX80)
def wsX8_of : List Cond := .code yX8_of cX8_of 4 (some .int) :: ([.fieldLink RX8 7 "DrawerSlipsModel" "row" "[I", .methodLink RX8 124 yX8_find, .instanceMethod yX8_find, .selects RX8 yX8_find yX8_find, .initialized RX8, .code yX8_find cX8_find 3 (some .int), .methodLink RX8 35 yX8_its, .instanceMethod yX8_its, .selects RX8 yX8_its yX8_its, .code yX8_its cX8_its 3 (some .int), .methodLink RX8 86 yX8_lastOf, .instanceMethod yX8_lastOf, .selects RX8 yX8_lastOf yX8_lastOf, .code yX8_lastOf cX8_lastOf 2 (some .int), .methodLink RX8 73 yX8_isOld, .instanceMethod yX8_isOld, .selects RX8 yX8_isOld yX8_isOld, .code yX8_isOld cX8_isOld 2 (some .boolean)] ++ wsX80)
def wsX8_rank : List Cond := .code yX8_rank cX8_rank 5 (some .int) :: ([.fieldLink RX8 7 "DrawerSlipsModel" "row" "[I", .methodLink RX8 35 yX8_its, .instanceMethod yX8_its, .selects RX8 yX8_its yX8_its, .initialized RX8, .code yX8_its cX8_its 3 (some .int)] ++ wsX80)
def wsX8_waiting : List Cond := .code yX8_waiting cX8_waiting 4 (some .int) :: ([.fieldLink RX8 7 "DrawerSlipsModel" "row" "[I", .methodLink RX8 43 yX8_in, .static yX8_in, .initialized RX8, .code yX8_in cX8_in 4 (some .boolean), .methodLink RX8 35 yX8_its, .instanceMethod yX8_its, .selects RX8 yX8_its yX8_its, .code yX8_its cX8_its 3 (some .int), .methodLink RX8 133 yX8_rank, .instanceMethod yX8_rank, .selects RX8 yX8_rank yX8_rank, .code yX8_rank cX8_rank 5 (some .int)] ++ wsX80)
def wsX8_log : List Cond := .code yX8_log cX8_log 3 (some .int) :: ([.fieldLink RX8 7 "DrawerSlipsModel" "row" "[I", .methodLink RX8 43 yX8_in, .static yX8_in, .initialized RX8, .code yX8_in cX8_in 4 (some .boolean)] ++ wsX80)
def wsX8_count : List Cond := .code yX8_count cX8_count 2 (some .int) :: ([.fieldLink RX8 7 "DrawerSlipsModel" "row" "[I", .fieldLink RX8 136 "DrawerSlipsModel" "length" "I", .fieldLink RX8 39 "DrawerSlipsModel" "states" "I", .methodLink RX8 43 yX8_in, .static yX8_in, .initialized RX8, .code yX8_in cX8_in 4 (some .boolean), .methodLink RX8 54 yX8_many, .instanceMethod yX8_many, .selects RX8 yX8_many yX8_many, .code yX8_many cX8_many 4 (some .int), .methodLink RX8 35 yX8_its, .instanceMethod yX8_its, .selects RX8 yX8_its yX8_its, .code yX8_its cX8_its 3 (some .int)] ++ wsX80)
def wsX8_next_r1 : List Cond := [Cond.fieldLink RX8 7 "DrawerSlipsModel" "row" "[I", Cond.fieldLink RX8 60 "DrawerSlipsModel" "place" "I", Cond.fieldLink RX8 63 "DrawerSlipsModel" "why" "I", Cond.methodLink RX8 43 yX8_in, Cond.static yX8_in, Cond.initialized RX8, Cond.code yX8_in cX8_in 4 (some .boolean), Cond.methodLink RX8 80 yX8_look, Cond.instanceMethod yX8_look, Cond.selects RX8 yX8_look yX8_look, Cond.code yX8_look cX8_look 2 none, Cond.methodLink RX8 57 yX8_lowest, Cond.instanceMethod yX8_lowest, Cond.selects RX8 yX8_lowest yX8_lowest, Cond.code yX8_lowest cX8_lowest 6 (some .int), Cond.methodLink RX8 35 yX8_its, Cond.instanceMethod yX8_its, Cond.selects RX8 yX8_its yX8_its, Cond.code yX8_its cX8_its 3 (some .int), Cond.methodLink RX8 66 yX8_nextSort, Cond.instanceMethod yX8_nextSort, Cond.selects RX8 yX8_nextSort yX8_nextSort, Cond.code yX8_nextSort cX8_nextSort 2 (some .int), Cond.methodLink RX8 54 yX8_many]
def wsX8_next_r2 : List Cond := [Cond.instanceMethod yX8_many, Cond.selects RX8 yX8_many yX8_many, Cond.code yX8_many cX8_many 4 (some .int), Cond.methodLink RX8 70 yX8_oldest, Cond.instanceMethod yX8_oldest, Cond.selects RX8 yX8_oldest yX8_oldest, Cond.code yX8_oldest cX8_oldest 4 (some .int), Cond.methodLink RX8 73 yX8_isOld, Cond.instanceMethod yX8_isOld, Cond.selects RX8 yX8_isOld yX8_isOld, Cond.code yX8_isOld cX8_isOld 2 (some .boolean), Cond.methodLink RX8 83 yX8_minute, Cond.instanceMethod yX8_minute, Cond.selects RX8 yX8_minute yX8_minute, Cond.code yX8_minute cX8_minute 1 (some .int), Cond.methodLink RX8 77 yX8_far, Cond.static yX8_far, Cond.code yX8_far cX8_far 2 (some .int)]
def wsX8_next : List Cond := .code yX8_next cX8_next 2 (some .int) :: ((wsX8_next_r1 ++ wsX8_next_r2) ++ wsX80)
def wsX8_servedIn_r1 : List Cond := [Cond.fieldLink RX8 7 "DrawerSlipsModel" "row" "[I", Cond.methodLink RX8 124 yX8_find, Cond.instanceMethod yX8_find, Cond.selects RX8 yX8_find yX8_find, Cond.initialized RX8, Cond.code yX8_find cX8_find 3 (some .int), Cond.methodLink RX8 35 yX8_its, Cond.instanceMethod yX8_its, Cond.selects RX8 yX8_its yX8_its, Cond.code yX8_its cX8_its 3 (some .int), Cond.methodLink RX8 105 yX8_layAside, Cond.instanceMethod yX8_layAside, Cond.selects RX8 yX8_layAside yX8_layAside, Cond.code yX8_layAside cX8_layAside 2 none, Cond.fieldLink RX8 19 "DrawerSlipsModel" "aside" "[I", Cond.methodLink RX8 108 yX8_serveOne, Cond.instanceMethod yX8_serveOne, Cond.selects RX8 yX8_serveOne yX8_serveOne, Cond.code yX8_serveOne cX8_serveOne 4 none, Cond.fieldLink RX8 60 "DrawerSlipsModel" "place" "I", Cond.fieldLink RX8 63 "DrawerSlipsModel" "why" "I", Cond.methodLink RX8 80 yX8_look, Cond.instanceMethod yX8_look, Cond.selects RX8 yX8_look yX8_look]
def wsX8_servedIn_r2 : List Cond := [Cond.code yX8_look cX8_look 2 none, Cond.methodLink RX8 57 yX8_lowest, Cond.instanceMethod yX8_lowest, Cond.selects RX8 yX8_lowest yX8_lowest, Cond.code yX8_lowest cX8_lowest 6 (some .int), Cond.methodLink RX8 66 yX8_nextSort, Cond.instanceMethod yX8_nextSort, Cond.selects RX8 yX8_nextSort yX8_nextSort, Cond.code yX8_nextSort cX8_nextSort 2 (some .int), Cond.methodLink RX8 54 yX8_many, Cond.instanceMethod yX8_many, Cond.selects RX8 yX8_many yX8_many, Cond.code yX8_many cX8_many 4 (some .int), Cond.methodLink RX8 70 yX8_oldest, Cond.instanceMethod yX8_oldest, Cond.selects RX8 yX8_oldest yX8_oldest, Cond.code yX8_oldest cX8_oldest 4 (some .int), Cond.methodLink RX8 73 yX8_isOld, Cond.instanceMethod yX8_isOld, Cond.selects RX8 yX8_isOld yX8_isOld, Cond.code yX8_isOld cX8_isOld 2 (some .boolean), Cond.methodLink RX8 83 yX8_minute, Cond.instanceMethod yX8_minute, Cond.selects RX8 yX8_minute yX8_minute]
def wsX8_servedIn_r3 : List Cond := [Cond.code yX8_minute cX8_minute 1 (some .int), Cond.methodLink RX8 77 yX8_far, Cond.static yX8_far, Cond.code yX8_far cX8_far 2 (some .int), Cond.methodLink RX8 86 yX8_lastOf, Cond.instanceMethod yX8_lastOf, Cond.selects RX8 yX8_lastOf yX8_lastOf, Cond.code yX8_lastOf cX8_lastOf 2 (some .int), Cond.methodLink RX8 89 yX8_note, Cond.instanceMethod yX8_note, Cond.selects RX8 yX8_note yX8_note, Cond.code yX8_note cX8_note 5 none, Cond.methodLink RX8 93 yX8_drop, Cond.instanceMethod yX8_drop, Cond.selects RX8 yX8_drop yX8_drop, Cond.code yX8_drop cX8_drop 3 none, Cond.methodLink RX8 112 yX8_putBack, Cond.instanceMethod yX8_putBack, Cond.selects RX8 yX8_putBack yX8_putBack, Cond.code yX8_putBack cX8_putBack 2 none]
def wsX8_servedIn : List Cond := .code yX8_servedIn cX8_servedIn 4 (some .int) :: ((wsX8_servedIn_r1 ++ (wsX8_servedIn_r2 ++ wsX8_servedIn_r3)) ++ wsX80)
def wsX8_all_r1 : List Cond := [Cond.fieldLink RX8 7 "DrawerSlipsModel" "row" "[I", Cond.methodLink RX8 43 yX8_in, Cond.static yX8_in, Cond.initialized RX8, Cond.code yX8_in cX8_in 4 (some .boolean), Cond.methodLink RX8 105 yX8_layAside, Cond.instanceMethod yX8_layAside, Cond.selects RX8 yX8_layAside yX8_layAside, Cond.code yX8_layAside cX8_layAside 2 none, Cond.fieldLink RX8 19 "DrawerSlipsModel" "aside" "[I", Cond.methodLink RX8 108 yX8_serveOne, Cond.instanceMethod yX8_serveOne, Cond.selects RX8 yX8_serveOne yX8_serveOne, Cond.code yX8_serveOne cX8_serveOne 4 none, Cond.fieldLink RX8 60 "DrawerSlipsModel" "place" "I", Cond.fieldLink RX8 63 "DrawerSlipsModel" "why" "I", Cond.methodLink RX8 80 yX8_look, Cond.instanceMethod yX8_look, Cond.selects RX8 yX8_look yX8_look, Cond.code yX8_look cX8_look 2 none, Cond.methodLink RX8 57 yX8_lowest, Cond.instanceMethod yX8_lowest, Cond.selects RX8 yX8_lowest yX8_lowest, Cond.code yX8_lowest cX8_lowest 6 (some .int)]
def wsX8_all_r2 : List Cond := [Cond.methodLink RX8 35 yX8_its, Cond.instanceMethod yX8_its, Cond.selects RX8 yX8_its yX8_its, Cond.code yX8_its cX8_its 3 (some .int), Cond.methodLink RX8 66 yX8_nextSort, Cond.instanceMethod yX8_nextSort, Cond.selects RX8 yX8_nextSort yX8_nextSort, Cond.code yX8_nextSort cX8_nextSort 2 (some .int), Cond.methodLink RX8 54 yX8_many, Cond.instanceMethod yX8_many, Cond.selects RX8 yX8_many yX8_many, Cond.code yX8_many cX8_many 4 (some .int), Cond.methodLink RX8 70 yX8_oldest, Cond.instanceMethod yX8_oldest, Cond.selects RX8 yX8_oldest yX8_oldest, Cond.code yX8_oldest cX8_oldest 4 (some .int), Cond.methodLink RX8 73 yX8_isOld, Cond.instanceMethod yX8_isOld, Cond.selects RX8 yX8_isOld yX8_isOld, Cond.code yX8_isOld cX8_isOld 2 (some .boolean), Cond.methodLink RX8 83 yX8_minute, Cond.instanceMethod yX8_minute, Cond.selects RX8 yX8_minute yX8_minute, Cond.code yX8_minute cX8_minute 1 (some .int)]
def wsX8_all_r3 : List Cond := [Cond.methodLink RX8 77 yX8_far, Cond.static yX8_far, Cond.code yX8_far cX8_far 2 (some .int), Cond.methodLink RX8 86 yX8_lastOf, Cond.instanceMethod yX8_lastOf, Cond.selects RX8 yX8_lastOf yX8_lastOf, Cond.code yX8_lastOf cX8_lastOf 2 (some .int), Cond.methodLink RX8 89 yX8_note, Cond.instanceMethod yX8_note, Cond.selects RX8 yX8_note yX8_note, Cond.code yX8_note cX8_note 5 none, Cond.methodLink RX8 93 yX8_drop, Cond.instanceMethod yX8_drop, Cond.selects RX8 yX8_drop yX8_drop, Cond.code yX8_drop cX8_drop 3 none, Cond.methodLink RX8 112 yX8_putBack, Cond.instanceMethod yX8_putBack, Cond.selects RX8 yX8_putBack yX8_putBack, Cond.code yX8_putBack cX8_putBack 2 none]
def wsX8_all : List Cond := .code yX8_all cX8_all 5 (some .int) :: ((wsX8_all_r1 ++ (wsX8_all_r2 ++ wsX8_all_r3)) ++ wsX80)
def wsX8_joined : List Cond := .code yX8_joined cX8_joined 5 (some .int) :: ([.methodLink RX8 97 yX8_isSlip, .static yX8_isSlip, .initialized RX8, .code yX8_isSlip cX8_isSlip 3 (some .boolean), .methodLink RX8 43 yX8_in, .static yX8_in, .code yX8_in cX8_in 4 (some .boolean), .methodLink RX8 101 yX8_partner, .instanceMethod yX8_partner, .selects RX8 yX8_partner yX8_partner, .code yX8_partner cX8_partner 5 (some .int), .fieldLink RX8 7 "DrawerSlipsModel" "row" "[I", .methodLink RX8 35 yX8_its, .instanceMethod yX8_its, .selects RX8 yX8_its yX8_its, .code yX8_its cX8_its 3 (some .int), .methodLink RX8 86 yX8_lastOf, .instanceMethod yX8_lastOf, .selects RX8 yX8_lastOf yX8_lastOf, .code yX8_lastOf cX8_lastOf 2 (some .int)] ++ wsX80)
def wsX8_put : List Cond := .code yX8_put cX8_put 7 (some .int) :: ([.fieldLink RX8 32 "DrawerSlipsModel" "codes" "[I", .constantLong RX8 139 (255), .fieldLink RX8 136 "DrawerSlipsModel" "length" "I", .fieldLink RX8 29 "DrawerSlipsModel" "pad" "[I", .methodLink RX8 43 yX8_in, .static yX8_in, .initialized RX8, .code yX8_in cX8_in 4 (some .boolean)] ++ wsX80)
def wsX8_wipe : List Cond := .code yX8_wipe cX8_wipe 2 (some .int) :: ([.fieldLink RX8 136 "DrawerSlipsModel" "length" "I"] ++ wsX80)
def wsX8_sees : List Cond := .code yX8_sees cX8_sees 3 (some .boolean) :: ([.fieldLink RX8 141 "DrawerSlipsModel" "at" "I", .fieldLink RX8 136 "DrawerSlipsModel" "length" "I", .fieldLink RX8 29 "DrawerSlipsModel" "pad" "[I", .methodLink RX8 43 yX8_in, .static yX8_in, .initialized RX8, .code yX8_in cX8_in 4 (some .boolean)] ++ wsX80)
def wsX8_number : List Cond := .code yX8_number cX8_number 2 (some .int) :: ([.fieldLink RX8 29 "DrawerSlipsModel" "pad" "[I", .fieldLink RX8 141 "DrawerSlipsModel" "at" "I", .methodLink RX8 144 yX8_sees, .instanceMethod yX8_sees, .selects RX8 yX8_sees yX8_sees, .initialized RX8, .code yX8_sees cX8_sees 3 (some .boolean), .fieldLink RX8 136 "DrawerSlipsModel" "length" "I", .methodLink RX8 43 yX8_in, .static yX8_in, .code yX8_in cX8_in 4 (some .boolean)] ++ wsX80)
def wsX8_order_r1 : List Cond := [Cond.fieldLink RX8 141 "DrawerSlipsModel" "at" "I", Cond.fieldLink RX8 136 "DrawerSlipsModel" "length" "I", Cond.fieldLink RX8 29 "DrawerSlipsModel" "pad" "[I", Cond.methodLink RX8 144 yX8_sees, Cond.instanceMethod yX8_sees, Cond.selects RX8 yX8_sees yX8_sees, Cond.initialized RX8, Cond.code yX8_sees cX8_sees 3 (some .boolean), Cond.methodLink RX8 43 yX8_in, Cond.static yX8_in, Cond.code yX8_in cX8_in 4 (some .boolean), Cond.methodLink RX8 148 yX8_number, Cond.instanceMethod yX8_number, Cond.selects RX8 yX8_number yX8_number, Cond.code yX8_number cX8_number 2 (some .int), Cond.methodLink RX8 121 yX8_comes, Cond.instanceMethod yX8_comes, Cond.selects RX8 yX8_comes yX8_comes, Cond.code yX8_comes cX8_comes 6 (some .int), Cond.fieldLink RX8 7 "DrawerSlipsModel" "row" "[I", Cond.methodLink RX8 97 yX8_isSlip, Cond.static yX8_isSlip, Cond.code yX8_isSlip cX8_isSlip 3 (some .boolean), Cond.methodLink RX8 101 yX8_partner]
def wsX8_order_r2 : List Cond := [Cond.instanceMethod yX8_partner, Cond.selects RX8 yX8_partner yX8_partner, Cond.code yX8_partner cX8_partner 5 (some .int), Cond.methodLink RX8 35 yX8_its, Cond.instanceMethod yX8_its, Cond.selects RX8 yX8_its yX8_its, Cond.code yX8_its cX8_its 3 (some .int), Cond.methodLink RX8 86 yX8_lastOf, Cond.instanceMethod yX8_lastOf, Cond.selects RX8 yX8_lastOf yX8_lastOf, Cond.code yX8_lastOf cX8_lastOf 2 (some .int), Cond.methodLink RX8 127 yX8_serves, Cond.instanceMethod yX8_serves, Cond.selects RX8 yX8_serves yX8_serves, Cond.code yX8_serves cX8_serves 3 (some .int), Cond.constant RX8 111 (99999), Cond.methodLink RX8 105 yX8_layAside, Cond.instanceMethod yX8_layAside, Cond.selects RX8 yX8_layAside yX8_layAside, Cond.code yX8_layAside cX8_layAside 2 none, Cond.fieldLink RX8 19 "DrawerSlipsModel" "aside" "[I", Cond.methodLink RX8 108 yX8_serveOne, Cond.instanceMethod yX8_serveOne, Cond.selects RX8 yX8_serveOne yX8_serveOne]
def wsX8_order_r3 : List Cond := [Cond.code yX8_serveOne cX8_serveOne 4 none, Cond.fieldLink RX8 60 "DrawerSlipsModel" "place" "I", Cond.fieldLink RX8 63 "DrawerSlipsModel" "why" "I", Cond.methodLink RX8 80 yX8_look, Cond.instanceMethod yX8_look, Cond.selects RX8 yX8_look yX8_look, Cond.code yX8_look cX8_look 2 none, Cond.methodLink RX8 57 yX8_lowest, Cond.instanceMethod yX8_lowest, Cond.selects RX8 yX8_lowest yX8_lowest, Cond.code yX8_lowest cX8_lowest 6 (some .int), Cond.methodLink RX8 66 yX8_nextSort, Cond.instanceMethod yX8_nextSort, Cond.selects RX8 yX8_nextSort yX8_nextSort, Cond.code yX8_nextSort cX8_nextSort 2 (some .int), Cond.methodLink RX8 54 yX8_many, Cond.instanceMethod yX8_many, Cond.selects RX8 yX8_many yX8_many, Cond.code yX8_many cX8_many 4 (some .int), Cond.methodLink RX8 70 yX8_oldest, Cond.instanceMethod yX8_oldest, Cond.selects RX8 yX8_oldest yX8_oldest, Cond.code yX8_oldest cX8_oldest 4 (some .int), Cond.methodLink RX8 73 yX8_isOld]
def wsX8_order_r4 : List Cond := [Cond.instanceMethod yX8_isOld, Cond.selects RX8 yX8_isOld yX8_isOld, Cond.code yX8_isOld cX8_isOld 2 (some .boolean), Cond.methodLink RX8 83 yX8_minute, Cond.instanceMethod yX8_minute, Cond.selects RX8 yX8_minute yX8_minute, Cond.code yX8_minute cX8_minute 1 (some .int), Cond.methodLink RX8 77 yX8_far, Cond.static yX8_far, Cond.code yX8_far cX8_far 2 (some .int), Cond.methodLink RX8 89 yX8_note, Cond.instanceMethod yX8_note, Cond.selects RX8 yX8_note yX8_note, Cond.code yX8_note cX8_note 5 none, Cond.methodLink RX8 93 yX8_drop, Cond.instanceMethod yX8_drop, Cond.selects RX8 yX8_drop yX8_drop, Cond.code yX8_drop cX8_drop 3 none, Cond.methodLink RX8 112 yX8_putBack, Cond.instanceMethod yX8_putBack, Cond.selects RX8 yX8_putBack yX8_putBack, Cond.code yX8_putBack cX8_putBack 2 none, Cond.methodLink RX8 130 yX8_waits, Cond.instanceMethod yX8_waits]
def wsX8_order_r5 : List Cond := [Cond.selects RX8 yX8_waits yX8_waits, Cond.code yX8_waits cX8_waits 2 (some .int)]
def wsX8_order : List Cond := .code yX8_order cX8_order 6 (some .int) :: ((wsX8_order_r1 ++ (wsX8_order_r2 ++ (wsX8_order_r3 ++ (wsX8_order_r4 ++ wsX8_order_r5)))) ++ wsX80)
def wsX8_isWell_r1 : List Cond := [Cond.fieldLink RX8 141 "DrawerSlipsModel" "at" "I", Cond.fieldLink RX8 136 "DrawerSlipsModel" "length" "I", Cond.methodLink RX8 151 yX8_order, Cond.instanceMethod yX8_order, Cond.selects RX8 yX8_order yX8_order, Cond.initialized RX8, Cond.code yX8_order cX8_order 6 (some .int), Cond.fieldLink RX8 29 "DrawerSlipsModel" "pad" "[I", Cond.methodLink RX8 144 yX8_sees, Cond.instanceMethod yX8_sees, Cond.selects RX8 yX8_sees yX8_sees, Cond.code yX8_sees cX8_sees 3 (some .boolean), Cond.methodLink RX8 43 yX8_in, Cond.static yX8_in, Cond.code yX8_in cX8_in 4 (some .boolean), Cond.methodLink RX8 148 yX8_number, Cond.instanceMethod yX8_number, Cond.selects RX8 yX8_number yX8_number, Cond.code yX8_number cX8_number 2 (some .int), Cond.methodLink RX8 121 yX8_comes, Cond.instanceMethod yX8_comes, Cond.selects RX8 yX8_comes yX8_comes, Cond.code yX8_comes cX8_comes 6 (some .int), Cond.fieldLink RX8 7 "DrawerSlipsModel" "row" "[I"]
def wsX8_isWell_r2 : List Cond := [Cond.methodLink RX8 97 yX8_isSlip, Cond.static yX8_isSlip, Cond.code yX8_isSlip cX8_isSlip 3 (some .boolean), Cond.methodLink RX8 101 yX8_partner, Cond.instanceMethod yX8_partner, Cond.selects RX8 yX8_partner yX8_partner, Cond.code yX8_partner cX8_partner 5 (some .int), Cond.methodLink RX8 35 yX8_its, Cond.instanceMethod yX8_its, Cond.selects RX8 yX8_its yX8_its, Cond.code yX8_its cX8_its 3 (some .int), Cond.methodLink RX8 86 yX8_lastOf, Cond.instanceMethod yX8_lastOf, Cond.selects RX8 yX8_lastOf yX8_lastOf, Cond.code yX8_lastOf cX8_lastOf 2 (some .int), Cond.methodLink RX8 127 yX8_serves, Cond.instanceMethod yX8_serves, Cond.selects RX8 yX8_serves yX8_serves, Cond.code yX8_serves cX8_serves 3 (some .int), Cond.constant RX8 111 (99999), Cond.methodLink RX8 105 yX8_layAside, Cond.instanceMethod yX8_layAside, Cond.selects RX8 yX8_layAside yX8_layAside, Cond.code yX8_layAside cX8_layAside 2 none]
def wsX8_isWell_r3 : List Cond := [Cond.fieldLink RX8 19 "DrawerSlipsModel" "aside" "[I", Cond.methodLink RX8 108 yX8_serveOne, Cond.instanceMethod yX8_serveOne, Cond.selects RX8 yX8_serveOne yX8_serveOne, Cond.code yX8_serveOne cX8_serveOne 4 none, Cond.fieldLink RX8 60 "DrawerSlipsModel" "place" "I", Cond.fieldLink RX8 63 "DrawerSlipsModel" "why" "I", Cond.methodLink RX8 80 yX8_look, Cond.instanceMethod yX8_look, Cond.selects RX8 yX8_look yX8_look, Cond.code yX8_look cX8_look 2 none, Cond.methodLink RX8 57 yX8_lowest, Cond.instanceMethod yX8_lowest, Cond.selects RX8 yX8_lowest yX8_lowest, Cond.code yX8_lowest cX8_lowest 6 (some .int), Cond.methodLink RX8 66 yX8_nextSort, Cond.instanceMethod yX8_nextSort, Cond.selects RX8 yX8_nextSort yX8_nextSort, Cond.code yX8_nextSort cX8_nextSort 2 (some .int), Cond.methodLink RX8 54 yX8_many, Cond.instanceMethod yX8_many, Cond.selects RX8 yX8_many yX8_many, Cond.code yX8_many cX8_many 4 (some .int), Cond.methodLink RX8 70 yX8_oldest]
def wsX8_isWell_r4 : List Cond := [Cond.instanceMethod yX8_oldest, Cond.selects RX8 yX8_oldest yX8_oldest, Cond.code yX8_oldest cX8_oldest 4 (some .int), Cond.methodLink RX8 73 yX8_isOld, Cond.instanceMethod yX8_isOld, Cond.selects RX8 yX8_isOld yX8_isOld, Cond.code yX8_isOld cX8_isOld 2 (some .boolean), Cond.methodLink RX8 83 yX8_minute, Cond.instanceMethod yX8_minute, Cond.selects RX8 yX8_minute yX8_minute, Cond.code yX8_minute cX8_minute 1 (some .int), Cond.methodLink RX8 77 yX8_far, Cond.static yX8_far, Cond.code yX8_far cX8_far 2 (some .int), Cond.methodLink RX8 89 yX8_note, Cond.instanceMethod yX8_note, Cond.selects RX8 yX8_note yX8_note, Cond.code yX8_note cX8_note 5 none, Cond.methodLink RX8 93 yX8_drop, Cond.instanceMethod yX8_drop, Cond.selects RX8 yX8_drop yX8_drop, Cond.code yX8_drop cX8_drop 3 none, Cond.methodLink RX8 112 yX8_putBack, Cond.instanceMethod yX8_putBack]
def wsX8_isWell_r5 : List Cond := [Cond.selects RX8 yX8_putBack yX8_putBack, Cond.code yX8_putBack cX8_putBack 2 none, Cond.methodLink RX8 130 yX8_waits, Cond.instanceMethod yX8_waits, Cond.selects RX8 yX8_waits yX8_waits, Cond.code yX8_waits cX8_waits 2 (some .int)]
def wsX8_isWell : List Cond := .code yX8_isWell cX8_isWell 2 (some .boolean) :: ((wsX8_isWell_r1 ++ (wsX8_isWell_r2 ++ (wsX8_isWell_r3 ++ (wsX8_isWell_r4 ++ wsX8_isWell_r5)))) ++ wsX80)
def wsX8_fault_r1 : List Cond := [Cond.fieldLink RX8 141 "DrawerSlipsModel" "at" "I", Cond.methodLink RX8 155 yX8_isWell, Cond.instanceMethod yX8_isWell, Cond.selects RX8 yX8_isWell yX8_isWell, Cond.initialized RX8, Cond.code yX8_isWell cX8_isWell 2 (some .boolean), Cond.fieldLink RX8 136 "DrawerSlipsModel" "length" "I", Cond.methodLink RX8 151 yX8_order, Cond.instanceMethod yX8_order, Cond.selects RX8 yX8_order yX8_order, Cond.code yX8_order cX8_order 6 (some .int), Cond.fieldLink RX8 29 "DrawerSlipsModel" "pad" "[I", Cond.methodLink RX8 144 yX8_sees, Cond.instanceMethod yX8_sees, Cond.selects RX8 yX8_sees yX8_sees, Cond.code yX8_sees cX8_sees 3 (some .boolean), Cond.methodLink RX8 43 yX8_in, Cond.static yX8_in, Cond.code yX8_in cX8_in 4 (some .boolean), Cond.methodLink RX8 148 yX8_number, Cond.instanceMethod yX8_number, Cond.selects RX8 yX8_number yX8_number, Cond.code yX8_number cX8_number 2 (some .int), Cond.methodLink RX8 121 yX8_comes]
def wsX8_fault_r2 : List Cond := [Cond.instanceMethod yX8_comes, Cond.selects RX8 yX8_comes yX8_comes, Cond.code yX8_comes cX8_comes 6 (some .int), Cond.fieldLink RX8 7 "DrawerSlipsModel" "row" "[I", Cond.methodLink RX8 97 yX8_isSlip, Cond.static yX8_isSlip, Cond.code yX8_isSlip cX8_isSlip 3 (some .boolean), Cond.methodLink RX8 101 yX8_partner, Cond.instanceMethod yX8_partner, Cond.selects RX8 yX8_partner yX8_partner, Cond.code yX8_partner cX8_partner 5 (some .int), Cond.methodLink RX8 35 yX8_its, Cond.instanceMethod yX8_its, Cond.selects RX8 yX8_its yX8_its, Cond.code yX8_its cX8_its 3 (some .int), Cond.methodLink RX8 86 yX8_lastOf, Cond.instanceMethod yX8_lastOf, Cond.selects RX8 yX8_lastOf yX8_lastOf, Cond.code yX8_lastOf cX8_lastOf 2 (some .int), Cond.methodLink RX8 127 yX8_serves, Cond.instanceMethod yX8_serves, Cond.selects RX8 yX8_serves yX8_serves, Cond.code yX8_serves cX8_serves 3 (some .int), Cond.constant RX8 111 (99999)]
def wsX8_fault_r3 : List Cond := [Cond.methodLink RX8 105 yX8_layAside, Cond.instanceMethod yX8_layAside, Cond.selects RX8 yX8_layAside yX8_layAside, Cond.code yX8_layAside cX8_layAside 2 none, Cond.fieldLink RX8 19 "DrawerSlipsModel" "aside" "[I", Cond.methodLink RX8 108 yX8_serveOne, Cond.instanceMethod yX8_serveOne, Cond.selects RX8 yX8_serveOne yX8_serveOne, Cond.code yX8_serveOne cX8_serveOne 4 none, Cond.fieldLink RX8 60 "DrawerSlipsModel" "place" "I", Cond.fieldLink RX8 63 "DrawerSlipsModel" "why" "I", Cond.methodLink RX8 80 yX8_look, Cond.instanceMethod yX8_look, Cond.selects RX8 yX8_look yX8_look, Cond.code yX8_look cX8_look 2 none, Cond.methodLink RX8 57 yX8_lowest, Cond.instanceMethod yX8_lowest, Cond.selects RX8 yX8_lowest yX8_lowest, Cond.code yX8_lowest cX8_lowest 6 (some .int), Cond.methodLink RX8 66 yX8_nextSort, Cond.instanceMethod yX8_nextSort, Cond.selects RX8 yX8_nextSort yX8_nextSort, Cond.code yX8_nextSort cX8_nextSort 2 (some .int), Cond.methodLink RX8 54 yX8_many]
def wsX8_fault_r4 : List Cond := [Cond.instanceMethod yX8_many, Cond.selects RX8 yX8_many yX8_many, Cond.code yX8_many cX8_many 4 (some .int), Cond.methodLink RX8 70 yX8_oldest, Cond.instanceMethod yX8_oldest, Cond.selects RX8 yX8_oldest yX8_oldest, Cond.code yX8_oldest cX8_oldest 4 (some .int), Cond.methodLink RX8 73 yX8_isOld, Cond.instanceMethod yX8_isOld, Cond.selects RX8 yX8_isOld yX8_isOld, Cond.code yX8_isOld cX8_isOld 2 (some .boolean), Cond.methodLink RX8 83 yX8_minute, Cond.instanceMethod yX8_minute, Cond.selects RX8 yX8_minute yX8_minute, Cond.code yX8_minute cX8_minute 1 (some .int), Cond.methodLink RX8 77 yX8_far, Cond.static yX8_far, Cond.code yX8_far cX8_far 2 (some .int), Cond.methodLink RX8 89 yX8_note, Cond.instanceMethod yX8_note, Cond.selects RX8 yX8_note yX8_note, Cond.code yX8_note cX8_note 5 none, Cond.methodLink RX8 93 yX8_drop, Cond.instanceMethod yX8_drop]
def wsX8_fault_r5 : List Cond := [Cond.selects RX8 yX8_drop yX8_drop, Cond.code yX8_drop cX8_drop 3 none, Cond.methodLink RX8 112 yX8_putBack, Cond.instanceMethod yX8_putBack, Cond.selects RX8 yX8_putBack yX8_putBack, Cond.code yX8_putBack cX8_putBack 2 none, Cond.methodLink RX8 130 yX8_waits, Cond.instanceMethod yX8_waits, Cond.selects RX8 yX8_waits yX8_waits, Cond.code yX8_waits cX8_waits 2 (some .int)]
def wsX8_fault : List Cond := .code yX8_fault cX8_fault 1 (some .int) :: ((wsX8_fault_r1 ++ (wsX8_fault_r2 ++ (wsX8_fault_r3 ++ (wsX8_fault_r4 ++ wsX8_fault_r5)))) ++ wsX80)
def wsX8_carryOut_r1 : List Cond := [Cond.fieldLink RX8 141 "DrawerSlipsModel" "at" "I", Cond.fieldLink RX8 136 "DrawerSlipsModel" "length" "I", Cond.methodLink RX8 155 yX8_isWell, Cond.instanceMethod yX8_isWell, Cond.selects RX8 yX8_isWell yX8_isWell, Cond.initialized RX8, Cond.code yX8_isWell cX8_isWell 2 (some .boolean), Cond.methodLink RX8 151 yX8_order, Cond.instanceMethod yX8_order, Cond.selects RX8 yX8_order yX8_order, Cond.code yX8_order cX8_order 6 (some .int), Cond.fieldLink RX8 29 "DrawerSlipsModel" "pad" "[I", Cond.methodLink RX8 144 yX8_sees, Cond.instanceMethod yX8_sees, Cond.selects RX8 yX8_sees yX8_sees, Cond.code yX8_sees cX8_sees 3 (some .boolean), Cond.methodLink RX8 43 yX8_in, Cond.static yX8_in, Cond.code yX8_in cX8_in 4 (some .boolean), Cond.methodLink RX8 148 yX8_number, Cond.instanceMethod yX8_number, Cond.selects RX8 yX8_number yX8_number, Cond.code yX8_number cX8_number 2 (some .int), Cond.methodLink RX8 121 yX8_comes]
def wsX8_carryOut_r2 : List Cond := [Cond.instanceMethod yX8_comes, Cond.selects RX8 yX8_comes yX8_comes, Cond.code yX8_comes cX8_comes 6 (some .int), Cond.fieldLink RX8 7 "DrawerSlipsModel" "row" "[I", Cond.methodLink RX8 97 yX8_isSlip, Cond.static yX8_isSlip, Cond.code yX8_isSlip cX8_isSlip 3 (some .boolean), Cond.methodLink RX8 101 yX8_partner, Cond.instanceMethod yX8_partner, Cond.selects RX8 yX8_partner yX8_partner, Cond.code yX8_partner cX8_partner 5 (some .int), Cond.methodLink RX8 35 yX8_its, Cond.instanceMethod yX8_its, Cond.selects RX8 yX8_its yX8_its, Cond.code yX8_its cX8_its 3 (some .int), Cond.methodLink RX8 86 yX8_lastOf, Cond.instanceMethod yX8_lastOf, Cond.selects RX8 yX8_lastOf yX8_lastOf, Cond.code yX8_lastOf cX8_lastOf 2 (some .int), Cond.methodLink RX8 127 yX8_serves, Cond.instanceMethod yX8_serves, Cond.selects RX8 yX8_serves yX8_serves, Cond.code yX8_serves cX8_serves 3 (some .int), Cond.constant RX8 111 (99999)]
def wsX8_carryOut_r3 : List Cond := [Cond.methodLink RX8 105 yX8_layAside, Cond.instanceMethod yX8_layAside, Cond.selects RX8 yX8_layAside yX8_layAside, Cond.code yX8_layAside cX8_layAside 2 none, Cond.fieldLink RX8 19 "DrawerSlipsModel" "aside" "[I", Cond.methodLink RX8 108 yX8_serveOne, Cond.instanceMethod yX8_serveOne, Cond.selects RX8 yX8_serveOne yX8_serveOne, Cond.code yX8_serveOne cX8_serveOne 4 none, Cond.fieldLink RX8 60 "DrawerSlipsModel" "place" "I", Cond.fieldLink RX8 63 "DrawerSlipsModel" "why" "I", Cond.methodLink RX8 80 yX8_look, Cond.instanceMethod yX8_look, Cond.selects RX8 yX8_look yX8_look, Cond.code yX8_look cX8_look 2 none, Cond.methodLink RX8 57 yX8_lowest, Cond.instanceMethod yX8_lowest, Cond.selects RX8 yX8_lowest yX8_lowest, Cond.code yX8_lowest cX8_lowest 6 (some .int), Cond.methodLink RX8 66 yX8_nextSort, Cond.instanceMethod yX8_nextSort, Cond.selects RX8 yX8_nextSort yX8_nextSort, Cond.code yX8_nextSort cX8_nextSort 2 (some .int), Cond.methodLink RX8 54 yX8_many]
def wsX8_carryOut_r4 : List Cond := [Cond.instanceMethod yX8_many, Cond.selects RX8 yX8_many yX8_many, Cond.code yX8_many cX8_many 4 (some .int), Cond.methodLink RX8 70 yX8_oldest, Cond.instanceMethod yX8_oldest, Cond.selects RX8 yX8_oldest yX8_oldest, Cond.code yX8_oldest cX8_oldest 4 (some .int), Cond.methodLink RX8 73 yX8_isOld, Cond.instanceMethod yX8_isOld, Cond.selects RX8 yX8_isOld yX8_isOld, Cond.code yX8_isOld cX8_isOld 2 (some .boolean), Cond.methodLink RX8 83 yX8_minute, Cond.instanceMethod yX8_minute, Cond.selects RX8 yX8_minute yX8_minute, Cond.code yX8_minute cX8_minute 1 (some .int), Cond.methodLink RX8 77 yX8_far, Cond.static yX8_far, Cond.code yX8_far cX8_far 2 (some .int), Cond.methodLink RX8 89 yX8_note, Cond.instanceMethod yX8_note, Cond.selects RX8 yX8_note yX8_note, Cond.code yX8_note cX8_note 5 none, Cond.methodLink RX8 93 yX8_drop, Cond.instanceMethod yX8_drop]
def wsX8_carryOut_r5 : List Cond := [Cond.selects RX8 yX8_drop yX8_drop, Cond.code yX8_drop cX8_drop 3 none, Cond.methodLink RX8 112 yX8_putBack, Cond.instanceMethod yX8_putBack, Cond.selects RX8 yX8_putBack yX8_putBack, Cond.code yX8_putBack cX8_putBack 2 none, Cond.methodLink RX8 130 yX8_waits, Cond.instanceMethod yX8_waits, Cond.selects RX8 yX8_waits yX8_waits, Cond.code yX8_waits cX8_waits 2 (some .int), Cond.methodLink RX8 47 yX8_remember, Cond.instanceMethod yX8_remember, Cond.selects RX8 yX8_remember yX8_remember, Cond.code yX8_remember cX8_remember 2 none, Cond.fieldLink RX8 16 "DrawerSlipsModel" "before" "[I", Cond.methodLink RX8 50 yX8_record, Cond.instanceMethod yX8_record, Cond.selects RX8 yX8_record yX8_record, Cond.code yX8_record cX8_record 3 (some .int), Cond.fieldLink RX8 39 "DrawerSlipsModel" "states" "I", Cond.fieldLink RX8 13 "DrawerSlipsModel" "past" "[I"]
def wsX8_carryOut : List Cond := .code yX8_carryOut cX8_carryOut 3 (some .int) :: ((wsX8_carryOut_r1 ++ (wsX8_carryOut_r2 ++ (wsX8_carryOut_r3 ++ (wsX8_carryOut_r4 ++ wsX8_carryOut_r5)))) ++ wsX80)
def wsJ9_abs_0f7a4 : List Cond := .code yJ9_abs_0f7a4 cJ9_abs_0f7a4 1 (some .int) :: ([])
def wsJ9_max_7cf53 : List Cond := .code yJ9_max_7cf53 cJ9_max_7cf53 2 (some .int) :: ([])
def wsJ9_min_7cf53 : List Cond := .code yJ9_min_7cf53 cJ9_min_7cf53 2 (some .int) :: ([])
def wsL_law_r1 : List Cond := [Cond.classLink RL 7 RX7, Cond.instantiable RX7 7, Cond.initialized RX7, Cond.classLink RL 10 RX8, Cond.instantiable RX8 13, Cond.initialized RX8, Cond.constantLong RL 68 (4294967295), Cond.methodLink RL 9 yX7_init, Cond.instanceMethod yX7_init, Cond.code yX7_init cX7_init 1 none, Cond.methodLink RX7 1 objectInit, Cond.instanceMethod objectInit, Cond.code objectInit ⟨#[0xb1]⟩ 1 none, Cond.classLink RX7 7 RX0, Cond.instantiable RX0 14, Cond.initialized RX0, Cond.fieldLink RX7 10 "DrawerSlips" "archive" "LDrawerSlips$Archive;", Cond.fieldLink RX7 16 "DrawerSlips" "trial" "LDrawerSlips$Archive;", Cond.classLink RX7 19 RX1, Cond.instantiable RX1 3, Cond.initialized RX1, Cond.fieldLink RX7 22 "DrawerSlips" "history" "LDrawerSlips$History;", Cond.classLink RX7 26 RX6, Cond.instantiable RX6 2]
def wsL_law_r2 : List Cond := [Cond.initialized RX6, Cond.fieldLink RX7 29 "DrawerSlips" "firstSlot" "LDrawerSlips$Slot;", Cond.fieldLink RX7 33 "DrawerSlips" "secondSlot" "LDrawerSlips$Slot;", Cond.classLink RX7 36 RX3, Cond.instantiable RX3 2, Cond.initialized RX3, Cond.fieldLink RX7 39 "DrawerSlips" "pad" "LDrawerSlips$Pad;", Cond.classLink RX7 43 RX4, Cond.instantiable RX4 5, Cond.initialized RX4, Cond.fieldLink RX7 48 "DrawerSlips" "reader" "LDrawerSlips$Reader;", Cond.instanceMethod yX0_init, Cond.code yX0_init cX0_init 3 none, Cond.methodLink RX0 3 objectInit, Cond.arrayClass .int, Cond.fieldLink RX0 13 "DrawerSlips$Archive" "settings" "[I", Cond.classLink RX0 18 RX2, Cond.instantiable RX2 4, Cond.initialized RX2, Cond.fieldLink RX0 21 "DrawerSlips$Archive" "lately" "LDrawerSlips$Lately;", Cond.classLink RX0 29 RX5, Cond.instantiable RX5 8, Cond.initialized RX5, Cond.fieldLink RX0 34 "DrawerSlips$Archive" "places" "LDrawerSlips$Slip;"]
def wsL_law_r3 : List Cond := [Cond.instanceMethod yX2_init, Cond.code yX2_init cX2_init 1 none, Cond.methodLink RX2 1 objectInit, Cond.fieldLink RX2 9 "DrawerSlips$Lately" "numbers" "[I", Cond.fieldLink RX2 13 "DrawerSlips$Lately" "waits" "[I", Cond.fieldLink RX2 16 "DrawerSlips$Lately" "sorts" "[I", Cond.static yX7_copyRow, Cond.code yX7_copyRow cX7_copyRow 3 none, Cond.instanceMethod yX5_init, Cond.code yX5_init cX5_init 2 none, Cond.methodLink RX5 1 objectInit, Cond.fieldLink RX5 7 "DrawerSlips$Slip" "rest" "LDrawerSlips$Slip;", Cond.instanceMethod yX1_init, Cond.code yX1_init cX1_init 2 none, Cond.methodLink RX1 3 objectInit, Cond.classLink RX1 9 RX0, Cond.fieldLink RX1 11 "DrawerSlips$History" "states" "[LDrawerSlips$Archive;", Cond.instanceMethod yX6_init, Cond.code yX6_init cX6_init 1 none, Cond.methodLink RX6 1 objectInit, Cond.classLink RX6 7 RX0, Cond.fieldLink RX6 10 "DrawerSlips$Slot" "state" "LDrawerSlips$Archive;", Cond.instanceMethod yX3_init, Cond.code yX3_init cX3_init 1 none]
def wsL_law_r4 : List Cond := [Cond.methodLink RX3 3 objectInit, Cond.fieldLink RX3 11 "DrawerSlips$Pad" "signs" "[I", Cond.instanceMethod yX4_init, Cond.code yX4_init cX4_init 2 none, Cond.methodLink RX4 3 objectInit, Cond.fieldLink RX4 9 "DrawerSlips$Reader" "pad" "LDrawerSlips$Pad;", Cond.methodLink RL 12 yX8_init, Cond.instanceMethod yX8_init, Cond.code yX8_init cX8_init 1 none, Cond.methodLink RX8 1 objectInit, Cond.fieldLink RX8 7 "DrawerSlipsModel" "row" "[I", Cond.fieldLink RX8 13 "DrawerSlipsModel" "past" "[I", Cond.fieldLink RX8 16 "DrawerSlipsModel" "before" "[I", Cond.fieldLink RX8 19 "DrawerSlipsModel" "aside" "[I", Cond.fieldLink RX8 22 "DrawerSlipsModel" "slots" "[I", Cond.arrayClass .boolean, Cond.fieldLink RX8 25 "DrawerSlipsModel" "isSaved" "[Z", Cond.fieldLink RX8 29 "DrawerSlipsModel" "pad" "[I", Cond.fieldLink RX8 32 "DrawerSlipsModel" "codes" "[I", Cond.methodLink RL 13 yX7_set, Cond.instanceMethod yX7_set, Cond.selects RX7 yX7_set yX7_set, Cond.code yX7_set cX7_set 3 (some .int), Cond.instanceMethod yX1_prepare]
def wsL_law_r5 : List Cond := [Cond.selects RX1 yX1_prepare yX1_prepare, Cond.code yX1_prepare cX1_prepare 3 none, Cond.fieldLink RX1 16 "DrawerSlips$History" "place" "I", Cond.methodLink RX1 20 yX1_stateAt, Cond.instanceMethod yX1_stateAt, Cond.selects RX1 yX1_stateAt yX1_stateAt, Cond.code yX1_stateAt cX1_stateAt 2 (some (.object "DrawerSlips$Archive")), Cond.instanceMethod yX0_copyFrom, Cond.selects RX0 yX0_copyFrom yX0_copyFrom, Cond.code yX0_copyFrom cX0_copyFrom 4 none, Cond.fieldLink RX0 47 "DrawerSlips$Archive" "readsWaiting" "I", Cond.fieldLink RX0 51 "DrawerSlips$Archive" "writesWaiting" "I", Cond.fieldLink RX0 54 "DrawerSlips$Archive" "nextNumber" "I", Cond.fieldLink RX0 57 "DrawerSlips$Archive" "now" "I", Cond.fieldLink RX0 60 "DrawerSlips$Archive" "arm" "I", Cond.fieldLink RX0 63 "DrawerSlips$Archive" "longestWait" "I", Cond.fieldLink RX0 66 "DrawerSlips$Archive" "drawersGone" "I", Cond.fieldLink RX0 69 "DrawerSlips$Archive" "batches" "I", Cond.fieldLink RX0 72 "DrawerSlips$Archive" "batchSort" "I", Cond.fieldLink RX0 75 "DrawerSlips$Archive" "batchSlips" "I", Cond.fieldLink RX0 78 "DrawerSlips$Archive" "readsAhead" "I", Cond.instanceMethod yX5_copyFrom, Cond.selects RX5 yX5_copyFrom yX5_copyFrom, Cond.code yX5_copyFrom cX5_copyFrom 2 none]
def wsL_law_r6 : List Cond := [Cond.fieldLink RX5 13 "DrawerSlips$Slip" "waits" "Z", Cond.fieldLink RX5 17 "DrawerSlips$Slip" "number" "I", Cond.fieldLink RX5 21 "DrawerSlips$Slip" "writes" "I", Cond.fieldLink RX5 24 "DrawerSlips$Slip" "first" "I", Cond.fieldLink RX5 27 "DrawerSlips$Slip" "many" "I", Cond.fieldLink RX5 30 "DrawerSlips$Slip" "came" "I", Cond.fieldLink RX5 33 "DrawerSlips$Slip" "joins" "I", Cond.instanceMethod yX2_copyFrom, Cond.selects RX2 yX2_copyFrom yX2_copyFrom, Cond.code yX2_copyFrom cX2_copyFrom 2 none, Cond.fieldLink RX2 25 "DrawerSlips$Lately" "served" "I", Cond.instanceMethod yX0_adjust, Cond.selects RX0 yX0_adjust yX0_adjust, Cond.code yX0_adjust cX0_adjust 4 (some .int), Cond.static yX7_isIndexOf, Cond.code yX7_isIndexOf cX7_isIndexOf 2 (some .boolean), Cond.static yX7_valueAt, Cond.code yX7_valueAt cX7_valueAt 2 (some .int), Cond.methodLink RX7 60 yX7_settled, Cond.instanceMethod yX7_settled, Cond.selects RX7 yX7_settled yX7_settled, Cond.code yX7_settled cX7_settled 2 (some .int), Cond.instanceMethod yX1_keep, Cond.selects RX1 yX1_keep yX1_keep]
def wsL_law_r7 : List Cond := [Cond.code yX1_keep cX1_keep 1 none, Cond.fieldLink RX1 28 "DrawerSlips$History" "kept" "I", Cond.methodLink RX1 31 Lib.Math.min.name, Cond.static Lib.Math.min.name, Cond.initialized "java/lang/Math", Cond.code Lib.Math.min.name Lib.Math.min.code 2 (some .int), Cond.methodLink RL 17 yX8_set, Cond.instanceMethod yX8_set, Cond.selects RX8 yX8_set yX8_set, Cond.code yX8_set cX8_set 4 (some .int), Cond.methodLink RX8 43 yX8_in, Cond.static yX8_in, Cond.code yX8_in cX8_in 4 (some .boolean), Cond.methodLink RX8 115 yX8_leastOf, Cond.static yX8_leastOf, Cond.code yX8_leastOf cX8_leastOf 1 (some .int), Cond.methodLink RX8 118 yX8_mostOf, Cond.static yX8_mostOf, Cond.code yX8_mostOf cX8_mostOf 1 (some .int), Cond.methodLink RX8 47 yX8_remember, Cond.instanceMethod yX8_remember, Cond.selects RX8 yX8_remember yX8_remember, Cond.code yX8_remember cX8_remember 2 none, Cond.methodLink RX8 50 yX8_record]
def wsL_law_r8 : List Cond := [Cond.instanceMethod yX8_record, Cond.selects RX8 yX8_record yX8_record, Cond.code yX8_record cX8_record 3 (some .int), Cond.fieldLink RX8 39 "DrawerSlipsModel" "states" "I", Cond.methodLink RL 18 yX7_slip, Cond.instanceMethod yX7_slip, Cond.selects RX7 yX7_slip yX7_slip, Cond.code yX7_slip cX7_slip 4 (some .int), Cond.instanceMethod yX0_accept, Cond.selects RX0 yX0_accept yX0_accept, Cond.code yX0_accept cX0_accept 6 (some .int), Cond.static yX7_isSlip, Cond.code yX7_isSlip cX7_isSlip 3 (some .boolean), Cond.methodLink RX0 99 yX0_hostFor, Cond.instanceMethod yX0_hostFor, Cond.selects RX0 yX0_hostFor yX0_hostFor, Cond.code yX0_hostFor cX0_hostFor 7 (some (.object "DrawerSlips$Slip")), Cond.instanceMethod yX5_isOfSort, Cond.selects RX5 yX5_isOfSort yX5_isOfSort, Cond.code yX5_isOfSort cX5_isOfSort 2 (some .boolean), Cond.instanceMethod yX5_last, Cond.selects RX5 yX5_last yX5_last, Cond.code yX5_last cX5_last 1 (some .int), Cond.methodLink RX0 112 yX0_freePlace]
def wsL_law_r9 : List Cond := [Cond.instanceMethod yX0_freePlace, Cond.selects RX0 yX0_freePlace yX0_freePlace, Cond.code yX0_freePlace cX0_freePlace 2 (some (.object "DrawerSlips$Slip")), Cond.methodLink RX0 129 yX0_countWaiting, Cond.instanceMethod yX0_countWaiting, Cond.selects RX0 yX0_countWaiting yX0_countWaiting, Cond.code yX0_countWaiting cX0_countWaiting 3 none, Cond.methodLink RL 22 yX8_slip, Cond.instanceMethod yX8_slip, Cond.selects RX8 yX8_slip yX8_slip, Cond.code yX8_slip cX8_slip 4 (some .int), Cond.methodLink RX8 121 yX8_comes, Cond.instanceMethod yX8_comes, Cond.selects RX8 yX8_comes yX8_comes, Cond.code yX8_comes cX8_comes 6 (some .int), Cond.methodLink RX8 97 yX8_isSlip, Cond.static yX8_isSlip, Cond.code yX8_isSlip cX8_isSlip 3 (some .boolean), Cond.methodLink RX8 101 yX8_partner, Cond.instanceMethod yX8_partner, Cond.selects RX8 yX8_partner yX8_partner, Cond.code yX8_partner cX8_partner 5 (some .int), Cond.methodLink RX8 35 yX8_its, Cond.instanceMethod yX8_its]
def wsL_law_r10 : List Cond := [Cond.selects RX8 yX8_its yX8_its, Cond.code yX8_its cX8_its 3 (some .int), Cond.methodLink RX8 86 yX8_lastOf, Cond.instanceMethod yX8_lastOf, Cond.selects RX8 yX8_lastOf yX8_lastOf, Cond.code yX8_lastOf cX8_lastOf 2 (some .int), Cond.methodLink RL 23 yX7_tear, Cond.instanceMethod yX7_tear, Cond.selects RX7 yX7_tear yX7_tear, Cond.code yX7_tear cX7_tear 2 (some .int), Cond.instanceMethod yX0_tearUp, Cond.selects RX0 yX0_tearUp yX0_tearUp, Cond.code yX0_tearUp cX0_tearUp 3 (some .int), Cond.methodLink RX0 133 yX0_find, Cond.instanceMethod yX0_find, Cond.selects RX0 yX0_find yX0_find, Cond.code yX0_find cX0_find 3 (some (.object "DrawerSlips$Slip")), Cond.methodLink RX0 137 yX0_remove, Cond.instanceMethod yX0_remove, Cond.selects RX0 yX0_remove yX0_remove, Cond.code yX0_remove cX0_remove 2 none, Cond.methodLink RX0 140 yX0_age, Cond.instanceMethod yX0_age, Cond.selects RX0 yX0_age yX0_age]
def wsL_law_r11 : List Cond := [Cond.code yX0_age cX0_age 2 (some .int), Cond.methodLink RL 27 yX8_tear, Cond.instanceMethod yX8_tear, Cond.selects RX8 yX8_tear yX8_tear, Cond.code yX8_tear cX8_tear 4 (some .int), Cond.methodLink RX8 124 yX8_find, Cond.instanceMethod yX8_find, Cond.selects RX8 yX8_find yX8_find, Cond.code yX8_find cX8_find 3 (some .int), Cond.methodLink RX8 93 yX8_drop, Cond.instanceMethod yX8_drop, Cond.selects RX8 yX8_drop yX8_drop, Cond.code yX8_drop cX8_drop 3 none, Cond.methodLink RL 28 yX7_serve, Cond.instanceMethod yX7_serve, Cond.selects RX7 yX7_serve yX7_serve, Cond.code yX7_serve cX7_serve 2 (some .int), Cond.methodLink RX7 71 yX7_serveSlips, Cond.instanceMethod yX7_serveSlips, Cond.selects RX7 yX7_serveSlips yX7_serveSlips, Cond.code yX7_serveSlips cX7_serveSlips 4 (some .int), Cond.methodLink RX7 84 Lib.Math.min.name, Cond.constant RX7 99 (99999), Cond.instanceMethod yX0_slipsThatWait]
def wsL_law_r12 : List Cond := [Cond.selects RX0 yX0_slipsThatWait yX0_slipsThatWait, Cond.code yX0_slipsThatWait cX0_slipsThatWait 1 (some .int), Cond.instanceMethod yX0_serveNext, Cond.selects RX0 yX0_serveNext yX0_serveNext, Cond.code yX0_serveNext cX0_serveNext 3 none, Cond.methodLink RX0 198 Lib.Math.min.name, Cond.methodLink RX0 202 Lib.Math.max.name, Cond.static Lib.Math.max.name, Cond.code Lib.Math.max.name Lib.Math.max.code 2 (some .int), Cond.methodLink RX0 185 yX0_reason, Cond.instanceMethod yX0_reason, Cond.selects RX0 yX0_reason yX0_reason, Cond.code yX0_reason cX0_reason 4 (some .int), Cond.methodLink RX0 163 yX0_leastFrom, Cond.instanceMethod yX0_leastFrom, Cond.selects RX0 yX0_leastFrom yX0_leastFrom, Cond.code yX0_leastFrom cX0_leastFrom 5 (some (.object "DrawerSlips$Slip")), Cond.instanceMethod yX5_isAheadOf, Cond.selects RX5 yX5_isAheadOf yX5_isAheadOf, Cond.code yX5_isAheadOf cX5_isAheadOf 2 (some .boolean), Cond.methodLink RX0 167 yX0_newSort, Cond.instanceMethod yX0_newSort, Cond.selects RX0 yX0_newSort yX0_newSort, Cond.code yX0_newSort cX0_newSort 1 (some .int)]
def wsL_law_r13 : List Cond := [Cond.methodLink RX0 170 yX0_oldest, Cond.instanceMethod yX0_oldest, Cond.selects RX0 yX0_oldest yX0_oldest, Cond.code yX0_oldest cX0_oldest 4 (some (.object "DrawerSlips$Slip")), Cond.methodLink RX0 173 yX0_isTooOld, Cond.instanceMethod yX0_isTooOld, Cond.selects RX0 yX0_isTooOld yX0_isTooOld, Cond.code yX0_isTooOld cX0_isTooOld 2 (some .boolean), Cond.methodLink RX0 188 yX0_chosen, Cond.instanceMethod yX0_chosen, Cond.selects RX0 yX0_chosen yX0_chosen, Cond.code yX0_chosen cX0_chosen 2 (some (.object "DrawerSlips$Slip")), Cond.methodLink RX0 191 yX0_beginBatch, Cond.instanceMethod yX0_beginBatch, Cond.selects RX0 yX0_beginBatch yX0_beginBatch, Cond.code yX0_beginBatch cX0_beginBatch 2 none, Cond.methodLink RX0 195 yX0_minutesFor, Cond.instanceMethod yX0_minutesFor, Cond.selects RX0 yX0_minutesFor yX0_minutesFor, Cond.code yX0_minutesFor cX0_minutesFor 2 (some .int), Cond.methodLink RX0 182 yX0_drawersTo, Cond.instanceMethod yX0_drawersTo, Cond.selects RX0 yX0_drawersTo yX0_drawersTo, Cond.code yX0_drawersTo cX0_drawersTo 2 (some .int)]
def wsL_law_r14 : List Cond := [Cond.methodLink RX0 176 Lib.Math.abs.name, Cond.static Lib.Math.abs.name, Cond.code Lib.Math.abs.name Lib.Math.abs.code 1 (some .int), Cond.instanceMethod yX2_append, Cond.selects RX2 yX2_append yX2_append, Cond.code yX2_append cX2_append 5 none, Cond.methodLink RL 31 yX8_serve, Cond.instanceMethod yX8_serve, Cond.selects RX8 yX8_serve yX8_serve, Cond.code yX8_serve cX8_serve 2 (some .int), Cond.methodLink RX8 127 yX8_serves, Cond.instanceMethod yX8_serves, Cond.selects RX8 yX8_serves yX8_serves, Cond.code yX8_serves cX8_serves 3 (some .int), Cond.constant RX8 111 (99999), Cond.methodLink RX8 105 yX8_layAside, Cond.instanceMethod yX8_layAside, Cond.selects RX8 yX8_layAside yX8_layAside, Cond.code yX8_layAside cX8_layAside 2 none, Cond.methodLink RX8 108 yX8_serveOne, Cond.instanceMethod yX8_serveOne, Cond.selects RX8 yX8_serveOne yX8_serveOne, Cond.code yX8_serveOne cX8_serveOne 4 none, Cond.fieldLink RX8 60 "DrawerSlipsModel" "place" "I"]
def wsL_law_r15 : List Cond := [Cond.fieldLink RX8 63 "DrawerSlipsModel" "why" "I", Cond.methodLink RX8 80 yX8_look, Cond.instanceMethod yX8_look, Cond.selects RX8 yX8_look yX8_look, Cond.code yX8_look cX8_look 2 none, Cond.methodLink RX8 57 yX8_lowest, Cond.instanceMethod yX8_lowest, Cond.selects RX8 yX8_lowest yX8_lowest, Cond.code yX8_lowest cX8_lowest 6 (some .int), Cond.methodLink RX8 66 yX8_nextSort, Cond.instanceMethod yX8_nextSort, Cond.selects RX8 yX8_nextSort yX8_nextSort, Cond.code yX8_nextSort cX8_nextSort 2 (some .int), Cond.methodLink RX8 54 yX8_many, Cond.instanceMethod yX8_many, Cond.selects RX8 yX8_many yX8_many, Cond.code yX8_many cX8_many 4 (some .int), Cond.methodLink RX8 70 yX8_oldest, Cond.instanceMethod yX8_oldest, Cond.selects RX8 yX8_oldest yX8_oldest, Cond.code yX8_oldest cX8_oldest 4 (some .int), Cond.methodLink RX8 73 yX8_isOld, Cond.instanceMethod yX8_isOld, Cond.selects RX8 yX8_isOld yX8_isOld]
def wsL_law_r16 : List Cond := [Cond.code yX8_isOld cX8_isOld 2 (some .boolean), Cond.methodLink RX8 83 yX8_minute, Cond.instanceMethod yX8_minute, Cond.selects RX8 yX8_minute yX8_minute, Cond.code yX8_minute cX8_minute 1 (some .int), Cond.methodLink RX8 77 yX8_far, Cond.static yX8_far, Cond.code yX8_far cX8_far 2 (some .int), Cond.methodLink RX8 89 yX8_note, Cond.instanceMethod yX8_note, Cond.selects RX8 yX8_note yX8_note, Cond.code yX8_note cX8_note 5 none, Cond.methodLink RX8 112 yX8_putBack, Cond.instanceMethod yX8_putBack, Cond.selects RX8 yX8_putBack yX8_putBack, Cond.code yX8_putBack cX8_putBack 2 none, Cond.methodLink RL 32 yX7_pass, Cond.instanceMethod yX7_pass, Cond.selects RX7 yX7_pass yX7_pass, Cond.code yX7_pass cX7_pass 2 (some .int), Cond.instanceMethod yX0_stand, Cond.selects RX0 yX0_stand yX0_stand, Cond.code yX0_stand cX0_stand 2 (some .int), Cond.constant RX0 144 (99999)]
def wsL_law_r17 : List Cond := [Cond.methodLink RL 35 yX8_pass, Cond.instanceMethod yX8_pass, Cond.selects RX8 yX8_pass yX8_pass, Cond.code yX8_pass cX8_pass 2 (some .int), Cond.methodLink RX8 130 yX8_waits, Cond.instanceMethod yX8_waits, Cond.selects RX8 yX8_waits yX8_waits, Cond.code yX8_waits cX8_waits 2 (some .int), Cond.methodLink RL 36 yX7_of, Cond.instanceMethod yX7_of, Cond.selects RX7 yX7_of yX7_of, Cond.code yX7_of cX7_of 4 (some .int), Cond.methodLink RL 39 yX8_of, Cond.instanceMethod yX8_of, Cond.selects RX8 yX8_of yX8_of, Cond.code yX8_of cX8_of 4 (some .int), Cond.methodLink RL 40 yX7_waiting, Cond.instanceMethod yX7_waiting, Cond.selects RX7 yX7_waiting yX7_waiting, Cond.code yX7_waiting cX7_waiting 4 (some .int), Cond.instanceMethod yX0_ranked, Cond.selects RX0 yX0_ranked yX0_ranked, Cond.code yX0_ranked cX0_ranked 4 (some (.object "DrawerSlips$Slip")), Cond.methodLink RX0 153 yX0_slipsAheadOf]
def wsL_law_r18 : List Cond := [Cond.instanceMethod yX0_slipsAheadOf, Cond.selects RX0 yX0_slipsAheadOf yX0_slipsAheadOf, Cond.code yX0_slipsAheadOf cX0_slipsAheadOf 4 (some .int), Cond.methodLink RL 43 yX8_waiting, Cond.instanceMethod yX8_waiting, Cond.selects RX8 yX8_waiting yX8_waiting, Cond.code yX8_waiting cX8_waiting 4 (some .int), Cond.methodLink RX8 133 yX8_rank, Cond.instanceMethod yX8_rank, Cond.selects RX8 yX8_rank yX8_rank, Cond.code yX8_rank cX8_rank 5 (some .int), Cond.methodLink RL 44 yX7_log, Cond.instanceMethod yX7_log, Cond.selects RX7 yX7_log yX7_log, Cond.code yX7_log cX7_log 3 (some .int), Cond.instanceMethod yX2_has, Cond.selects RX2 yX2_has yX2_has, Cond.code yX2_has cX2_has 2 (some .boolean), Cond.instanceMethod yX2_numberOf, Cond.selects RX2 yX2_numberOf yX2_numberOf, Cond.code yX2_numberOf cX2_numberOf 2 (some .int), Cond.methodLink RX2 33 yX2_place, Cond.instanceMethod yX2_place, Cond.selects RX2 yX2_place yX2_place]
def wsL_law_r19 : List Cond := [Cond.code yX2_place cX2_place 2 (some .int), Cond.instanceMethod yX2_waitOf, Cond.selects RX2 yX2_waitOf yX2_waitOf, Cond.code yX2_waitOf cX2_waitOf 2 (some .int), Cond.instanceMethod yX2_sortOf, Cond.selects RX2 yX2_sortOf yX2_sortOf, Cond.code yX2_sortOf cX2_sortOf 2 (some .int), Cond.methodLink RL 47 yX8_log, Cond.instanceMethod yX8_log, Cond.selects RX8 yX8_log yX8_log, Cond.code yX8_log cX8_log 3 (some .int), Cond.methodLink RL 48 yX7_count, Cond.instanceMethod yX7_count, Cond.selects RX7 yX7_count yX7_count, Cond.code yX7_count cX7_count 2 (some .int), Cond.instanceMethod yX0_amount, Cond.selects RX0 yX0_amount yX0_amount, Cond.code yX0_amount cX0_amount 2 (some .int), Cond.methodLink RL 51 yX8_count, Cond.instanceMethod yX8_count, Cond.selects RX8 yX8_count yX8_count, Cond.code yX8_count cX8_count 2 (some .int), Cond.fieldLink RX8 136 "DrawerSlipsModel" "length" "I", Cond.methodLink RL 52 yX7_next]
def wsL_law_r20 : List Cond := [Cond.instanceMethod yX7_next, Cond.selects RX7 yX7_next yX7_next, Cond.code yX7_next cX7_next 4 (some .int), Cond.methodLink RL 55 yX8_next, Cond.instanceMethod yX8_next, Cond.selects RX8 yX8_next yX8_next, Cond.code yX8_next cX8_next 2 (some .int), Cond.methodLink RL 56 yX7_servedIn, Cond.instanceMethod yX7_servedIn, Cond.selects RX7 yX7_servedIn yX7_servedIn, Cond.code yX7_servedIn cX7_servedIn 3 (some .int), Cond.methodLink RL 59 yX8_servedIn, Cond.instanceMethod yX8_servedIn, Cond.selects RX8 yX8_servedIn yX8_servedIn, Cond.code yX8_servedIn cX8_servedIn 4 (some .int), Cond.methodLink RL 60 yX7_all, Cond.instanceMethod yX7_all, Cond.selects RX7 yX7_all yX7_all, Cond.code yX7_all cX7_all 4 (some .int), Cond.methodLink RL 63 yX8_all, Cond.instanceMethod yX8_all, Cond.selects RX8 yX8_all yX8_all, Cond.code yX8_all cX8_all 5 (some .int), Cond.methodLink RL 64 yX7_joined]
def wsL_law_r21 : List Cond := [Cond.instanceMethod yX7_joined, Cond.selects RX7 yX7_joined yX7_joined, Cond.code yX7_joined cX7_joined 5 (some .int), Cond.methodLink RX7 176 yX7_isSlip, Cond.methodLink RL 67 yX8_joined, Cond.instanceMethod yX8_joined, Cond.selects RX8 yX8_joined yX8_joined, Cond.code yX8_joined cX8_joined 5 (some .int), Cond.methodLink RL 70 yX7_put, Cond.instanceMethod yX7_put, Cond.selects RX7 yX7_put yX7_put, Cond.code yX7_put cX7_put 3 (some .int), Cond.instanceMethod yX3_append, Cond.selects RX3 yX3_append yX3_append, Cond.code yX3_append cX3_append 5 (some .int), Cond.fieldLink RX3 15 "DrawerSlips$Pad" "length" "I", Cond.methodLink RX3 23 yX3_signsIn, Cond.static yX3_signsIn, Cond.code yX3_signsIn cX3_signsIn 6 (some .int), Cond.methodLink RX3 27 yX3_add, Cond.instanceMethod yX3_add, Cond.selects RX3 yX3_add yX3_add, Cond.code yX3_add cX3_add 2 none, Cond.methodLink RL 74 yX8_put]
def wsL_law_r22 : List Cond := [Cond.instanceMethod yX8_put, Cond.selects RX8 yX8_put yX8_put, Cond.code yX8_put cX8_put 7 (some .int), Cond.constantLong RX8 139 (255), Cond.methodLink RL 75 yX7_wipe, Cond.instanceMethod yX7_wipe, Cond.selects RX7 yX7_wipe yX7_wipe, Cond.code yX7_wipe cX7_wipe 1 (some .int), Cond.instanceMethod yX3_empty, Cond.selects RX3 yX3_empty yX3_empty, Cond.code yX3_empty cX3_empty 2 (some .int), Cond.methodLink RL 79 yX8_wipe, Cond.instanceMethod yX8_wipe, Cond.selects RX8 yX8_wipe yX8_wipe, Cond.code yX8_wipe cX8_wipe 2 (some .int), Cond.methodLink RL 80 yX7_fault, Cond.instanceMethod yX7_fault, Cond.selects RX7 yX7_fault yX7_fault, Cond.code yX7_fault cX7_fault 1 (some .int), Cond.instanceMethod yX4_findFault, Cond.selects RX4 yX4_findFault yX4_findFault, Cond.code yX4_findFault cX4_findFault 2 (some .int), Cond.fieldLink RX4 15 "DrawerSlips$Reader" "at" "I", Cond.methodLink RX4 19 yX4_begin]
def wsL_law_r23 : List Cond := [Cond.instanceMethod yX4_begin, Cond.selects RX4 yX4_begin yX4_begin, Cond.code yX4_begin cX4_begin 1 none, Cond.methodLink RX4 22 yX4_readOrder, Cond.instanceMethod yX4_readOrder, Cond.selects RX4 yX4_readOrder yX4_readOrder, Cond.code yX4_readOrder cX4_readOrder 2 (some .boolean), Cond.fieldLink RX4 38 "DrawerSlips$Reader" "kind" "I", Cond.fieldLink RX4 41 "DrawerSlips$Reader" "more" "I", Cond.instanceMethod yX3_signAt, Cond.selects RX3 yX3_signAt yX3_signAt, Cond.code yX3_signAt cX3_signAt 2 (some .int), Cond.methodLink RX4 44 yX4_readNumber, Cond.instanceMethod yX4_readNumber, Cond.selects RX4 yX4_readNumber yX4_readNumber, Cond.code yX4_readNumber cX4_readNumber 1 (some .boolean), Cond.fieldLink RX4 57 "DrawerSlips$Reader" "number" "I", Cond.methodLink RX4 50 yX4_isDigitNext, Cond.instanceMethod yX4_isDigitNext, Cond.selects RX4 yX4_isDigitNext yX4_isDigitNext, Cond.code yX4_isDigitNext cX4_isDigitNext 2 (some .boolean), Cond.methodLink RX4 53 yX4_takeDigit, Cond.instanceMethod yX4_takeDigit, Cond.selects RX4 yX4_takeDigit yX4_takeDigit]
def wsL_law_r24 : List Cond := [Cond.code yX4_takeDigit cX4_takeDigit 2 (some .int), Cond.methodLink RX4 47 yX4_readMore, Cond.instanceMethod yX4_readMore, Cond.selects RX4 yX4_readMore yX4_readMore, Cond.code yX4_readMore cX4_readMore 1 (some .boolean), Cond.methodLink RX4 35 yX4_skipSemicolon, Cond.instanceMethod yX4_skipSemicolon, Cond.selects RX4 yX4_skipSemicolon yX4_skipSemicolon, Cond.code yX4_skipSemicolon cX4_skipSemicolon 1 none, Cond.methodLink RL 83 yX8_fault, Cond.instanceMethod yX8_fault, Cond.selects RX8 yX8_fault yX8_fault, Cond.code yX8_fault cX8_fault 1 (some .int), Cond.fieldLink RX8 141 "DrawerSlipsModel" "at" "I", Cond.methodLink RX8 155 yX8_isWell, Cond.instanceMethod yX8_isWell, Cond.selects RX8 yX8_isWell yX8_isWell, Cond.code yX8_isWell cX8_isWell 2 (some .boolean), Cond.methodLink RX8 151 yX8_order, Cond.instanceMethod yX8_order, Cond.selects RX8 yX8_order yX8_order, Cond.code yX8_order cX8_order 6 (some .int), Cond.methodLink RX8 144 yX8_sees, Cond.instanceMethod yX8_sees]
def wsL_law_r25 : List Cond := [Cond.selects RX8 yX8_sees yX8_sees, Cond.code yX8_sees cX8_sees 3 (some .boolean), Cond.methodLink RX8 148 yX8_number, Cond.instanceMethod yX8_number, Cond.selects RX8 yX8_number yX8_number, Cond.code yX8_number cX8_number 2 (some .int), Cond.methodLink RL 84 yX7_carryOut, Cond.instanceMethod yX7_carryOut, Cond.selects RX7 yX7_carryOut yX7_carryOut, Cond.code yX7_carryOut cX7_carryOut 2 (some .int), Cond.methodLink RX7 201 yX7_obey, Cond.instanceMethod yX7_obey, Cond.selects RX7 yX7_obey yX7_obey, Cond.code yX7_obey cX7_obey 1 (some .int), Cond.methodLink RL 87 yX8_carryOut, Cond.instanceMethod yX8_carryOut, Cond.selects RX8 yX8_carryOut yX8_carryOut, Cond.code yX8_carryOut cX8_carryOut 3 (some .int), Cond.methodLink RL 88 yX7_undo, Cond.instanceMethod yX7_undo, Cond.selects RX7 yX7_undo yX7_undo, Cond.code yX7_undo cX7_undo 1 (some .int), Cond.instanceMethod yX1_takeBack, Cond.selects RX1 yX1_takeBack yX1_takeBack]
def wsL_law_r26 : List Cond := [Cond.code yX1_takeBack cX1_takeBack 3 none, Cond.methodLink RL 91 yX8_undo, Cond.instanceMethod yX8_undo, Cond.selects RX8 yX8_undo yX8_undo, Cond.code yX8_undo cX8_undo 2 (some .int), Cond.methodLink RL 92 yX7_save, Cond.instanceMethod yX7_save, Cond.selects RX7 yX7_save yX7_save, Cond.code yX7_save cX7_save 3 (some .int), Cond.methodLink RX7 217 yX7_slotAt, Cond.instanceMethod yX7_slotAt, Cond.selects RX7 yX7_slotAt yX7_slotAt, Cond.code yX7_slotAt cX7_slotAt 2 (some (.object "DrawerSlips$Slot")), Cond.methodLink RL 95 yX8_save, Cond.instanceMethod yX8_save, Cond.selects RX8 yX8_save yX8_save, Cond.code yX8_save cX8_save 3 (some .int), Cond.methodLink RL 96 yX7_restore, Cond.instanceMethod yX7_restore, Cond.selects RX7 yX7_restore yX7_restore, Cond.code yX7_restore cX7_restore 3 (some .int), Cond.methodLink RL 99 yX8_restore, Cond.instanceMethod yX8_restore, Cond.selects RX8 yX8_restore yX8_restore]
def wsL_law_r27 : List Cond := [Cond.code yX8_restore cX8_restore 3 (some .int)]
def wsL_law : List Cond := (wsL_law_r1 ++ (wsL_law_r2 ++ (wsL_law_r3 ++ (wsL_law_r4 ++ (wsL_law_r5 ++ (wsL_law_r6 ++ (wsL_law_r7 ++ (wsL_law_r8 ++ (wsL_law_r9 ++ (wsL_law_r10 ++ (wsL_law_r11 ++ (wsL_law_r12 ++ (wsL_law_r13 ++ (wsL_law_r14 ++ (wsL_law_r15 ++ (wsL_law_r16 ++ (wsL_law_r17 ++ (wsL_law_r18 ++ (wsL_law_r19 ++ (wsL_law_r20 ++ (wsL_law_r21 ++ (wsL_law_r22 ++ (wsL_law_r23 ++ (wsL_law_r24 ++ (wsL_law_r25 ++ (wsL_law_r26 ++ wsL_law_r27)))))))))))))))))))))))))) ++ wsX70 ++ wsX80 ++ wsX00 ++ wsX10 ++ wsX60 ++ wsX30 ++ wsX40 ++ wsX20 ++ wsX50 ++ ([] : List Cond)
set_option maxRecDepth 20000 in
theorem wsL_law_in : ∀ w ∈ wsL_law, w ∈ lw_tbl := fun w h => (goodIn_p wsL_law [97, 100, 105, 113, 132, 137, 227, 247, 263, 278, 676, 324, 328, 332, 336, 340, 344, 349, 352, 357, 363, 367, 370, 745, 729, 748, 751, 737, 741, 374, 378, 381, 385, 389, 393, 397, 401, 755, 759, 762, 766, 770, 774, 405, 409, 413, 417, 421, 778, 782, 786, 425, 429, 433, 439, 486, 443, 447, 451, 455, 459, 463, 467, 471, 475, 479, 482, 490, 790, 794, 798, 802, 806, 810, 814, 818, 822, 826, 830, 833, 837, 842, 496, 500, 846, 850, 505, 854, 513, 517, 521, 858, 862, 525, 529, 533, 537, 542, 546, 866, 550, 554, 870, 558, 874, 565, 878, 569, 882, 573, 886, 579, 583, 586, 590, 890, 595, 599, 895, 603, 607, 611, 615, 619, 624, 628, 632, 636, 640, 899, 903, 907, 911, 915, 644, 650, 919, 655, 659, 722, 663, 667, 726, 671, 733] (by decide +kernel) (by decide +kernel) w h).1
theorem inlX0 : ∀ w ∈ wsX00, w ∈ wsL_law := fun _ h => List.mem_append_left _ (List.mem_append_left _ (List.mem_append_left _ (List.mem_append_left _ (List.mem_append_left _ (List.mem_append_left _ (List.mem_append_left _ (List.mem_append_right _ h)))))))
theorem inX0 : ∀ w ∈ wsX00, w ∈ lw_tbl := fun w h => wsL_law_in w (inlX0 w h)
theorem inlX1 : ∀ w ∈ wsX10, w ∈ wsL_law := fun _ h => List.mem_append_left _ (List.mem_append_left _ (List.mem_append_left _ (List.mem_append_left _ (List.mem_append_left _ (List.mem_append_left _ (List.mem_append_right _ h))))))
theorem inX1 : ∀ w ∈ wsX10, w ∈ lw_tbl := fun w h => wsL_law_in w (inlX1 w h)
theorem inlX2 : ∀ w ∈ wsX20, w ∈ wsL_law := fun _ h => List.mem_append_left _ (List.mem_append_left _ (List.mem_append_right _ h))
theorem inX2 : ∀ w ∈ wsX20, w ∈ lw_tbl := fun w h => wsL_law_in w (inlX2 w h)
theorem inlX3 : ∀ w ∈ wsX30, w ∈ wsL_law := fun _ h => List.mem_append_left _ (List.mem_append_left _ (List.mem_append_left _ (List.mem_append_left _ (List.mem_append_right _ h))))
theorem inX3 : ∀ w ∈ wsX30, w ∈ lw_tbl := fun w h => wsL_law_in w (inlX3 w h)
theorem inlX4 : ∀ w ∈ wsX40, w ∈ wsL_law := fun _ h => List.mem_append_left _ (List.mem_append_left _ (List.mem_append_left _ (List.mem_append_right _ h)))
theorem inX4 : ∀ w ∈ wsX40, w ∈ lw_tbl := fun w h => wsL_law_in w (inlX4 w h)
theorem inlX5 : ∀ w ∈ wsX50, w ∈ wsL_law := fun _ h => List.mem_append_left _ (List.mem_append_right _ h)
theorem inX5 : ∀ w ∈ wsX50, w ∈ lw_tbl := fun w h => wsL_law_in w (inlX5 w h)
theorem inlX6 : ∀ w ∈ wsX60, w ∈ wsL_law := fun _ h => List.mem_append_left _ (List.mem_append_left _ (List.mem_append_left _ (List.mem_append_left _ (List.mem_append_left _ (List.mem_append_right _ h)))))
theorem inX6 : ∀ w ∈ wsX60, w ∈ lw_tbl := fun w h => wsL_law_in w (inlX6 w h)
theorem inlX7 : ∀ w ∈ wsX70, w ∈ wsL_law := fun _ h => List.mem_append_left _ (List.mem_append_left _ (List.mem_append_left _ (List.mem_append_left _ (List.mem_append_left _ (List.mem_append_left _ (List.mem_append_left _ (List.mem_append_left _ (List.mem_append_left _ (List.mem_append_right _ h)))))))))
theorem inX7 : ∀ w ∈ wsX70, w ∈ lw_tbl := fun w h => wsL_law_in w (inlX7 w h)
theorem inlX8 : ∀ w ∈ wsX80, w ∈ wsL_law := fun _ h => List.mem_append_left _ (List.mem_append_left _ (List.mem_append_left _ (List.mem_append_left _ (List.mem_append_left _ (List.mem_append_left _ (List.mem_append_left _ (List.mem_append_left _ (List.mem_append_right _ h))))))))
theorem inX8 : ∀ w ∈ wsX80, w ∈ lw_tbl := fun w h => wsL_law_in w (inlX8 w h)
theorem inJ9 : ∀ w ∈ wsJ90, w ∈ lw_tbl := by decide +kernel
set_option maxRecDepth 20000 in
theorem ggX0_init_X2_init : GoodIn wsX0_init wsX2_init := goodIn_r _ [15, 16, 2, 3, 4, 17, 18, 19, 41, 42, 43, 44] (by decide +kernel) (by decide +kernel)
set_option maxRecDepth 20000 in
theorem gX0_init_X2_init_n20 : GoodIn wsX0_init (wsX2_init) := ggX0_init_X2_init
set_option maxRecDepth 20000 in
theorem ggX0_init_X7_copyRow : GoodIn wsX0_init wsX7_copyRow := goodIn_r _ [22] (by decide +kernel) (by decide +kernel)
set_option maxRecDepth 20000 in
theorem gX0_init_X7_copyRow_n25 : GoodIn wsX0_init (wsX7_copyRow) := ggX0_init_X7_copyRow
set_option maxRecDepth 20000 in
theorem ggX0_init_X5_init : GoodIn wsX0_init wsX5_init := goodIn_r _ [24, 25, 2, 3, 26, 45, 46, 47, 48, 49, 50, 51, 52] (by decide +kernel) (by decide +kernel)
set_option maxRecDepth 20000 in
theorem gX0_init_X5_init_n31 : GoodIn wsX0_init (wsX5_init) := ggX0_init_X5_init
theorem dX0_init_0 : decode cX0_init 0 = .ok (.aload_n 0, 1) := by decide +kernel
theorem dX0_init_1 : decode cX0_init 1 = .ok (.invokespecial 3, 3) := by decide +kernel
theorem dX0_init_4 : decode cX0_init 4 = .ok (.aload_n 0, 1) := by decide +kernel
theorem dX0_init_5 : decode cX0_init 5 = .ok (.getstatic 9, 3) := by decide +kernel
theorem dX0_init_8 : decode cX0_init 8 = .ok (.arraylength, 1) := by decide +kernel
theorem dX0_init_9 : decode cX0_init 9 = .ok (.newarray .int, 2) := by decide +kernel
theorem dX0_init_11 : decode cX0_init 11 = .ok (.putfield 13, 3) := by decide +kernel
theorem dX0_init_14 : decode cX0_init 14 = .ok (.aload_n 0, 1) := by decide +kernel
theorem dX0_init_15 : decode cX0_init 15 = .ok (.new 18, 3) := by decide +kernel
theorem dX0_init_18 : decode cX0_init 18 = .ok (.dup, 1) := by decide +kernel
theorem dX0_init_19 : decode cX0_init 19 = .ok (.invokespecial 20, 3) := by decide +kernel
theorem dX0_init_22 : decode cX0_init 22 = .ok (.putfield 21, 3) := by decide +kernel
theorem dX0_init_25 : decode cX0_init 25 = .ok (.getstatic 9, 3) := by decide +kernel
theorem dX0_init_28 : decode cX0_init 28 = .ok (.aload_n 0, 1) := by decide +kernel
theorem dX0_init_29 : decode cX0_init 29 = .ok (.getfield 13, 3) := by decide +kernel
theorem dX0_init_32 : decode cX0_init 32 = .ok (.invokestatic 25, 3) := by decide +kernel
theorem dX0_init_35 : decode cX0_init 35 = .ok (.aconst_null, 1) := by decide +kernel
theorem dX0_init_36 : decode cX0_init 36 = .ok (.astore_n 1, 1) := by decide +kernel
theorem dX0_init_37 : decode cX0_init 37 = .ok (.iconst 0, 1) := by decide +kernel
theorem dX0_init_38 : decode cX0_init 38 = .ok (.istore_n 2, 1) := by decide +kernel
theorem dX0_init_39 : decode cX0_init 39 = .ok (.iload_n 2, 1) := by decide +kernel
theorem dX0_init_40 : decode cX0_init 40 = .ok (.bipush 30, 2) := by decide +kernel
theorem dX0_init_42 : decode cX0_init 42 = .ok (.if_icmp .ge 18, 3) := by decide +kernel
theorem dX0_init_45 : decode cX0_init 45 = .ok (.new 29, 3) := by decide +kernel
theorem dX0_init_48 : decode cX0_init 48 = .ok (.dup, 1) := by decide +kernel
theorem dX0_init_49 : decode cX0_init 49 = .ok (.aload_n 1, 1) := by decide +kernel
theorem dX0_init_50 : decode cX0_init 50 = .ok (.invokespecial 31, 3) := by decide +kernel
theorem dX0_init_53 : decode cX0_init 53 = .ok (.astore_n 1, 1) := by decide +kernel
theorem dX0_init_54 : decode cX0_init 54 = .ok (.iinc 2 1, 3) := by decide +kernel
theorem dX0_init_57 : decode cX0_init 57 = .ok (.goto (-18), 3) := by decide +kernel
theorem dX0_init_60 : decode cX0_init 60 = .ok (.aload_n 0, 1) := by decide +kernel
theorem dX0_init_61 : decode cX0_init 61 = .ok (.aload_n 1, 1) := by decide +kernel
theorem dX0_init_62 : decode cX0_init 62 = .ok (.putfield 34, 3) := by decide +kernel
theorem dX0_init_65 : decode cX0_init 65 = .ok (.return_, 1) := by decide +kernel
set_option maxRecDepth 20000 in
theorem ggX0_copyFrom_X7_copyRow : GoodIn wsX0_copyFrom wsX7_copyRow := goodIn_r _ [17] (by decide +kernel) (by decide +kernel)
set_option maxRecDepth 20000 in
theorem gX0_copyFrom_X7_copyRow_n25 : GoodIn wsX0_copyFrom (wsX7_copyRow) := ggX0_copyFrom_X7_copyRow
set_option maxRecDepth 20000 in
theorem ggX0_copyFrom_X5_copyFrom : GoodIn wsX0_copyFrom wsX5_copyFrom := goodIn_r _ [21, 22, 23, 24, 25, 26, 27, 28, 51, 52, 53, 54, 55, 56, 57, 58] (by decide +kernel) (by decide +kernel)
set_option maxRecDepth 20000 in
theorem gX0_copyFrom_X5_copyFrom_n38 : GoodIn wsX0_copyFrom (wsX5_copyFrom) := ggX0_copyFrom_X5_copyFrom
set_option maxRecDepth 20000 in
theorem ggX0_copyFrom_X2_copyFrom : GoodIn wsX0_copyFrom wsX2_copyFrom := goodIn_r _ [32, 33, 34, 35, 36, 15, 16, 17, 59, 60, 61, 62] (by decide +kernel) (by decide +kernel)
set_option maxRecDepth 20000 in
theorem gX0_copyFrom_X2_copyFrom_n44 : GoodIn wsX0_copyFrom (wsX2_copyFrom) := ggX0_copyFrom_X2_copyFrom
theorem dX0_copyFrom_0 : decode cX0_copyFrom 0 = .ok (.aload_n 1, 1) := by decide +kernel
theorem dX0_copyFrom_1 : decode cX0_copyFrom 1 = .ok (.getfield 13, 3) := by decide +kernel
theorem dX0_copyFrom_4 : decode cX0_copyFrom 4 = .ok (.aload_n 0, 1) := by decide +kernel
theorem dX0_copyFrom_5 : decode cX0_copyFrom 5 = .ok (.getfield 13, 3) := by decide +kernel
theorem dX0_copyFrom_8 : decode cX0_copyFrom 8 = .ok (.invokestatic 25, 3) := by decide +kernel
theorem dX0_copyFrom_11 : decode cX0_copyFrom 11 = .ok (.aload_n 1, 1) := by decide +kernel
theorem dX0_copyFrom_12 : decode cX0_copyFrom 12 = .ok (.getfield 34, 3) := by decide +kernel
theorem dX0_copyFrom_15 : decode cX0_copyFrom 15 = .ok (.astore_n 2, 1) := by decide +kernel
theorem dX0_copyFrom_16 : decode cX0_copyFrom 16 = .ok (.aload_n 0, 1) := by decide +kernel
theorem dX0_copyFrom_17 : decode cX0_copyFrom 17 = .ok (.getfield 34, 3) := by decide +kernel
theorem dX0_copyFrom_20 : decode cX0_copyFrom 20 = .ok (.astore_n 3, 1) := by decide +kernel
theorem dX0_copyFrom_21 : decode cX0_copyFrom 21 = .ok (.aload_n 3, 1) := by decide +kernel
theorem dX0_copyFrom_22 : decode cX0_copyFrom 22 = .ok (.ifnull 25, 3) := by decide +kernel
theorem dX0_copyFrom_25 : decode cX0_copyFrom 25 = .ok (.aload_n 2, 1) := by decide +kernel
theorem dX0_copyFrom_26 : decode cX0_copyFrom 26 = .ok (.ifnull 21, 3) := by decide +kernel
theorem dX0_copyFrom_29 : decode cX0_copyFrom 29 = .ok (.aload_n 3, 1) := by decide +kernel
theorem dX0_copyFrom_30 : decode cX0_copyFrom 30 = .ok (.aload_n 2, 1) := by decide +kernel
theorem dX0_copyFrom_31 : decode cX0_copyFrom 31 = .ok (.invokevirtual 38, 3) := by decide +kernel
theorem dX0_copyFrom_34 : decode cX0_copyFrom 34 = .ok (.aload_n 2, 1) := by decide +kernel
theorem dX0_copyFrom_35 : decode cX0_copyFrom 35 = .ok (.getfield 41, 3) := by decide +kernel
theorem dX0_copyFrom_38 : decode cX0_copyFrom 38 = .ok (.astore_n 2, 1) := by decide +kernel
theorem dX0_copyFrom_39 : decode cX0_copyFrom 39 = .ok (.aload_n 3, 1) := by decide +kernel
theorem dX0_copyFrom_40 : decode cX0_copyFrom 40 = .ok (.getfield 41, 3) := by decide +kernel
theorem dX0_copyFrom_43 : decode cX0_copyFrom 43 = .ok (.astore_n 3, 1) := by decide +kernel
theorem dX0_copyFrom_44 : decode cX0_copyFrom 44 = .ok (.goto (-23), 3) := by decide +kernel
theorem dX0_copyFrom_47 : decode cX0_copyFrom 47 = .ok (.aload_n 0, 1) := by decide +kernel
theorem dX0_copyFrom_48 : decode cX0_copyFrom 48 = .ok (.getfield 21, 3) := by decide +kernel
theorem dX0_copyFrom_51 : decode cX0_copyFrom 51 = .ok (.aload_n 1, 1) := by decide +kernel
theorem dX0_copyFrom_52 : decode cX0_copyFrom 52 = .ok (.getfield 21, 3) := by decide +kernel
theorem dX0_copyFrom_55 : decode cX0_copyFrom 55 = .ok (.invokevirtual 44, 3) := by decide +kernel
theorem dX0_copyFrom_58 : decode cX0_copyFrom 58 = .ok (.aload_n 0, 1) := by decide +kernel
theorem dX0_copyFrom_59 : decode cX0_copyFrom 59 = .ok (.aload_n 1, 1) := by decide +kernel
theorem dX0_copyFrom_60 : decode cX0_copyFrom 60 = .ok (.getfield 47, 3) := by decide +kernel
theorem dX0_copyFrom_63 : decode cX0_copyFrom 63 = .ok (.putfield 47, 3) := by decide +kernel
theorem dX0_copyFrom_66 : decode cX0_copyFrom 66 = .ok (.aload_n 0, 1) := by decide +kernel
theorem dX0_copyFrom_67 : decode cX0_copyFrom 67 = .ok (.aload_n 1, 1) := by decide +kernel
theorem dX0_copyFrom_68 : decode cX0_copyFrom 68 = .ok (.getfield 51, 3) := by decide +kernel
theorem dX0_copyFrom_71 : decode cX0_copyFrom 71 = .ok (.putfield 51, 3) := by decide +kernel
theorem dX0_copyFrom_74 : decode cX0_copyFrom 74 = .ok (.aload_n 0, 1) := by decide +kernel
theorem dX0_copyFrom_75 : decode cX0_copyFrom 75 = .ok (.aload_n 1, 1) := by decide +kernel
theorem dX0_copyFrom_76 : decode cX0_copyFrom 76 = .ok (.getfield 54, 3) := by decide +kernel
theorem dX0_copyFrom_79 : decode cX0_copyFrom 79 = .ok (.putfield 54, 3) := by decide +kernel
theorem dX0_copyFrom_82 : decode cX0_copyFrom 82 = .ok (.aload_n 0, 1) := by decide +kernel
theorem dX0_copyFrom_83 : decode cX0_copyFrom 83 = .ok (.aload_n 1, 1) := by decide +kernel
theorem dX0_copyFrom_84 : decode cX0_copyFrom 84 = .ok (.getfield 57, 3) := by decide +kernel
theorem dX0_copyFrom_87 : decode cX0_copyFrom 87 = .ok (.putfield 57, 3) := by decide +kernel
theorem dX0_copyFrom_90 : decode cX0_copyFrom 90 = .ok (.aload_n 0, 1) := by decide +kernel
theorem dX0_copyFrom_91 : decode cX0_copyFrom 91 = .ok (.aload_n 1, 1) := by decide +kernel
theorem dX0_copyFrom_92 : decode cX0_copyFrom 92 = .ok (.getfield 60, 3) := by decide +kernel
theorem dX0_copyFrom_95 : decode cX0_copyFrom 95 = .ok (.putfield 60, 3) := by decide +kernel
theorem dX0_copyFrom_98 : decode cX0_copyFrom 98 = .ok (.aload_n 0, 1) := by decide +kernel
theorem dX0_copyFrom_99 : decode cX0_copyFrom 99 = .ok (.aload_n 1, 1) := by decide +kernel
theorem dX0_copyFrom_100 : decode cX0_copyFrom 100 = .ok (.getfield 63, 3) := by decide +kernel
theorem dX0_copyFrom_103 : decode cX0_copyFrom 103 = .ok (.putfield 63, 3) := by decide +kernel
theorem dX0_copyFrom_106 : decode cX0_copyFrom 106 = .ok (.aload_n 0, 1) := by decide +kernel
theorem dX0_copyFrom_107 : decode cX0_copyFrom 107 = .ok (.aload_n 1, 1) := by decide +kernel
theorem dX0_copyFrom_108 : decode cX0_copyFrom 108 = .ok (.getfield 66, 3) := by decide +kernel
theorem dX0_copyFrom_111 : decode cX0_copyFrom 111 = .ok (.putfield 66, 3) := by decide +kernel
theorem dX0_copyFrom_114 : decode cX0_copyFrom 114 = .ok (.aload_n 0, 1) := by decide +kernel
theorem dX0_copyFrom_115 : decode cX0_copyFrom 115 = .ok (.aload_n 1, 1) := by decide +kernel
theorem dX0_copyFrom_116 : decode cX0_copyFrom 116 = .ok (.getfield 69, 3) := by decide +kernel
theorem dX0_copyFrom_119 : decode cX0_copyFrom 119 = .ok (.putfield 69, 3) := by decide +kernel
theorem dX0_copyFrom_122 : decode cX0_copyFrom 122 = .ok (.aload_n 0, 1) := by decide +kernel
theorem dX0_copyFrom_123 : decode cX0_copyFrom 123 = .ok (.aload_n 1, 1) := by decide +kernel
theorem dX0_copyFrom_124 : decode cX0_copyFrom 124 = .ok (.getfield 72, 3) := by decide +kernel
theorem dX0_copyFrom_127 : decode cX0_copyFrom 127 = .ok (.putfield 72, 3) := by decide +kernel
theorem dX0_copyFrom_130 : decode cX0_copyFrom 130 = .ok (.aload_n 0, 1) := by decide +kernel
theorem dX0_copyFrom_131 : decode cX0_copyFrom 131 = .ok (.aload_n 1, 1) := by decide +kernel
theorem dX0_copyFrom_132 : decode cX0_copyFrom 132 = .ok (.getfield 75, 3) := by decide +kernel
theorem dX0_copyFrom_135 : decode cX0_copyFrom 135 = .ok (.putfield 75, 3) := by decide +kernel
theorem dX0_copyFrom_138 : decode cX0_copyFrom 138 = .ok (.aload_n 0, 1) := by decide +kernel
theorem dX0_copyFrom_139 : decode cX0_copyFrom 139 = .ok (.aload_n 1, 1) := by decide +kernel
theorem dX0_copyFrom_140 : decode cX0_copyFrom 140 = .ok (.getfield 78, 3) := by decide +kernel
theorem dX0_copyFrom_143 : decode cX0_copyFrom 143 = .ok (.putfield 78, 3) := by decide +kernel
theorem dX0_copyFrom_146 : decode cX0_copyFrom 146 = .ok (.return_, 1) := by decide +kernel
set_option maxRecDepth 20000 in
theorem ggX0_adjust_X7_isIndexOf : GoodIn wsX0_adjust wsX7_isIndexOf := goodIn_r _ [4] (by decide +kernel) (by decide +kernel)
set_option maxRecDepth 20000 in
theorem gX0_adjust_X7_isIndexOf_n81 : GoodIn wsX0_adjust (wsX7_isIndexOf) := ggX0_adjust_X7_isIndexOf
set_option maxRecDepth 20000 in
theorem ggX0_adjust_X7_valueAt : GoodIn wsX0_adjust wsX7_valueAt := goodIn_r _ [6] (by decide +kernel) (by decide +kernel)
set_option maxRecDepth 20000 in
theorem gX0_adjust_X7_valueAt_n88 : GoodIn wsX0_adjust (wsX7_valueAt) := ggX0_adjust_X7_valueAt
theorem dX0_adjust_0 : decode cX0_adjust 0 = .ok (.aload_n 0, 1) := by decide +kernel
theorem dX0_adjust_1 : decode cX0_adjust 1 = .ok (.getfield 13, 3) := by decide +kernel
theorem dX0_adjust_4 : decode cX0_adjust 4 = .ok (.iload_n 1, 1) := by decide +kernel
theorem dX0_adjust_5 : decode cX0_adjust 5 = .ok (.invokestatic 81, 3) := by decide +kernel
theorem dX0_adjust_8 : decode cX0_adjust 8 = .ok (.ifCond .ne 6, 3) := by decide +kernel
theorem dX0_adjust_11 : decode cX0_adjust 11 = .ok (.bipush (-2), 2) := by decide +kernel
theorem dX0_adjust_13 : decode cX0_adjust 13 = .ok (.ireturn, 1) := by decide +kernel
theorem dX0_adjust_14 : decode cX0_adjust 14 = .ok (.iload_n 2, 1) := by decide +kernel
theorem dX0_adjust_15 : decode cX0_adjust 15 = .ok (.getstatic 85, 3) := by decide +kernel
theorem dX0_adjust_18 : decode cX0_adjust 18 = .ok (.iload_n 1, 1) := by decide +kernel
theorem dX0_adjust_19 : decode cX0_adjust 19 = .ok (.invokestatic 88, 3) := by decide +kernel
theorem dX0_adjust_22 : decode cX0_adjust 22 = .ok (.if_icmp .lt 14, 3) := by decide +kernel
theorem dX0_adjust_25 : decode cX0_adjust 25 = .ok (.iload_n 2, 1) := by decide +kernel
theorem dX0_adjust_26 : decode cX0_adjust 26 = .ok (.getstatic 92, 3) := by decide +kernel
theorem dX0_adjust_29 : decode cX0_adjust 29 = .ok (.iload_n 1, 1) := by decide +kernel
theorem dX0_adjust_30 : decode cX0_adjust 30 = .ok (.invokestatic 88, 3) := by decide +kernel
theorem dX0_adjust_33 : decode cX0_adjust 33 = .ok (.if_icmp .le 6, 3) := by decide +kernel
theorem dX0_adjust_36 : decode cX0_adjust 36 = .ok (.bipush (-2), 2) := by decide +kernel
theorem dX0_adjust_38 : decode cX0_adjust 38 = .ok (.ireturn, 1) := by decide +kernel
theorem dX0_adjust_39 : decode cX0_adjust 39 = .ok (.aload_n 0, 1) := by decide +kernel
theorem dX0_adjust_40 : decode cX0_adjust 40 = .ok (.getfield 13, 3) := by decide +kernel
theorem dX0_adjust_43 : decode cX0_adjust 43 = .ok (.iload_n 1, 1) := by decide +kernel
theorem dX0_adjust_44 : decode cX0_adjust 44 = .ok (.iaload, 1) := by decide +kernel
theorem dX0_adjust_45 : decode cX0_adjust 45 = .ok (.istore_n 3, 1) := by decide +kernel
theorem dX0_adjust_46 : decode cX0_adjust 46 = .ok (.aload_n 0, 1) := by decide +kernel
theorem dX0_adjust_47 : decode cX0_adjust 47 = .ok (.getfield 13, 3) := by decide +kernel
theorem dX0_adjust_50 : decode cX0_adjust 50 = .ok (.iload_n 1, 1) := by decide +kernel
theorem dX0_adjust_51 : decode cX0_adjust 51 = .ok (.iload_n 2, 1) := by decide +kernel
theorem dX0_adjust_52 : decode cX0_adjust 52 = .ok (.iastore, 1) := by decide +kernel
theorem dX0_adjust_53 : decode cX0_adjust 53 = .ok (.iload_n 3, 1) := by decide +kernel
theorem dX0_adjust_54 : decode cX0_adjust 54 = .ok (.ireturn, 1) := by decide +kernel
set_option maxRecDepth 20000 in
theorem ggX0_accept_X7_isSlip : GoodIn wsX0_accept wsX7_isSlip := goodIn_r _ [5] (by decide +kernel) (by decide +kernel)
set_option maxRecDepth 20000 in
theorem gX0_accept_X7_isSlip_n95 : GoodIn wsX0_accept (wsX7_isSlip) := ggX0_accept_X7_isSlip
set_option maxRecDepth 20000 in
theorem ggX0_accept_X0_hostFor : GoodIn wsX0_accept wsX0_hostFor := goodIn_r _ [10, 11, 12, 13, 14, 15, 16, 17, 18, 19, 20, 21, 22, 41, 42, 43, 44, 45, 46, 47, 48, 49, 50, 51, 52, 53, 54, 33, 34, 35, 36, 37, 38, 39, 40] (by decide +kernel) (by decide +kernel)
set_option maxRecDepth 20000 in
theorem gX0_accept_X0_hostFor : GoodIn wsX0_accept (wsV RX0 99 RX0 yX0_hostFor wsX0_hostFor) := goodIn_app (goodIn_of _ (by decide +kernel)) ggX0_accept_X0_hostFor
set_option maxRecDepth 20000 in
theorem ggX0_accept_X0_freePlace : GoodIn wsX0_accept wsX0_freePlace := goodIn_r _ [26, 11, 41, 42, 43, 44, 45, 46, 47, 48, 49, 50, 51, 52, 53, 54, 33, 34, 35, 36, 37, 38, 39, 40] (by decide +kernel) (by decide +kernel)
set_option maxRecDepth 20000 in
theorem gX0_accept_X0_freePlace : GoodIn wsX0_accept (wsV RX0 112 RX0 yX0_freePlace wsX0_freePlace) := goodIn_app (goodIn_of _ (by decide +kernel)) ggX0_accept_X0_freePlace
set_option maxRecDepth 20000 in
theorem ggX0_accept_X0_countWaiting : GoodIn wsX0_accept wsX0_countWaiting := goodIn_r _ [30, 31, 32, 41, 42, 43, 44, 45, 46, 47, 48, 49, 50, 51, 52, 53, 54] (by decide +kernel) (by decide +kernel)
set_option maxRecDepth 20000 in
theorem gX0_accept_X0_countWaiting : GoodIn wsX0_accept (wsV RX0 129 RX0 yX0_countWaiting wsX0_countWaiting) := goodIn_app (goodIn_of _ (by decide +kernel)) ggX0_accept_X0_countWaiting
theorem dX0_accept_0 : decode cX0_accept 0 = .ok (.iload_n 1, 1) := by decide +kernel
theorem dX0_accept_1 : decode cX0_accept 1 = .ok (.iload_n 2, 1) := by decide +kernel
theorem dX0_accept_2 : decode cX0_accept 2 = .ok (.iload_n 3, 1) := by decide +kernel
theorem dX0_accept_3 : decode cX0_accept 3 = .ok (.invokestatic 95, 3) := by decide +kernel
theorem dX0_accept_6 : decode cX0_accept 6 = .ok (.ifCond .ne 6, 3) := by decide +kernel
theorem dX0_accept_9 : decode cX0_accept 9 = .ok (.bipush (-2), 2) := by decide +kernel
theorem dX0_accept_11 : decode cX0_accept 11 = .ok (.ireturn, 1) := by decide +kernel
theorem dX0_accept_12 : decode cX0_accept 12 = .ok (.aload_n 0, 1) := by decide +kernel
theorem dX0_accept_13 : decode cX0_accept 13 = .ok (.iload_n 1, 1) := by decide +kernel
theorem dX0_accept_14 : decode cX0_accept 14 = .ok (.iload_n 2, 1) := by decide +kernel
theorem dX0_accept_15 : decode cX0_accept 15 = .ok (.iload_n 3, 1) := by decide +kernel
theorem dX0_accept_16 : decode cX0_accept 16 = .ok (.invokevirtual 99, 3) := by decide +kernel
theorem dX0_accept_19 : decode cX0_accept 19 = .ok (.astore 4, 2) := by decide +kernel
theorem dX0_accept_21 : decode cX0_accept 21 = .ok (.aload 4, 2) := by decide +kernel
theorem dX0_accept_23 : decode cX0_accept 23 = .ok (.ifnull 31, 3) := by decide +kernel
theorem dX0_accept_26 : decode cX0_accept 26 = .ok (.aload 4, 2) := by decide +kernel
theorem dX0_accept_28 : decode cX0_accept 28 = .ok (.dup, 1) := by decide +kernel
theorem dX0_accept_29 : decode cX0_accept 29 = .ok (.getfield 103, 3) := by decide +kernel
theorem dX0_accept_32 : decode cX0_accept 32 = .ok (.iload_n 3, 1) := by decide +kernel
theorem dX0_accept_33 : decode cX0_accept 33 = .ok (.iadd, 1) := by decide +kernel
theorem dX0_accept_34 : decode cX0_accept 34 = .ok (.putfield 103, 3) := by decide +kernel
theorem dX0_accept_37 : decode cX0_accept 37 = .ok (.aload 4, 2) := by decide +kernel
theorem dX0_accept_39 : decode cX0_accept 39 = .ok (.dup, 1) := by decide +kernel
theorem dX0_accept_40 : decode cX0_accept 40 = .ok (.getfield 106, 3) := by decide +kernel
theorem dX0_accept_43 : decode cX0_accept 43 = .ok (.iconst 1, 1) := by decide +kernel
theorem dX0_accept_44 : decode cX0_accept 44 = .ok (.iadd, 1) := by decide +kernel
theorem dX0_accept_45 : decode cX0_accept 45 = .ok (.putfield 106, 3) := by decide +kernel
theorem dX0_accept_48 : decode cX0_accept 48 = .ok (.aload 4, 2) := by decide +kernel
theorem dX0_accept_50 : decode cX0_accept 50 = .ok (.getfield 109, 3) := by decide +kernel
theorem dX0_accept_53 : decode cX0_accept 53 = .ok (.ireturn, 1) := by decide +kernel
theorem dX0_accept_54 : decode cX0_accept 54 = .ok (.aload_n 0, 1) := by decide +kernel
theorem dX0_accept_55 : decode cX0_accept 55 = .ok (.invokevirtual 112, 3) := by decide +kernel
theorem dX0_accept_58 : decode cX0_accept 58 = .ok (.astore 5, 2) := by decide +kernel
theorem dX0_accept_60 : decode cX0_accept 60 = .ok (.aload 5, 2) := by decide +kernel
theorem dX0_accept_62 : decode cX0_accept 62 = .ok (.ifnonnull 6, 3) := by decide +kernel
theorem dX0_accept_65 : decode cX0_accept 65 = .ok (.bipush (-4), 2) := by decide +kernel
theorem dX0_accept_67 : decode cX0_accept 67 = .ok (.ireturn, 1) := by decide +kernel
theorem dX0_accept_68 : decode cX0_accept 68 = .ok (.aload 5, 2) := by decide +kernel
theorem dX0_accept_70 : decode cX0_accept 70 = .ok (.iconst 1, 1) := by decide +kernel
theorem dX0_accept_71 : decode cX0_accept 71 = .ok (.putfield 116, 3) := by decide +kernel
theorem dX0_accept_74 : decode cX0_accept 74 = .ok (.aload 5, 2) := by decide +kernel
theorem dX0_accept_76 : decode cX0_accept 76 = .ok (.aload_n 0, 1) := by decide +kernel
theorem dX0_accept_77 : decode cX0_accept 77 = .ok (.getfield 54, 3) := by decide +kernel
theorem dX0_accept_80 : decode cX0_accept 80 = .ok (.putfield 109, 3) := by decide +kernel
theorem dX0_accept_83 : decode cX0_accept 83 = .ok (.aload 5, 2) := by decide +kernel
theorem dX0_accept_85 : decode cX0_accept 85 = .ok (.iload_n 1, 1) := by decide +kernel
theorem dX0_accept_86 : decode cX0_accept 86 = .ok (.putfield 120, 3) := by decide +kernel
theorem dX0_accept_89 : decode cX0_accept 89 = .ok (.aload 5, 2) := by decide +kernel
theorem dX0_accept_91 : decode cX0_accept 91 = .ok (.iload_n 2, 1) := by decide +kernel
theorem dX0_accept_92 : decode cX0_accept 92 = .ok (.putfield 123, 3) := by decide +kernel
theorem dX0_accept_95 : decode cX0_accept 95 = .ok (.aload 5, 2) := by decide +kernel
theorem dX0_accept_97 : decode cX0_accept 97 = .ok (.iload_n 3, 1) := by decide +kernel
theorem dX0_accept_98 : decode cX0_accept 98 = .ok (.putfield 103, 3) := by decide +kernel
theorem dX0_accept_101 : decode cX0_accept 101 = .ok (.aload 5, 2) := by decide +kernel
theorem dX0_accept_103 : decode cX0_accept 103 = .ok (.aload_n 0, 1) := by decide +kernel
theorem dX0_accept_104 : decode cX0_accept 104 = .ok (.getfield 57, 3) := by decide +kernel
theorem dX0_accept_107 : decode cX0_accept 107 = .ok (.putfield 126, 3) := by decide +kernel
theorem dX0_accept_110 : decode cX0_accept 110 = .ok (.aload 5, 2) := by decide +kernel
theorem dX0_accept_112 : decode cX0_accept 112 = .ok (.iconst 0, 1) := by decide +kernel
theorem dX0_accept_113 : decode cX0_accept 113 = .ok (.putfield 106, 3) := by decide +kernel
theorem dX0_accept_116 : decode cX0_accept 116 = .ok (.aload_n 0, 1) := by decide +kernel
theorem dX0_accept_117 : decode cX0_accept 117 = .ok (.dup, 1) := by decide +kernel
theorem dX0_accept_118 : decode cX0_accept 118 = .ok (.getfield 54, 3) := by decide +kernel
theorem dX0_accept_121 : decode cX0_accept 121 = .ok (.iconst 1, 1) := by decide +kernel
theorem dX0_accept_122 : decode cX0_accept 122 = .ok (.iadd, 1) := by decide +kernel
theorem dX0_accept_123 : decode cX0_accept 123 = .ok (.putfield 54, 3) := by decide +kernel
theorem dX0_accept_126 : decode cX0_accept 126 = .ok (.aload_n 0, 1) := by decide +kernel
theorem dX0_accept_127 : decode cX0_accept 127 = .ok (.iload_n 1, 1) := by decide +kernel
theorem dX0_accept_128 : decode cX0_accept 128 = .ok (.iconst 1, 1) := by decide +kernel
theorem dX0_accept_129 : decode cX0_accept 129 = .ok (.invokevirtual 129, 3) := by decide +kernel
theorem dX0_accept_132 : decode cX0_accept 132 = .ok (.aload 5, 2) := by decide +kernel
theorem dX0_accept_134 : decode cX0_accept 134 = .ok (.getfield 109, 3) := by decide +kernel
theorem dX0_accept_137 : decode cX0_accept 137 = .ok (.ireturn, 1) := by decide +kernel
set_option maxRecDepth 20000 in
theorem ggX0_tearUp_X0_find : GoodIn wsX0_tearUp wsX0_find := goodIn_r _ [5, 6, 22, 23, 24, 25, 26, 27, 28, 29, 30, 31, 32, 33, 34, 35, 36, 37, 38, 39, 40, 41, 42, 43] (by decide +kernel) (by decide +kernel)
set_option maxRecDepth 20000 in
theorem gX0_tearUp_X0_find : GoodIn wsX0_tearUp (wsV RX0 133 RX0 yX0_find wsX0_find) := goodIn_app (goodIn_of _ (by decide +kernel)) ggX0_tearUp_X0_find
set_option maxRecDepth 20000 in
theorem ggX0_tearUp_X0_remove : GoodIn wsX0_tearUp wsX0_remove := goodIn_r _ [10, 11, 12, 13, 4, 14, 15, 16, 36, 37, 38, 39, 40, 41, 42, 43, 22, 23, 24, 25, 26, 27, 28, 29, 30, 31, 32, 33, 34, 35] (by decide +kernel) (by decide +kernel)
set_option maxRecDepth 20000 in
theorem gX0_tearUp_X0_remove : GoodIn wsX0_tearUp (wsV RX0 137 RX0 yX0_remove wsX0_remove) := goodIn_app (goodIn_of _ (by decide +kernel)) ggX0_tearUp_X0_remove
set_option maxRecDepth 20000 in
theorem ggX0_tearUp_X0_age : GoodIn wsX0_tearUp wsX0_age := goodIn_r _ [20, 21, 22, 23, 24, 25, 26, 27, 28, 29, 30, 31, 32, 33, 34, 35, 36, 37, 38, 39, 40, 41, 42, 43] (by decide +kernel) (by decide +kernel)
set_option maxRecDepth 20000 in
theorem gX0_tearUp_X0_age : GoodIn wsX0_tearUp (wsV RX0 140 RX0 yX0_age wsX0_age) := goodIn_app (goodIn_of _ (by decide +kernel)) ggX0_tearUp_X0_age
theorem dX0_tearUp_0 : decode cX0_tearUp 0 = .ok (.aload_n 0, 1) := by decide +kernel
theorem dX0_tearUp_1 : decode cX0_tearUp 1 = .ok (.iload_n 1, 1) := by decide +kernel
theorem dX0_tearUp_2 : decode cX0_tearUp 2 = .ok (.invokevirtual 133, 3) := by decide +kernel
theorem dX0_tearUp_5 : decode cX0_tearUp 5 = .ok (.astore_n 2, 1) := by decide +kernel
theorem dX0_tearUp_6 : decode cX0_tearUp 6 = .ok (.aload_n 2, 1) := by decide +kernel
theorem dX0_tearUp_7 : decode cX0_tearUp 7 = .ok (.ifnonnull 5, 3) := by decide +kernel
theorem dX0_tearUp_10 : decode cX0_tearUp 10 = .ok (.iconst (-1), 1) := by decide +kernel
theorem dX0_tearUp_11 : decode cX0_tearUp 11 = .ok (.ireturn, 1) := by decide +kernel
theorem dX0_tearUp_12 : decode cX0_tearUp 12 = .ok (.aload_n 0, 1) := by decide +kernel
theorem dX0_tearUp_13 : decode cX0_tearUp 13 = .ok (.aload_n 2, 1) := by decide +kernel
theorem dX0_tearUp_14 : decode cX0_tearUp 14 = .ok (.invokevirtual 137, 3) := by decide +kernel
theorem dX0_tearUp_17 : decode cX0_tearUp 17 = .ok (.aload_n 0, 1) := by decide +kernel
theorem dX0_tearUp_18 : decode cX0_tearUp 18 = .ok (.aload_n 2, 1) := by decide +kernel
theorem dX0_tearUp_19 : decode cX0_tearUp 19 = .ok (.invokevirtual 140, 3) := by decide +kernel
theorem dX0_tearUp_22 : decode cX0_tearUp 22 = .ok (.ireturn, 1) := by decide +kernel
theorem dX0_stand_0 : decode cX0_stand 0 = .ok (.iload_n 1, 1) := by decide +kernel
theorem dX0_stand_1 : decode cX0_stand 1 = .ok (.iconst 1, 1) := by decide +kernel
theorem dX0_stand_2 : decode cX0_stand 2 = .ok (.if_icmp .lt 10, 3) := by decide +kernel
theorem dX0_stand_5 : decode cX0_stand 5 = .ok (.iload_n 1, 1) := by decide +kernel
theorem dX0_stand_6 : decode cX0_stand 6 = .ok (.sipush 999, 3) := by decide +kernel
theorem dX0_stand_9 : decode cX0_stand 9 = .ok (.if_icmp .le 6, 3) := by decide +kernel
theorem dX0_stand_12 : decode cX0_stand 12 = .ok (.bipush (-2), 2) := by decide +kernel
theorem dX0_stand_14 : decode cX0_stand 14 = .ok (.ireturn, 1) := by decide +kernel
theorem dX0_stand_15 : decode cX0_stand 15 = .ok (.aload_n 0, 1) := by decide +kernel
theorem dX0_stand_16 : decode cX0_stand 16 = .ok (.getfield 57, 3) := by decide +kernel
theorem dX0_stand_19 : decode cX0_stand 19 = .ok (.iload_n 1, 1) := by decide +kernel
theorem dX0_stand_20 : decode cX0_stand 20 = .ok (.iadd, 1) := by decide +kernel
theorem dX0_stand_21 : decode cX0_stand 21 = .ok (.ldc 144, 2) := by decide +kernel
theorem dX0_stand_23 : decode cX0_stand 23 = .ok (.if_icmp .le 6, 3) := by decide +kernel
theorem dX0_stand_26 : decode cX0_stand 26 = .ok (.bipush (-5), 2) := by decide +kernel
theorem dX0_stand_28 : decode cX0_stand 28 = .ok (.ireturn, 1) := by decide +kernel
theorem dX0_stand_29 : decode cX0_stand 29 = .ok (.aload_n 0, 1) := by decide +kernel
theorem dX0_stand_30 : decode cX0_stand 30 = .ok (.dup, 1) := by decide +kernel
theorem dX0_stand_31 : decode cX0_stand 31 = .ok (.getfield 57, 3) := by decide +kernel
theorem dX0_stand_34 : decode cX0_stand 34 = .ok (.iload_n 1, 1) := by decide +kernel
theorem dX0_stand_35 : decode cX0_stand 35 = .ok (.iadd, 1) := by decide +kernel
theorem dX0_stand_36 : decode cX0_stand 36 = .ok (.putfield 57, 3) := by decide +kernel
theorem dX0_stand_39 : decode cX0_stand 39 = .ok (.aload_n 0, 1) := by decide +kernel
theorem dX0_stand_40 : decode cX0_stand 40 = .ok (.getfield 57, 3) := by decide +kernel
theorem dX0_stand_43 : decode cX0_stand 43 = .ok (.ireturn, 1) := by decide +kernel
set_option maxRecDepth 20000 in
theorem ggX0_remove_X0_countWaiting : GoodIn wsX0_remove wsX0_countWaiting := goodIn_r _ [5, 6, 7, 16, 17, 18, 19, 20, 21, 22, 23, 24, 25, 26, 27, 28, 29] (by decide +kernel) (by decide +kernel)
set_option maxRecDepth 20000 in
theorem gX0_remove_X0_countWaiting : GoodIn wsX0_remove (wsV RX0 129 RX0 yX0_countWaiting wsX0_countWaiting) := goodIn_app (goodIn_of _ (by decide +kernel)) ggX0_remove_X0_countWaiting
theorem dX0_remove_0 : decode cX0_remove 0 = .ok (.aload_n 1, 1) := by decide +kernel
theorem dX0_remove_1 : decode cX0_remove 1 = .ok (.iconst 0, 1) := by decide +kernel
theorem dX0_remove_2 : decode cX0_remove 2 = .ok (.putfield 116, 3) := by decide +kernel
theorem dX0_remove_5 : decode cX0_remove 5 = .ok (.aload_n 0, 1) := by decide +kernel
theorem dX0_remove_6 : decode cX0_remove 6 = .ok (.aload_n 1, 1) := by decide +kernel
theorem dX0_remove_7 : decode cX0_remove 7 = .ok (.getfield 120, 3) := by decide +kernel
theorem dX0_remove_10 : decode cX0_remove 10 = .ok (.iconst (-1), 1) := by decide +kernel
theorem dX0_remove_11 : decode cX0_remove 11 = .ok (.invokevirtual 129, 3) := by decide +kernel
theorem dX0_remove_14 : decode cX0_remove 14 = .ok (.return_, 1) := by decide +kernel
theorem dX0_countWaiting_0 : decode cX0_countWaiting 0 = .ok (.iload_n 1, 1) := by decide +kernel
theorem dX0_countWaiting_1 : decode cX0_countWaiting 1 = .ok (.iconst 1, 1) := by decide +kernel
theorem dX0_countWaiting_2 : decode cX0_countWaiting 2 = .ok (.if_icmp .ne 16, 3) := by decide +kernel
theorem dX0_countWaiting_5 : decode cX0_countWaiting 5 = .ok (.aload_n 0, 1) := by decide +kernel
theorem dX0_countWaiting_6 : decode cX0_countWaiting 6 = .ok (.dup, 1) := by decide +kernel
theorem dX0_countWaiting_7 : decode cX0_countWaiting 7 = .ok (.getfield 51, 3) := by decide +kernel
theorem dX0_countWaiting_10 : decode cX0_countWaiting 10 = .ok (.iload_n 2, 1) := by decide +kernel
theorem dX0_countWaiting_11 : decode cX0_countWaiting 11 = .ok (.iadd, 1) := by decide +kernel
theorem dX0_countWaiting_12 : decode cX0_countWaiting 12 = .ok (.putfield 51, 3) := by decide +kernel
theorem dX0_countWaiting_15 : decode cX0_countWaiting 15 = .ok (.goto 13, 3) := by decide +kernel
theorem dX0_countWaiting_18 : decode cX0_countWaiting 18 = .ok (.aload_n 0, 1) := by decide +kernel
theorem dX0_countWaiting_19 : decode cX0_countWaiting 19 = .ok (.dup, 1) := by decide +kernel
theorem dX0_countWaiting_20 : decode cX0_countWaiting 20 = .ok (.getfield 47, 3) := by decide +kernel
theorem dX0_countWaiting_23 : decode cX0_countWaiting 23 = .ok (.iload_n 2, 1) := by decide +kernel
theorem dX0_countWaiting_24 : decode cX0_countWaiting 24 = .ok (.iadd, 1) := by decide +kernel
theorem dX0_countWaiting_25 : decode cX0_countWaiting 25 = .ok (.putfield 47, 3) := by decide +kernel
theorem dX0_countWaiting_28 : decode cX0_countWaiting 28 = .ok (.return_, 1) := by decide +kernel
theorem dX0_slipsThatWait_0 : decode cX0_slipsThatWait 0 = .ok (.aload_n 0, 1) := by decide +kernel
theorem dX0_slipsThatWait_1 : decode cX0_slipsThatWait 1 = .ok (.getfield 47, 3) := by decide +kernel
theorem dX0_slipsThatWait_4 : decode cX0_slipsThatWait 4 = .ok (.aload_n 0, 1) := by decide +kernel
theorem dX0_slipsThatWait_5 : decode cX0_slipsThatWait 5 = .ok (.getfield 51, 3) := by decide +kernel
theorem dX0_slipsThatWait_8 : decode cX0_slipsThatWait 8 = .ok (.iadd, 1) := by decide +kernel
theorem dX0_slipsThatWait_9 : decode cX0_slipsThatWait 9 = .ok (.ireturn, 1) := by decide +kernel
theorem dX0_find_0 : decode cX0_find 0 = .ok (.aload_n 0, 1) := by decide +kernel
theorem dX0_find_1 : decode cX0_find 1 = .ok (.getfield 34, 3) := by decide +kernel
theorem dX0_find_4 : decode cX0_find 4 = .ok (.astore_n 2, 1) := by decide +kernel
theorem dX0_find_5 : decode cX0_find 5 = .ok (.aload_n 2, 1) := by decide +kernel
theorem dX0_find_6 : decode cX0_find 6 = .ok (.ifnull 28, 3) := by decide +kernel
theorem dX0_find_9 : decode cX0_find 9 = .ok (.aload_n 2, 1) := by decide +kernel
theorem dX0_find_10 : decode cX0_find 10 = .ok (.getfield 116, 3) := by decide +kernel
theorem dX0_find_13 : decode cX0_find 13 = .ok (.ifCond .eq 13, 3) := by decide +kernel
theorem dX0_find_16 : decode cX0_find 16 = .ok (.aload_n 2, 1) := by decide +kernel
theorem dX0_find_17 : decode cX0_find 17 = .ok (.getfield 109, 3) := by decide +kernel
theorem dX0_find_20 : decode cX0_find 20 = .ok (.iload_n 1, 1) := by decide +kernel
theorem dX0_find_21 : decode cX0_find 21 = .ok (.if_icmp .ne 5, 3) := by decide +kernel
theorem dX0_find_24 : decode cX0_find 24 = .ok (.aload_n 2, 1) := by decide +kernel
theorem dX0_find_25 : decode cX0_find 25 = .ok (.areturn, 1) := by decide +kernel
theorem dX0_find_26 : decode cX0_find 26 = .ok (.aload_n 2, 1) := by decide +kernel
theorem dX0_find_27 : decode cX0_find 27 = .ok (.getfield 41, 3) := by decide +kernel
theorem dX0_find_30 : decode cX0_find 30 = .ok (.astore_n 2, 1) := by decide +kernel
theorem dX0_find_31 : decode cX0_find 31 = .ok (.goto (-26), 3) := by decide +kernel
theorem dX0_find_34 : decode cX0_find 34 = .ok (.aconst_null, 1) := by decide +kernel
theorem dX0_find_35 : decode cX0_find 35 = .ok (.areturn, 1) := by decide +kernel
theorem dX0_freePlace_0 : decode cX0_freePlace 0 = .ok (.aload_n 0, 1) := by decide +kernel
theorem dX0_freePlace_1 : decode cX0_freePlace 1 = .ok (.getfield 34, 3) := by decide +kernel
theorem dX0_freePlace_4 : decode cX0_freePlace 4 = .ok (.astore_n 1, 1) := by decide +kernel
theorem dX0_freePlace_5 : decode cX0_freePlace 5 = .ok (.aload_n 1, 1) := by decide +kernel
theorem dX0_freePlace_6 : decode cX0_freePlace 6 = .ok (.ifnull 20, 3) := by decide +kernel
theorem dX0_freePlace_9 : decode cX0_freePlace 9 = .ok (.aload_n 1, 1) := by decide +kernel
theorem dX0_freePlace_10 : decode cX0_freePlace 10 = .ok (.getfield 116, 3) := by decide +kernel
theorem dX0_freePlace_13 : decode cX0_freePlace 13 = .ok (.ifCond .ne 5, 3) := by decide +kernel
theorem dX0_freePlace_16 : decode cX0_freePlace 16 = .ok (.aload_n 1, 1) := by decide +kernel
theorem dX0_freePlace_17 : decode cX0_freePlace 17 = .ok (.areturn, 1) := by decide +kernel
theorem dX0_freePlace_18 : decode cX0_freePlace 18 = .ok (.aload_n 1, 1) := by decide +kernel
theorem dX0_freePlace_19 : decode cX0_freePlace 19 = .ok (.getfield 41, 3) := by decide +kernel
theorem dX0_freePlace_22 : decode cX0_freePlace 22 = .ok (.astore_n 1, 1) := by decide +kernel
theorem dX0_freePlace_23 : decode cX0_freePlace 23 = .ok (.goto (-18), 3) := by decide +kernel
theorem dX0_freePlace_26 : decode cX0_freePlace 26 = .ok (.aconst_null, 1) := by decide +kernel
theorem dX0_freePlace_27 : decode cX0_freePlace 27 = .ok (.areturn, 1) := by decide +kernel
set_option maxRecDepth 20000 in
theorem ggX0_hostFor_X5_isOfSort : GoodIn wsX0_hostFor wsX5_isOfSort := goodIn_r _ [5, 6, 7, 27, 28, 29, 30, 31, 32, 33, 34] (by decide +kernel) (by decide +kernel)
set_option maxRecDepth 20000 in
theorem gX0_hostFor_X5_isOfSort_n145 : GoodIn wsX0_hostFor (wsX5_isOfSort) := ggX0_hostFor_X5_isOfSort
set_option maxRecDepth 20000 in
theorem ggX0_hostFor_X5_last : GoodIn wsX0_hostFor wsX5_last := goodIn_r _ [10, 11, 12, 27, 28, 29, 30, 31, 32, 33, 34] (by decide +kernel) (by decide +kernel)
set_option maxRecDepth 20000 in
theorem gX0_hostFor_X5_last_n149 : GoodIn wsX0_hostFor (wsX5_last) := ggX0_hostFor_X5_last
theorem dX0_hostFor_0 : decode cX0_hostFor 0 = .ok (.aconst_null, 1) := by decide +kernel
theorem dX0_hostFor_1 : decode cX0_hostFor 1 = .ok (.astore 4, 2) := by decide +kernel
theorem dX0_hostFor_3 : decode cX0_hostFor 3 = .ok (.aload_n 0, 1) := by decide +kernel
theorem dX0_hostFor_4 : decode cX0_hostFor 4 = .ok (.getfield 34, 3) := by decide +kernel
theorem dX0_hostFor_7 : decode cX0_hostFor 7 = .ok (.astore 5, 2) := by decide +kernel
theorem dX0_hostFor_9 : decode cX0_hostFor 9 = .ok (.aload 5, 2) := by decide +kernel
theorem dX0_hostFor_11 : decode cX0_hostFor 11 = .ok (.ifnull 79, 3) := by decide +kernel
theorem dX0_hostFor_14 : decode cX0_hostFor 14 = .ok (.aload 5, 2) := by decide +kernel
theorem dX0_hostFor_16 : decode cX0_hostFor 16 = .ok (.iload_n 1, 1) := by decide +kernel
theorem dX0_hostFor_17 : decode cX0_hostFor 17 = .ok (.invokevirtual 145, 3) := by decide +kernel
theorem dX0_hostFor_20 : decode cX0_hostFor 20 = .ok (.ifCond .eq 30, 3) := by decide +kernel
theorem dX0_hostFor_23 : decode cX0_hostFor 23 = .ok (.aload 5, 2) := by decide +kernel
theorem dX0_hostFor_25 : decode cX0_hostFor 25 = .ok (.invokevirtual 149, 3) := by decide +kernel
theorem dX0_hostFor_28 : decode cX0_hostFor 28 = .ok (.iconst 1, 1) := by decide +kernel
theorem dX0_hostFor_29 : decode cX0_hostFor 29 = .ok (.iadd, 1) := by decide +kernel
theorem dX0_hostFor_30 : decode cX0_hostFor 30 = .ok (.iload_n 2, 1) := by decide +kernel
theorem dX0_hostFor_31 : decode cX0_hostFor 31 = .ok (.if_icmp .ne 19, 3) := by decide +kernel
theorem dX0_hostFor_34 : decode cX0_hostFor 34 = .ok (.aload 5, 2) := by decide +kernel
theorem dX0_hostFor_36 : decode cX0_hostFor 36 = .ok (.getfield 103, 3) := by decide +kernel
theorem dX0_hostFor_39 : decode cX0_hostFor 39 = .ok (.iload_n 3, 1) := by decide +kernel
theorem dX0_hostFor_40 : decode cX0_hostFor 40 = .ok (.iadd, 1) := by decide +kernel
theorem dX0_hostFor_41 : decode cX0_hostFor 41 = .ok (.bipush 9, 2) := by decide +kernel
theorem dX0_hostFor_43 : decode cX0_hostFor 43 = .ok (.if_icmp .gt 7, 3) := by decide +kernel
theorem dX0_hostFor_46 : decode cX0_hostFor 46 = .ok (.iconst 1, 1) := by decide +kernel
theorem dX0_hostFor_47 : decode cX0_hostFor 47 = .ok (.goto 4, 3) := by decide +kernel
theorem dX0_hostFor_50 : decode cX0_hostFor 50 = .ok (.iconst 0, 1) := by decide +kernel
theorem dX0_hostFor_51 : decode cX0_hostFor 51 = .ok (.istore 6, 2) := by decide +kernel
theorem dX0_hostFor_53 : decode cX0_hostFor 53 = .ok (.iload 6, 2) := by decide +kernel
theorem dX0_hostFor_55 : decode cX0_hostFor 55 = .ok (.ifCond .eq 25, 3) := by decide +kernel
theorem dX0_hostFor_58 : decode cX0_hostFor 58 = .ok (.aload 4, 2) := by decide +kernel
theorem dX0_hostFor_60 : decode cX0_hostFor 60 = .ok (.ifnull 16, 3) := by decide +kernel
theorem dX0_hostFor_63 : decode cX0_hostFor 63 = .ok (.aload 5, 2) := by decide +kernel
theorem dX0_hostFor_65 : decode cX0_hostFor 65 = .ok (.getfield 109, 3) := by decide +kernel
theorem dX0_hostFor_68 : decode cX0_hostFor 68 = .ok (.aload 4, 2) := by decide +kernel
theorem dX0_hostFor_70 : decode cX0_hostFor 70 = .ok (.getfield 109, 3) := by decide +kernel
theorem dX0_hostFor_73 : decode cX0_hostFor 73 = .ok (.if_icmp .ge 7, 3) := by decide +kernel
theorem dX0_hostFor_76 : decode cX0_hostFor 76 = .ok (.aload 5, 2) := by decide +kernel
theorem dX0_hostFor_78 : decode cX0_hostFor 78 = .ok (.astore 4, 2) := by decide +kernel
theorem dX0_hostFor_80 : decode cX0_hostFor 80 = .ok (.aload 5, 2) := by decide +kernel
theorem dX0_hostFor_82 : decode cX0_hostFor 82 = .ok (.getfield 41, 3) := by decide +kernel
theorem dX0_hostFor_85 : decode cX0_hostFor 85 = .ok (.astore 5, 2) := by decide +kernel
theorem dX0_hostFor_87 : decode cX0_hostFor 87 = .ok (.goto (-78), 3) := by decide +kernel
theorem dX0_hostFor_90 : decode cX0_hostFor 90 = .ok (.aload 4, 2) := by decide +kernel
theorem dX0_hostFor_92 : decode cX0_hostFor 92 = .ok (.areturn, 1) := by decide +kernel
set_option maxRecDepth 20000 in
theorem ggX0_ranked_X5_isOfSort : GoodIn wsX0_ranked wsX5_isOfSort := goodIn_r _ [5, 6, 7, 32, 33, 34, 35, 36, 37, 38, 39] (by decide +kernel) (by decide +kernel)
set_option maxRecDepth 20000 in
theorem gX0_ranked_X5_isOfSort_n145 : GoodIn wsX0_ranked (wsX5_isOfSort) := ggX0_ranked_X5_isOfSort
set_option maxRecDepth 20000 in
theorem ggX0_ranked_X0_slipsAheadOf : GoodIn wsX0_ranked wsX0_slipsAheadOf := goodIn_r _ [12, 1, 2, 3, 4, 5, 6, 7, 13, 14, 15, 16, 17, 18, 19, 20, 21, 22, 23, 24, 25, 26, 27, 28, 29, 30, 31, 32, 33, 34, 35, 36, 37, 38, 39] (by decide +kernel) (by decide +kernel)
set_option maxRecDepth 20000 in
theorem gX0_ranked_X0_slipsAheadOf : GoodIn wsX0_ranked (wsV RX0 153 RX0 yX0_slipsAheadOf wsX0_slipsAheadOf) := goodIn_app (goodIn_of _ (by decide +kernel)) ggX0_ranked_X0_slipsAheadOf
theorem dX0_ranked_0 : decode cX0_ranked 0 = .ok (.aload_n 0, 1) := by decide +kernel
theorem dX0_ranked_1 : decode cX0_ranked 1 = .ok (.getfield 34, 3) := by decide +kernel
theorem dX0_ranked_4 : decode cX0_ranked 4 = .ok (.astore_n 3, 1) := by decide +kernel
theorem dX0_ranked_5 : decode cX0_ranked 5 = .ok (.aload_n 3, 1) := by decide +kernel
theorem dX0_ranked_6 : decode cX0_ranked 6 = .ok (.ifnull 30, 3) := by decide +kernel
theorem dX0_ranked_9 : decode cX0_ranked 9 = .ok (.aload_n 3, 1) := by decide +kernel
theorem dX0_ranked_10 : decode cX0_ranked 10 = .ok (.iload_n 1, 1) := by decide +kernel
theorem dX0_ranked_11 : decode cX0_ranked 11 = .ok (.invokevirtual 145, 3) := by decide +kernel
theorem dX0_ranked_14 : decode cX0_ranked 14 = .ok (.ifCond .eq 14, 3) := by decide +kernel
theorem dX0_ranked_17 : decode cX0_ranked 17 = .ok (.aload_n 0, 1) := by decide +kernel
theorem dX0_ranked_18 : decode cX0_ranked 18 = .ok (.aload_n 3, 1) := by decide +kernel
theorem dX0_ranked_19 : decode cX0_ranked 19 = .ok (.invokevirtual 153, 3) := by decide +kernel
theorem dX0_ranked_22 : decode cX0_ranked 22 = .ok (.iload_n 2, 1) := by decide +kernel
theorem dX0_ranked_23 : decode cX0_ranked 23 = .ok (.if_icmp .ne 5, 3) := by decide +kernel
theorem dX0_ranked_26 : decode cX0_ranked 26 = .ok (.aload_n 3, 1) := by decide +kernel
theorem dX0_ranked_27 : decode cX0_ranked 27 = .ok (.areturn, 1) := by decide +kernel
theorem dX0_ranked_28 : decode cX0_ranked 28 = .ok (.aload_n 3, 1) := by decide +kernel
theorem dX0_ranked_29 : decode cX0_ranked 29 = .ok (.getfield 41, 3) := by decide +kernel
theorem dX0_ranked_32 : decode cX0_ranked 32 = .ok (.astore_n 3, 1) := by decide +kernel
theorem dX0_ranked_33 : decode cX0_ranked 33 = .ok (.goto (-28), 3) := by decide +kernel
theorem dX0_ranked_36 : decode cX0_ranked 36 = .ok (.aconst_null, 1) := by decide +kernel
theorem dX0_ranked_37 : decode cX0_ranked 37 = .ok (.areturn, 1) := by decide +kernel
set_option maxRecDepth 20000 in
theorem ggX0_slipsAheadOf_X5_isOfSort : GoodIn wsX0_slipsAheadOf wsX5_isOfSort := goodIn_r _ [5, 6, 7, 27, 28, 29, 30, 31, 32, 33, 34] (by decide +kernel) (by decide +kernel)
set_option maxRecDepth 20000 in
theorem gX0_slipsAheadOf_X5_isOfSort_n145 : GoodIn wsX0_slipsAheadOf (wsX5_isOfSort) := ggX0_slipsAheadOf_X5_isOfSort
set_option maxRecDepth 20000 in
theorem ggX0_slipsAheadOf_X5_isAheadOf : GoodIn wsX0_slipsAheadOf wsX5_isAheadOf := goodIn_r _ [10, 11, 12, 27, 28, 29, 30, 31, 32, 33, 34] (by decide +kernel) (by decide +kernel)
set_option maxRecDepth 20000 in
theorem gX0_slipsAheadOf_X5_isAheadOf_n156 : GoodIn wsX0_slipsAheadOf (wsX5_isAheadOf) := ggX0_slipsAheadOf_X5_isAheadOf
theorem dX0_slipsAheadOf_0 : decode cX0_slipsAheadOf 0 = .ok (.iconst 0, 1) := by decide +kernel
theorem dX0_slipsAheadOf_1 : decode cX0_slipsAheadOf 1 = .ok (.istore_n 2, 1) := by decide +kernel
theorem dX0_slipsAheadOf_2 : decode cX0_slipsAheadOf 2 = .ok (.aload_n 0, 1) := by decide +kernel
theorem dX0_slipsAheadOf_3 : decode cX0_slipsAheadOf 3 = .ok (.getfield 34, 3) := by decide +kernel
theorem dX0_slipsAheadOf_6 : decode cX0_slipsAheadOf 6 = .ok (.astore_n 3, 1) := by decide +kernel
theorem dX0_slipsAheadOf_7 : decode cX0_slipsAheadOf 7 = .ok (.aload_n 3, 1) := by decide +kernel
theorem dX0_slipsAheadOf_8 : decode cX0_slipsAheadOf 8 = .ok (.ifnull 33, 3) := by decide +kernel
theorem dX0_slipsAheadOf_11 : decode cX0_slipsAheadOf 11 = .ok (.aload_n 3, 1) := by decide +kernel
theorem dX0_slipsAheadOf_12 : decode cX0_slipsAheadOf 12 = .ok (.aload_n 1, 1) := by decide +kernel
theorem dX0_slipsAheadOf_13 : decode cX0_slipsAheadOf 13 = .ok (.getfield 120, 3) := by decide +kernel
theorem dX0_slipsAheadOf_16 : decode cX0_slipsAheadOf 16 = .ok (.invokevirtual 145, 3) := by decide +kernel
theorem dX0_slipsAheadOf_19 : decode cX0_slipsAheadOf 19 = .ok (.ifCond .eq 14, 3) := by decide +kernel
theorem dX0_slipsAheadOf_22 : decode cX0_slipsAheadOf 22 = .ok (.aload_n 3, 1) := by decide +kernel
theorem dX0_slipsAheadOf_23 : decode cX0_slipsAheadOf 23 = .ok (.aload_n 1, 1) := by decide +kernel
theorem dX0_slipsAheadOf_24 : decode cX0_slipsAheadOf 24 = .ok (.invokevirtual 156, 3) := by decide +kernel
theorem dX0_slipsAheadOf_27 : decode cX0_slipsAheadOf 27 = .ok (.ifCond .eq 6, 3) := by decide +kernel
theorem dX0_slipsAheadOf_30 : decode cX0_slipsAheadOf 30 = .ok (.iinc 2 1, 3) := by decide +kernel
theorem dX0_slipsAheadOf_33 : decode cX0_slipsAheadOf 33 = .ok (.aload_n 3, 1) := by decide +kernel
theorem dX0_slipsAheadOf_34 : decode cX0_slipsAheadOf 34 = .ok (.getfield 41, 3) := by decide +kernel
theorem dX0_slipsAheadOf_37 : decode cX0_slipsAheadOf 37 = .ok (.astore_n 3, 1) := by decide +kernel
theorem dX0_slipsAheadOf_38 : decode cX0_slipsAheadOf 38 = .ok (.goto (-31), 3) := by decide +kernel
theorem dX0_slipsAheadOf_41 : decode cX0_slipsAheadOf 41 = .ok (.iload_n 2, 1) := by decide +kernel
theorem dX0_slipsAheadOf_42 : decode cX0_slipsAheadOf 42 = .ok (.ireturn, 1) := by decide +kernel
theorem dX0_age_0 : decode cX0_age 0 = .ok (.aload_n 0, 1) := by decide +kernel
theorem dX0_age_1 : decode cX0_age 1 = .ok (.getfield 57, 3) := by decide +kernel
theorem dX0_age_4 : decode cX0_age 4 = .ok (.aload_n 1, 1) := by decide +kernel
theorem dX0_age_5 : decode cX0_age 5 = .ok (.getfield 126, 3) := by decide +kernel
theorem dX0_age_8 : decode cX0_age 8 = .ok (.isub, 1) := by decide +kernel
theorem dX0_age_9 : decode cX0_age 9 = .ok (.ireturn, 1) := by decide +kernel
set_option maxRecDepth 20000 in
theorem ggX0_isTooOld_X0_age : GoodIn wsX0_isTooOld wsX0_age := goodIn_r _ [6, 7, 11, 12, 13, 14, 15, 16, 17, 18, 19, 20, 21, 22, 23, 24, 25, 26, 27, 28, 29, 30, 31, 32] (by decide +kernel) (by decide +kernel)
set_option maxRecDepth 20000 in
theorem gX0_isTooOld_X0_age : GoodIn wsX0_isTooOld (wsV RX0 140 RX0 yX0_age wsX0_age) := goodIn_app (goodIn_of _ (by decide +kernel)) ggX0_isTooOld_X0_age
set_option maxRecDepth 20000 in
theorem ggX0_isTooOld_X7_valueAt : GoodIn wsX0_isTooOld wsX7_valueAt := goodIn_r _ [10] (by decide +kernel) (by decide +kernel)
set_option maxRecDepth 20000 in
theorem gX0_isTooOld_X7_valueAt_n88 : GoodIn wsX0_isTooOld (wsX7_valueAt) := ggX0_isTooOld_X7_valueAt
theorem dX0_isTooOld_0 : decode cX0_isTooOld 0 = .ok (.aload_n 0, 1) := by decide +kernel
theorem dX0_isTooOld_1 : decode cX0_isTooOld 1 = .ok (.aload_n 1, 1) := by decide +kernel
theorem dX0_isTooOld_2 : decode cX0_isTooOld 2 = .ok (.invokevirtual 140, 3) := by decide +kernel
theorem dX0_isTooOld_5 : decode cX0_isTooOld 5 = .ok (.aload_n 0, 1) := by decide +kernel
theorem dX0_isTooOld_6 : decode cX0_isTooOld 6 = .ok (.getfield 13, 3) := by decide +kernel
theorem dX0_isTooOld_9 : decode cX0_isTooOld 9 = .ok (.aload_n 1, 1) := by decide +kernel
theorem dX0_isTooOld_10 : decode cX0_isTooOld 10 = .ok (.getfield 120, 3) := by decide +kernel
theorem dX0_isTooOld_13 : decode cX0_isTooOld 13 = .ok (.iconst 1, 1) := by decide +kernel
theorem dX0_isTooOld_14 : decode cX0_isTooOld 14 = .ok (.if_icmp .ne 7, 3) := by decide +kernel
theorem dX0_isTooOld_17 : decode cX0_isTooOld 17 = .ok (.iconst 1, 1) := by decide +kernel
theorem dX0_isTooOld_18 : decode cX0_isTooOld 18 = .ok (.goto 4, 3) := by decide +kernel
theorem dX0_isTooOld_21 : decode cX0_isTooOld 21 = .ok (.iconst 0, 1) := by decide +kernel
theorem dX0_isTooOld_22 : decode cX0_isTooOld 22 = .ok (.invokestatic 88, 3) := by decide +kernel
theorem dX0_isTooOld_25 : decode cX0_isTooOld 25 = .ok (.if_icmp .lt 7, 3) := by decide +kernel
theorem dX0_isTooOld_28 : decode cX0_isTooOld 28 = .ok (.iconst 1, 1) := by decide +kernel
theorem dX0_isTooOld_29 : decode cX0_isTooOld 29 = .ok (.goto 4, 3) := by decide +kernel
theorem dX0_isTooOld_32 : decode cX0_isTooOld 32 = .ok (.iconst 0, 1) := by decide +kernel
theorem dX0_isTooOld_33 : decode cX0_isTooOld 33 = .ok (.ireturn, 1) := by decide +kernel
set_option maxRecDepth 20000 in
theorem ggX0_amount_X7_isIndexOf : GoodIn wsX0_amount wsX7_isIndexOf := goodIn_r _ [14] (by decide +kernel) (by decide +kernel)
set_option maxRecDepth 20000 in
theorem gX0_amount_X7_isIndexOf_n81 : GoodIn wsX0_amount (wsX7_isIndexOf) := ggX0_amount_X7_isIndexOf
set_option maxRecDepth 20000 in
theorem ggX0_amount_X7_valueAt : GoodIn wsX0_amount wsX7_valueAt := goodIn_r _ [16] (by decide +kernel) (by decide +kernel)
set_option maxRecDepth 20000 in
theorem gX0_amount_X7_valueAt_n88 : GoodIn wsX0_amount (wsX7_valueAt) := ggX0_amount_X7_valueAt
theorem dX0_amount_0 : decode cX0_amount 0 = .ok (.iload_n 1, 1) := by decide +kernel
theorem dX0_amount_1 : decode cX0_amount 1 = .ok (.tableswitch 108 0 9 #[55, 60, 65, 70, 75, 83, 88, 93, 98, 103], 55) := by decide +kernel
theorem dX0_amount_56 : decode cX0_amount 56 = .ok (.aload_n 0, 1) := by decide +kernel
theorem dX0_amount_57 : decode cX0_amount 57 = .ok (.getfield 57, 3) := by decide +kernel
theorem dX0_amount_60 : decode cX0_amount 60 = .ok (.ireturn, 1) := by decide +kernel
theorem dX0_amount_61 : decode cX0_amount 61 = .ok (.aload_n 0, 1) := by decide +kernel
theorem dX0_amount_62 : decode cX0_amount 62 = .ok (.getfield 47, 3) := by decide +kernel
theorem dX0_amount_65 : decode cX0_amount 65 = .ok (.ireturn, 1) := by decide +kernel
theorem dX0_amount_66 : decode cX0_amount 66 = .ok (.aload_n 0, 1) := by decide +kernel
theorem dX0_amount_67 : decode cX0_amount 67 = .ok (.getfield 51, 3) := by decide +kernel
theorem dX0_amount_70 : decode cX0_amount 70 = .ok (.ireturn, 1) := by decide +kernel
theorem dX0_amount_71 : decode cX0_amount 71 = .ok (.aload_n 0, 1) := by decide +kernel
theorem dX0_amount_72 : decode cX0_amount 72 = .ok (.getfield 60, 3) := by decide +kernel
theorem dX0_amount_75 : decode cX0_amount 75 = .ok (.ireturn, 1) := by decide +kernel
theorem dX0_amount_76 : decode cX0_amount 76 = .ok (.aload_n 0, 1) := by decide +kernel
theorem dX0_amount_77 : decode cX0_amount 77 = .ok (.getfield 21, 3) := by decide +kernel
theorem dX0_amount_80 : decode cX0_amount 80 = .ok (.getfield 160, 3) := by decide +kernel
theorem dX0_amount_83 : decode cX0_amount 83 = .ok (.ireturn, 1) := by decide +kernel
theorem dX0_amount_84 : decode cX0_amount 84 = .ok (.aload_n 0, 1) := by decide +kernel
theorem dX0_amount_85 : decode cX0_amount 85 = .ok (.getfield 63, 3) := by decide +kernel
theorem dX0_amount_88 : decode cX0_amount 88 = .ok (.ireturn, 1) := by decide +kernel
theorem dX0_amount_89 : decode cX0_amount 89 = .ok (.aload_n 0, 1) := by decide +kernel
theorem dX0_amount_90 : decode cX0_amount 90 = .ok (.getfield 66, 3) := by decide +kernel
theorem dX0_amount_93 : decode cX0_amount 93 = .ok (.ireturn, 1) := by decide +kernel
theorem dX0_amount_94 : decode cX0_amount 94 = .ok (.aload_n 0, 1) := by decide +kernel
theorem dX0_amount_95 : decode cX0_amount 95 = .ok (.getfield 69, 3) := by decide +kernel
theorem dX0_amount_98 : decode cX0_amount 98 = .ok (.ireturn, 1) := by decide +kernel
theorem dX0_amount_99 : decode cX0_amount 99 = .ok (.aload_n 0, 1) := by decide +kernel
theorem dX0_amount_100 : decode cX0_amount 100 = .ok (.getfield 75, 3) := by decide +kernel
theorem dX0_amount_103 : decode cX0_amount 103 = .ok (.ireturn, 1) := by decide +kernel
theorem dX0_amount_104 : decode cX0_amount 104 = .ok (.aload_n 0, 1) := by decide +kernel
theorem dX0_amount_105 : decode cX0_amount 105 = .ok (.getfield 78, 3) := by decide +kernel
theorem dX0_amount_108 : decode cX0_amount 108 = .ok (.ireturn, 1) := by decide +kernel
theorem dX0_amount_109 : decode cX0_amount 109 = .ok (.aload_n 0, 1) := by decide +kernel
theorem dX0_amount_110 : decode cX0_amount 110 = .ok (.getfield 13, 3) := by decide +kernel
theorem dX0_amount_113 : decode cX0_amount 113 = .ok (.iload_n 1, 1) := by decide +kernel
theorem dX0_amount_114 : decode cX0_amount 114 = .ok (.bipush 10, 2) := by decide +kernel
theorem dX0_amount_116 : decode cX0_amount 116 = .ok (.isub, 1) := by decide +kernel
theorem dX0_amount_117 : decode cX0_amount 117 = .ok (.invokestatic 81, 3) := by decide +kernel
theorem dX0_amount_120 : decode cX0_amount 120 = .ok (.ifCond .eq 17, 3) := by decide +kernel
theorem dX0_amount_123 : decode cX0_amount 123 = .ok (.aload_n 0, 1) := by decide +kernel
theorem dX0_amount_124 : decode cX0_amount 124 = .ok (.getfield 13, 3) := by decide +kernel
theorem dX0_amount_127 : decode cX0_amount 127 = .ok (.iload_n 1, 1) := by decide +kernel
theorem dX0_amount_128 : decode cX0_amount 128 = .ok (.bipush 10, 2) := by decide +kernel
theorem dX0_amount_130 : decode cX0_amount 130 = .ok (.isub, 1) := by decide +kernel
theorem dX0_amount_131 : decode cX0_amount 131 = .ok (.invokestatic 88, 3) := by decide +kernel
theorem dX0_amount_134 : decode cX0_amount 134 = .ok (.goto 5, 3) := by decide +kernel
theorem dX0_amount_137 : decode cX0_amount 137 = .ok (.bipush (-2), 2) := by decide +kernel
theorem dX0_amount_139 : decode cX0_amount 139 = .ok (.ireturn, 1) := by decide +kernel
set_option maxRecDepth 20000 in
theorem ggX0_reason_X7_valueAt : GoodIn wsX0_reason wsX7_valueAt := goodIn_r _ [8] (by decide +kernel) (by decide +kernel)
set_option maxRecDepth 20000 in
theorem gX0_reason_X7_valueAt_n88 : GoodIn wsX0_reason (wsX7_valueAt) := ggX0_reason_X7_valueAt
set_option maxRecDepth 20000 in
theorem ggX0_reason_X0_leastFrom : GoodIn wsX0_reason wsX0_leastFrom := goodIn_r _ [13, 14, 15, 16, 17, 18, 19, 20, 21, 22, 23, 24, 25, 46, 47, 48, 49, 50, 51, 52, 53, 54, 55, 56, 57, 58, 59, 60, 61, 62, 63, 64, 65, 66, 67] (by decide +kernel) (by decide +kernel)
set_option maxRecDepth 20000 in
theorem gX0_reason_X0_leastFrom : GoodIn wsX0_reason (wsV RX0 163 RX0 yX0_leastFrom wsX0_leastFrom) := goodIn_app (goodIn_of _ (by decide +kernel)) ggX0_reason_X0_leastFrom
set_option maxRecDepth 20000 in
theorem ggX0_reason_X0_newSort : GoodIn wsX0_reason wsX0_newSort := goodIn_r _ [29, 30, 31, 32, 3, 6, 7, 8, 46, 47, 48, 49, 50, 51, 52, 53, 54, 55, 56, 57, 58, 59] (by decide +kernel) (by decide +kernel)
set_option maxRecDepth 20000 in
theorem gX0_reason_X0_newSort : GoodIn wsX0_reason (wsV RX0 167 RX0 yX0_newSort wsX0_newSort) := goodIn_app (goodIn_of _ (by decide +kernel)) ggX0_reason_X0_newSort
set_option maxRecDepth 20000 in
theorem ggX0_reason_X0_oldest : GoodIn wsX0_reason wsX0_oldest := goodIn_r _ [36, 14, 15, 16, 17, 18, 19, 20, 46, 47, 48, 49, 50, 51, 52, 53, 54, 55, 56, 57, 58, 59, 60, 61, 62, 63, 64, 65, 66, 67] (by decide +kernel) (by decide +kernel)
set_option maxRecDepth 20000 in
theorem gX0_reason_X0_oldest : GoodIn wsX0_reason (wsV RX0 170 RX0 yX0_oldest wsX0_oldest) := goodIn_app (goodIn_of _ (by decide +kernel)) ggX0_reason_X0_oldest
set_option maxRecDepth 20000 in
theorem ggX0_reason_X0_isTooOld : GoodIn wsX0_reason wsX0_isTooOld := goodIn_r _ [40, 3, 41, 42, 43, 12, 44, 45, 6, 7, 8, 46, 47, 48, 49, 50, 51, 52, 53, 54, 55, 56, 57, 58, 59, 60, 61, 62, 63, 64, 65, 66, 67] (by decide +kernel) (by decide +kernel)
set_option maxRecDepth 20000 in
theorem gX0_reason_X0_isTooOld : GoodIn wsX0_reason (wsV RX0 173 RX0 yX0_isTooOld wsX0_isTooOld) := goodIn_app (goodIn_of _ (by decide +kernel)) ggX0_reason_X0_isTooOld
theorem dX0_reason_0 : decode cX0_reason 0 = .ok (.aload_n 0, 1) := by decide +kernel
theorem dX0_reason_1 : decode cX0_reason 1 = .ok (.getfield 69, 3) := by decide +kernel
theorem dX0_reason_4 : decode cX0_reason 4 = .ok (.ifCond .le 22, 3) := by decide +kernel
theorem dX0_reason_7 : decode cX0_reason 7 = .ok (.aload_n 0, 1) := by decide +kernel
theorem dX0_reason_8 : decode cX0_reason 8 = .ok (.getfield 75, 3) := by decide +kernel
theorem dX0_reason_11 : decode cX0_reason 11 = .ok (.aload_n 0, 1) := by decide +kernel
theorem dX0_reason_12 : decode cX0_reason 12 = .ok (.getfield 13, 3) := by decide +kernel
theorem dX0_reason_15 : decode cX0_reason 15 = .ok (.iconst 2, 1) := by decide +kernel
theorem dX0_reason_16 : decode cX0_reason 16 = .ok (.invokestatic 88, 3) := by decide +kernel
theorem dX0_reason_19 : decode cX0_reason 19 = .ok (.if_icmp .ge 7, 3) := by decide +kernel
theorem dX0_reason_22 : decode cX0_reason 22 = .ok (.iconst 1, 1) := by decide +kernel
theorem dX0_reason_23 : decode cX0_reason 23 = .ok (.goto 4, 3) := by decide +kernel
theorem dX0_reason_26 : decode cX0_reason 26 = .ok (.iconst 0, 1) := by decide +kernel
theorem dX0_reason_27 : decode cX0_reason 27 = .ok (.istore_n 1, 1) := by decide +kernel
theorem dX0_reason_28 : decode cX0_reason 28 = .ok (.iload_n 1, 1) := by decide +kernel
theorem dX0_reason_29 : decode cX0_reason 29 = .ok (.ifCond .eq 20, 3) := by decide +kernel
theorem dX0_reason_32 : decode cX0_reason 32 = .ok (.aload_n 0, 1) := by decide +kernel
theorem dX0_reason_33 : decode cX0_reason 33 = .ok (.aload_n 0, 1) := by decide +kernel
theorem dX0_reason_34 : decode cX0_reason 34 = .ok (.getfield 72, 3) := by decide +kernel
theorem dX0_reason_37 : decode cX0_reason 37 = .ok (.aload_n 0, 1) := by decide +kernel
theorem dX0_reason_38 : decode cX0_reason 38 = .ok (.getfield 60, 3) := by decide +kernel
theorem dX0_reason_41 : decode cX0_reason 41 = .ok (.invokevirtual 163, 3) := by decide +kernel
theorem dX0_reason_44 : decode cX0_reason 44 = .ok (.ifnull 5, 3) := by decide +kernel
theorem dX0_reason_47 : decode cX0_reason 47 = .ok (.iconst 0, 1) := by decide +kernel
theorem dX0_reason_48 : decode cX0_reason 48 = .ok (.ireturn, 1) := by decide +kernel
theorem dX0_reason_49 : decode cX0_reason 49 = .ok (.aload_n 0, 1) := by decide +kernel
theorem dX0_reason_50 : decode cX0_reason 50 = .ok (.invokevirtual 167, 3) := by decide +kernel
theorem dX0_reason_53 : decode cX0_reason 53 = .ok (.istore_n 2, 1) := by decide +kernel
theorem dX0_reason_54 : decode cX0_reason 54 = .ok (.aload_n 0, 1) := by decide +kernel
theorem dX0_reason_55 : decode cX0_reason 55 = .ok (.iload_n 2, 1) := by decide +kernel
theorem dX0_reason_56 : decode cX0_reason 56 = .ok (.invokevirtual 170, 3) := by decide +kernel
theorem dX0_reason_59 : decode cX0_reason 59 = .ok (.astore_n 3, 1) := by decide +kernel
theorem dX0_reason_60 : decode cX0_reason 60 = .ok (.aload_n 3, 1) := by decide +kernel
theorem dX0_reason_61 : decode cX0_reason 61 = .ok (.ifnull 13, 3) := by decide +kernel
theorem dX0_reason_64 : decode cX0_reason 64 = .ok (.aload_n 0, 1) := by decide +kernel
theorem dX0_reason_65 : decode cX0_reason 65 = .ok (.aload_n 3, 1) := by decide +kernel
theorem dX0_reason_66 : decode cX0_reason 66 = .ok (.invokevirtual 173, 3) := by decide +kernel
theorem dX0_reason_69 : decode cX0_reason 69 = .ok (.ifCond .eq 5, 3) := by decide +kernel
theorem dX0_reason_72 : decode cX0_reason 72 = .ok (.iconst 1, 1) := by decide +kernel
theorem dX0_reason_73 : decode cX0_reason 73 = .ok (.ireturn, 1) := by decide +kernel
theorem dX0_reason_74 : decode cX0_reason 74 = .ok (.aload_n 0, 1) := by decide +kernel
theorem dX0_reason_75 : decode cX0_reason 75 = .ok (.iload_n 2, 1) := by decide +kernel
theorem dX0_reason_76 : decode cX0_reason 76 = .ok (.aload_n 0, 1) := by decide +kernel
theorem dX0_reason_77 : decode cX0_reason 77 = .ok (.getfield 60, 3) := by decide +kernel
theorem dX0_reason_80 : decode cX0_reason 80 = .ok (.invokevirtual 163, 3) := by decide +kernel
theorem dX0_reason_83 : decode cX0_reason 83 = .ok (.ifnull 7, 3) := by decide +kernel
theorem dX0_reason_86 : decode cX0_reason 86 = .ok (.iconst 2, 1) := by decide +kernel
theorem dX0_reason_87 : decode cX0_reason 87 = .ok (.goto 4, 3) := by decide +kernel
theorem dX0_reason_90 : decode cX0_reason 90 = .ok (.iconst 3, 1) := by decide +kernel
theorem dX0_reason_91 : decode cX0_reason 91 = .ok (.ireturn, 1) := by decide +kernel
set_option maxRecDepth 20000 in
theorem ggX0_chosen_X0_leastFrom : GoodIn wsX0_chosen wsX0_leastFrom := goodIn_r _ [7, 8, 9, 10, 11, 12, 13, 14, 15, 16, 17, 18, 19, 35, 36, 37, 38, 39, 40, 41, 42, 43, 44, 45, 46, 47, 48, 49, 50, 51, 52, 53, 54, 55, 56] (by decide +kernel) (by decide +kernel)
set_option maxRecDepth 20000 in
theorem gX0_chosen_X0_leastFrom : GoodIn wsX0_chosen (wsV RX0 163 RX0 yX0_leastFrom wsX0_leastFrom) := goodIn_app (goodIn_of _ (by decide +kernel)) ggX0_chosen_X0_leastFrom
set_option maxRecDepth 20000 in
theorem ggX0_chosen_X0_newSort : GoodIn wsX0_chosen wsX0_newSort := goodIn_r _ [23, 24, 25, 26, 27, 28, 29, 30, 35, 36, 37, 38, 39, 40, 41, 42, 43, 44, 45, 46, 47, 48] (by decide +kernel) (by decide +kernel)
set_option maxRecDepth 20000 in
theorem gX0_chosen_X0_newSort : GoodIn wsX0_chosen (wsV RX0 167 RX0 yX0_newSort wsX0_newSort) := goodIn_app (goodIn_of _ (by decide +kernel)) ggX0_chosen_X0_newSort
set_option maxRecDepth 20000 in
theorem ggX0_chosen_X0_oldest : GoodIn wsX0_chosen wsX0_oldest := goodIn_r _ [34, 8, 9, 10, 11, 12, 13, 14, 35, 36, 37, 38, 39, 40, 41, 42, 43, 44, 45, 46, 47, 48, 49, 50, 51, 52, 53, 54, 55, 56] (by decide +kernel) (by decide +kernel)
set_option maxRecDepth 20000 in
theorem gX0_chosen_X0_oldest : GoodIn wsX0_chosen (wsV RX0 170 RX0 yX0_oldest wsX0_oldest) := goodIn_app (goodIn_of _ (by decide +kernel)) ggX0_chosen_X0_oldest
theorem dX0_chosen_0 : decode cX0_chosen 0 = .ok (.iload_n 1, 1) := by decide +kernel
theorem dX0_chosen_1 : decode cX0_chosen 1 = .ok (.tableswitch 62 0 2 #[27, 40, 49], 27) := by decide +kernel
theorem dX0_chosen_28 : decode cX0_chosen 28 = .ok (.aload_n 0, 1) := by decide +kernel
theorem dX0_chosen_29 : decode cX0_chosen 29 = .ok (.aload_n 0, 1) := by decide +kernel
theorem dX0_chosen_30 : decode cX0_chosen 30 = .ok (.getfield 72, 3) := by decide +kernel
theorem dX0_chosen_33 : decode cX0_chosen 33 = .ok (.aload_n 0, 1) := by decide +kernel
theorem dX0_chosen_34 : decode cX0_chosen 34 = .ok (.getfield 60, 3) := by decide +kernel
theorem dX0_chosen_37 : decode cX0_chosen 37 = .ok (.invokevirtual 163, 3) := by decide +kernel
theorem dX0_chosen_40 : decode cX0_chosen 40 = .ok (.areturn, 1) := by decide +kernel
theorem dX0_chosen_41 : decode cX0_chosen 41 = .ok (.aload_n 0, 1) := by decide +kernel
theorem dX0_chosen_42 : decode cX0_chosen 42 = .ok (.aload_n 0, 1) := by decide +kernel
theorem dX0_chosen_43 : decode cX0_chosen 43 = .ok (.invokevirtual 167, 3) := by decide +kernel
theorem dX0_chosen_46 : decode cX0_chosen 46 = .ok (.invokevirtual 170, 3) := by decide +kernel
theorem dX0_chosen_49 : decode cX0_chosen 49 = .ok (.areturn, 1) := by decide +kernel
theorem dX0_chosen_50 : decode cX0_chosen 50 = .ok (.aload_n 0, 1) := by decide +kernel
theorem dX0_chosen_51 : decode cX0_chosen 51 = .ok (.aload_n 0, 1) := by decide +kernel
theorem dX0_chosen_52 : decode cX0_chosen 52 = .ok (.invokevirtual 167, 3) := by decide +kernel
theorem dX0_chosen_55 : decode cX0_chosen 55 = .ok (.aload_n 0, 1) := by decide +kernel
theorem dX0_chosen_56 : decode cX0_chosen 56 = .ok (.getfield 60, 3) := by decide +kernel
theorem dX0_chosen_59 : decode cX0_chosen 59 = .ok (.invokevirtual 163, 3) := by decide +kernel
theorem dX0_chosen_62 : decode cX0_chosen 62 = .ok (.areturn, 1) := by decide +kernel
theorem dX0_chosen_63 : decode cX0_chosen 63 = .ok (.aload_n 0, 1) := by decide +kernel
theorem dX0_chosen_64 : decode cX0_chosen 64 = .ok (.aload_n 0, 1) := by decide +kernel
theorem dX0_chosen_65 : decode cX0_chosen 65 = .ok (.invokevirtual 167, 3) := by decide +kernel
theorem dX0_chosen_68 : decode cX0_chosen 68 = .ok (.iconst 0, 1) := by decide +kernel
theorem dX0_chosen_69 : decode cX0_chosen 69 = .ok (.invokevirtual 163, 3) := by decide +kernel
theorem dX0_chosen_72 : decode cX0_chosen 72 = .ok (.areturn, 1) := by decide +kernel
set_option maxRecDepth 20000 in
theorem ggX0_newSort_X7_valueAt : GoodIn wsX0_newSort wsX7_valueAt := goodIn_r _ [7] (by decide +kernel) (by decide +kernel)
set_option maxRecDepth 20000 in
theorem gX0_newSort_X7_valueAt_n88 : GoodIn wsX0_newSort (wsX7_valueAt) := ggX0_newSort_X7_valueAt
theorem dX0_newSort_0 : decode cX0_newSort 0 = .ok (.aload_n 0, 1) := by decide +kernel
theorem dX0_newSort_1 : decode cX0_newSort 1 = .ok (.getfield 51, 3) := by decide +kernel
theorem dX0_newSort_4 : decode cX0_newSort 4 = .ok (.ifCond .ne 5, 3) := by decide +kernel
theorem dX0_newSort_7 : decode cX0_newSort 7 = .ok (.iconst 0, 1) := by decide +kernel
theorem dX0_newSort_8 : decode cX0_newSort 8 = .ok (.ireturn, 1) := by decide +kernel
theorem dX0_newSort_9 : decode cX0_newSort 9 = .ok (.aload_n 0, 1) := by decide +kernel
theorem dX0_newSort_10 : decode cX0_newSort 10 = .ok (.getfield 47, 3) := by decide +kernel
theorem dX0_newSort_13 : decode cX0_newSort 13 = .ok (.ifCond .ne 5, 3) := by decide +kernel
theorem dX0_newSort_16 : decode cX0_newSort 16 = .ok (.iconst 1, 1) := by decide +kernel
theorem dX0_newSort_17 : decode cX0_newSort 17 = .ok (.ireturn, 1) := by decide +kernel
theorem dX0_newSort_18 : decode cX0_newSort 18 = .ok (.aload_n 0, 1) := by decide +kernel
theorem dX0_newSort_19 : decode cX0_newSort 19 = .ok (.getfield 78, 3) := by decide +kernel
theorem dX0_newSort_22 : decode cX0_newSort 22 = .ok (.aload_n 0, 1) := by decide +kernel
theorem dX0_newSort_23 : decode cX0_newSort 23 = .ok (.getfield 13, 3) := by decide +kernel
theorem dX0_newSort_26 : decode cX0_newSort 26 = .ok (.iconst 3, 1) := by decide +kernel
theorem dX0_newSort_27 : decode cX0_newSort 27 = .ok (.invokestatic 88, 3) := by decide +kernel
theorem dX0_newSort_30 : decode cX0_newSort 30 = .ok (.if_icmp .lt 7, 3) := by decide +kernel
theorem dX0_newSort_33 : decode cX0_newSort 33 = .ok (.iconst 1, 1) := by decide +kernel
theorem dX0_newSort_34 : decode cX0_newSort 34 = .ok (.goto 4, 3) := by decide +kernel
theorem dX0_newSort_37 : decode cX0_newSort 37 = .ok (.iconst 0, 1) := by decide +kernel
theorem dX0_newSort_38 : decode cX0_newSort 38 = .ok (.ireturn, 1) := by decide +kernel
set_option maxRecDepth 20000 in
theorem ggX0_oldest_X5_isOfSort : GoodIn wsX0_oldest wsX5_isOfSort := goodIn_r _ [5, 6, 7, 22, 23, 24, 25, 26, 27, 28, 29] (by decide +kernel) (by decide +kernel)
set_option maxRecDepth 20000 in
theorem gX0_oldest_X5_isOfSort_n145 : GoodIn wsX0_oldest (wsX5_isOfSort) := ggX0_oldest_X5_isOfSort
theorem dX0_oldest_0 : decode cX0_oldest 0 = .ok (.aconst_null, 1) := by decide +kernel
theorem dX0_oldest_1 : decode cX0_oldest 1 = .ok (.astore_n 2, 1) := by decide +kernel
theorem dX0_oldest_2 : decode cX0_oldest 2 = .ok (.aload_n 0, 1) := by decide +kernel
theorem dX0_oldest_3 : decode cX0_oldest 3 = .ok (.getfield 34, 3) := by decide +kernel
theorem dX0_oldest_6 : decode cX0_oldest 6 = .ok (.astore_n 3, 1) := by decide +kernel
theorem dX0_oldest_7 : decode cX0_oldest 7 = .ok (.aload_n 3, 1) := by decide +kernel
theorem dX0_oldest_8 : decode cX0_oldest 8 = .ok (.ifnull 36, 3) := by decide +kernel
theorem dX0_oldest_11 : decode cX0_oldest 11 = .ok (.aload_n 3, 1) := by decide +kernel
theorem dX0_oldest_12 : decode cX0_oldest 12 = .ok (.iload_n 1, 1) := by decide +kernel
theorem dX0_oldest_13 : decode cX0_oldest 13 = .ok (.invokevirtual 145, 3) := by decide +kernel
theorem dX0_oldest_16 : decode cX0_oldest 16 = .ok (.ifCond .eq 20, 3) := by decide +kernel
theorem dX0_oldest_19 : decode cX0_oldest 19 = .ok (.aload_n 2, 1) := by decide +kernel
theorem dX0_oldest_20 : decode cX0_oldest 20 = .ok (.ifnull 14, 3) := by decide +kernel
theorem dX0_oldest_23 : decode cX0_oldest 23 = .ok (.aload_n 3, 1) := by decide +kernel
theorem dX0_oldest_24 : decode cX0_oldest 24 = .ok (.getfield 109, 3) := by decide +kernel
theorem dX0_oldest_27 : decode cX0_oldest 27 = .ok (.aload_n 2, 1) := by decide +kernel
theorem dX0_oldest_28 : decode cX0_oldest 28 = .ok (.getfield 109, 3) := by decide +kernel
theorem dX0_oldest_31 : decode cX0_oldest 31 = .ok (.if_icmp .ge 5, 3) := by decide +kernel
theorem dX0_oldest_34 : decode cX0_oldest 34 = .ok (.aload_n 3, 1) := by decide +kernel
theorem dX0_oldest_35 : decode cX0_oldest 35 = .ok (.astore_n 2, 1) := by decide +kernel
theorem dX0_oldest_36 : decode cX0_oldest 36 = .ok (.aload_n 3, 1) := by decide +kernel
theorem dX0_oldest_37 : decode cX0_oldest 37 = .ok (.getfield 41, 3) := by decide +kernel
theorem dX0_oldest_40 : decode cX0_oldest 40 = .ok (.astore_n 3, 1) := by decide +kernel
theorem dX0_oldest_41 : decode cX0_oldest 41 = .ok (.goto (-34), 3) := by decide +kernel
theorem dX0_oldest_44 : decode cX0_oldest 44 = .ok (.aload_n 2, 1) := by decide +kernel
theorem dX0_oldest_45 : decode cX0_oldest 45 = .ok (.areturn, 1) := by decide +kernel
set_option maxRecDepth 20000 in
theorem ggX0_leastFrom_X5_isOfSort : GoodIn wsX0_leastFrom wsX5_isOfSort := goodIn_r _ [5, 6, 7, 27, 28, 29, 30, 31, 32, 33, 34] (by decide +kernel) (by decide +kernel)
set_option maxRecDepth 20000 in
theorem gX0_leastFrom_X5_isOfSort_n145 : GoodIn wsX0_leastFrom (wsX5_isOfSort) := ggX0_leastFrom_X5_isOfSort
set_option maxRecDepth 20000 in
theorem ggX0_leastFrom_X5_isAheadOf : GoodIn wsX0_leastFrom wsX5_isAheadOf := goodIn_r _ [10, 11, 12, 27, 28, 29, 30, 31, 32, 33, 34] (by decide +kernel) (by decide +kernel)
set_option maxRecDepth 20000 in
theorem gX0_leastFrom_X5_isAheadOf_n156 : GoodIn wsX0_leastFrom (wsX5_isAheadOf) := ggX0_leastFrom_X5_isAheadOf
theorem dX0_leastFrom_0 : decode cX0_leastFrom 0 = .ok (.aconst_null, 1) := by decide +kernel
theorem dX0_leastFrom_1 : decode cX0_leastFrom 1 = .ok (.astore_n 3, 1) := by decide +kernel
theorem dX0_leastFrom_2 : decode cX0_leastFrom 2 = .ok (.aload_n 0, 1) := by decide +kernel
theorem dX0_leastFrom_3 : decode cX0_leastFrom 3 = .ok (.getfield 34, 3) := by decide +kernel
theorem dX0_leastFrom_6 : decode cX0_leastFrom 6 = .ok (.astore 4, 2) := by decide +kernel
theorem dX0_leastFrom_8 : decode cX0_leastFrom 8 = .ok (.aload 4, 2) := by decide +kernel
theorem dX0_leastFrom_10 : decode cX0_leastFrom 10 = .ok (.ifnull 47, 3) := by decide +kernel
theorem dX0_leastFrom_13 : decode cX0_leastFrom 13 = .ok (.aload 4, 2) := by decide +kernel
theorem dX0_leastFrom_15 : decode cX0_leastFrom 15 = .ok (.iload_n 1, 1) := by decide +kernel
theorem dX0_leastFrom_16 : decode cX0_leastFrom 16 = .ok (.invokevirtual 145, 3) := by decide +kernel
theorem dX0_leastFrom_19 : decode cX0_leastFrom 19 = .ok (.ifCond .eq 28, 3) := by decide +kernel
theorem dX0_leastFrom_22 : decode cX0_leastFrom 22 = .ok (.aload 4, 2) := by decide +kernel
theorem dX0_leastFrom_24 : decode cX0_leastFrom 24 = .ok (.getfield 123, 3) := by decide +kernel
theorem dX0_leastFrom_27 : decode cX0_leastFrom 27 = .ok (.iload_n 2, 1) := by decide +kernel
theorem dX0_leastFrom_28 : decode cX0_leastFrom 28 = .ok (.if_icmp .lt 19, 3) := by decide +kernel
theorem dX0_leastFrom_31 : decode cX0_leastFrom 31 = .ok (.aload_n 3, 1) := by decide +kernel
theorem dX0_leastFrom_32 : decode cX0_leastFrom 32 = .ok (.ifnull 12, 3) := by decide +kernel
theorem dX0_leastFrom_35 : decode cX0_leastFrom 35 = .ok (.aload 4, 2) := by decide +kernel
theorem dX0_leastFrom_37 : decode cX0_leastFrom 37 = .ok (.aload_n 3, 1) := by decide +kernel
theorem dX0_leastFrom_38 : decode cX0_leastFrom 38 = .ok (.invokevirtual 156, 3) := by decide +kernel
theorem dX0_leastFrom_41 : decode cX0_leastFrom 41 = .ok (.ifCond .eq 6, 3) := by decide +kernel
theorem dX0_leastFrom_44 : decode cX0_leastFrom 44 = .ok (.aload 4, 2) := by decide +kernel
theorem dX0_leastFrom_46 : decode cX0_leastFrom 46 = .ok (.astore_n 3, 1) := by decide +kernel
theorem dX0_leastFrom_47 : decode cX0_leastFrom 47 = .ok (.aload 4, 2) := by decide +kernel
theorem dX0_leastFrom_49 : decode cX0_leastFrom 49 = .ok (.getfield 41, 3) := by decide +kernel
theorem dX0_leastFrom_52 : decode cX0_leastFrom 52 = .ok (.astore 4, 2) := by decide +kernel
theorem dX0_leastFrom_54 : decode cX0_leastFrom 54 = .ok (.goto (-46), 3) := by decide +kernel
theorem dX0_leastFrom_57 : decode cX0_leastFrom 57 = .ok (.aload_n 3, 1) := by decide +kernel
theorem dX0_leastFrom_58 : decode cX0_leastFrom 58 = .ok (.areturn, 1) := by decide +kernel
theorem dX0_drawersTo_0 : decode cX0_drawersTo 0 = .ok (.aload_n 1, 1) := by decide +kernel
theorem dX0_drawersTo_1 : decode cX0_drawersTo 1 = .ok (.getfield 123, 3) := by decide +kernel
theorem dX0_drawersTo_4 : decode cX0_drawersTo 4 = .ok (.aload_n 0, 1) := by decide +kernel
theorem dX0_drawersTo_5 : decode cX0_drawersTo 5 = .ok (.getfield 60, 3) := by decide +kernel
theorem dX0_drawersTo_8 : decode cX0_drawersTo 8 = .ok (.isub, 1) := by decide +kernel
theorem dX0_drawersTo_9 : decode cX0_drawersTo 9 = .ok (.invokestatic 176, 3) := by decide +kernel
theorem dX0_drawersTo_12 : decode cX0_drawersTo 12 = .ok (.ireturn, 1) := by decide +kernel
set_option maxRecDepth 20000 in
theorem ggX0_minutesFor_X0_drawersTo : GoodIn wsX0_minutesFor wsX0_drawersTo := goodIn_r _ [6, 7, 8, 9, 10, 11, 29, 30, 31, 32, 33, 34, 35, 36, 15, 16, 17, 18, 19, 20, 21, 22, 23, 24, 25, 26, 27, 28] (by decide +kernel) (by decide +kernel)
set_option maxRecDepth 20000 in
theorem gX0_minutesFor_X0_drawersTo : GoodIn wsX0_minutesFor (wsV RX0 182 RX0 yX0_drawersTo wsX0_drawersTo) := goodIn_app (goodIn_of _ (by decide +kernel)) ggX0_minutesFor_X0_drawersTo
set_option maxRecDepth 20000 in
theorem ggX0_minutesFor_X7_valueAt : GoodIn wsX0_minutesFor wsX7_valueAt := goodIn_r _ [14] (by decide +kernel) (by decide +kernel)
set_option maxRecDepth 20000 in
theorem gX0_minutesFor_X7_valueAt_n88 : GoodIn wsX0_minutesFor (wsX7_valueAt) := ggX0_minutesFor_X7_valueAt
theorem dX0_minutesFor_0 : decode cX0_minutesFor 0 = .ok (.aload_n 0, 1) := by decide +kernel
theorem dX0_minutesFor_1 : decode cX0_minutesFor 1 = .ok (.aload_n 1, 1) := by decide +kernel
theorem dX0_minutesFor_2 : decode cX0_minutesFor 2 = .ok (.invokevirtual 182, 3) := by decide +kernel
theorem dX0_minutesFor_5 : decode cX0_minutesFor 5 = .ok (.aload_n 0, 1) := by decide +kernel
theorem dX0_minutesFor_6 : decode cX0_minutesFor 6 = .ok (.getfield 13, 3) := by decide +kernel
theorem dX0_minutesFor_9 : decode cX0_minutesFor 9 = .ok (.iconst 4, 1) := by decide +kernel
theorem dX0_minutesFor_10 : decode cX0_minutesFor 10 = .ok (.invokestatic 88, 3) := by decide +kernel
theorem dX0_minutesFor_13 : decode cX0_minutesFor 13 = .ok (.imul, 1) := by decide +kernel
theorem dX0_minutesFor_14 : decode cX0_minutesFor 14 = .ok (.aload_n 1, 1) := by decide +kernel
theorem dX0_minutesFor_15 : decode cX0_minutesFor 15 = .ok (.getfield 103, 3) := by decide +kernel
theorem dX0_minutesFor_18 : decode cX0_minutesFor 18 = .ok (.aload_n 0, 1) := by decide +kernel
theorem dX0_minutesFor_19 : decode cX0_minutesFor 19 = .ok (.getfield 13, 3) := by decide +kernel
theorem dX0_minutesFor_22 : decode cX0_minutesFor 22 = .ok (.iconst 5, 1) := by decide +kernel
theorem dX0_minutesFor_23 : decode cX0_minutesFor 23 = .ok (.invokestatic 88, 3) := by decide +kernel
theorem dX0_minutesFor_26 : decode cX0_minutesFor 26 = .ok (.imul, 1) := by decide +kernel
theorem dX0_minutesFor_27 : decode cX0_minutesFor 27 = .ok (.iadd, 1) := by decide +kernel
theorem dX0_minutesFor_28 : decode cX0_minutesFor 28 = .ok (.ireturn, 1) := by decide +kernel
set_option maxRecDepth 20000 in
theorem ggX0_serveNext_X0_reason : GoodIn wsX0_serveNext wsX0_reason := goodIn_r _ [18, 19, 1, 20, 21, 8, 22, 23, 24, 25, 26, 27, 17, 28, 29, 30, 31, 32, 33, 34, 35, 36, 37, 38, 39, 40, 41, 42, 43, 44, 45, 46, 47, 48, 49, 50, 51, 52, 53, 54, 55, 56, 57, 58, 59, 2, 109, 110, 111, 112, 113, 114, 115, 116, 117, 118, 119, 120, 121, 122, 101, 102, 103, 104, 105, 106, 107, 108] (by decide +kernel) (by decide +kernel)
set_option maxRecDepth 20000 in
theorem gX0_serveNext_X0_reason : GoodIn wsX0_serveNext (wsV RX0 185 RX0 yX0_reason wsX0_reason) := goodIn_app (goodIn_of _ (by decide +kernel)) ggX0_serveNext_X0_reason
set_option maxRecDepth 20000 in
theorem ggX0_serveNext_X0_chosen : GoodIn wsX0_serveNext wsX0_chosen := goodIn_r _ [63, 21, 8, 25, 26, 27, 17, 28, 29, 30, 31, 32, 33, 34, 35, 36, 37, 38, 39, 40, 41, 42, 43, 44, 45, 46, 47, 20, 22, 23, 24, 48, 49, 50, 51, 109, 110, 111, 112, 113, 114, 115, 116, 117, 118, 119, 120, 121, 122, 101, 102, 103, 104, 105, 106, 107, 108] (by decide +kernel) (by decide +kernel)
set_option maxRecDepth 20000 in
theorem gX0_serveNext_X0_chosen : GoodIn wsX0_serveNext (wsV RX0 188 RX0 yX0_chosen wsX0_chosen) := goodIn_app (goodIn_of _ (by decide +kernel)) ggX0_serveNext_X0_chosen
set_option maxRecDepth 20000 in
theorem ggX0_serveNext_X0_beginBatch : GoodIn wsX0_serveNext wsX0_beginBatch := goodIn_r _ [67, 19, 21, 1, 47, 45, 109, 110, 111, 112, 113, 114, 115, 116, 117, 118, 119, 120, 121, 122] (by decide +kernel) (by decide +kernel)
set_option maxRecDepth 20000 in
theorem gX0_serveNext_X0_beginBatch : GoodIn wsX0_serveNext (wsV RX0 191 RX0 yX0_beginBatch wsX0_beginBatch) := goodIn_app (goodIn_of _ (by decide +kernel)) ggX0_serveNext_X0_beginBatch
set_option maxRecDepth 20000 in
theorem ggX0_serveNext_X0_minutesFor : GoodIn wsX0_serveNext wsX0_minutesFor := goodIn_r _ [71, 20, 72, 73, 74, 17, 75, 8, 76, 77, 6, 78, 22, 23, 24, 109, 110, 111, 112, 113, 114, 115, 116, 117, 118, 119, 120, 121, 122, 101, 102, 103, 104, 105, 106, 107, 108] (by decide +kernel) (by decide +kernel)
set_option maxRecDepth 20000 in
theorem gX0_serveNext_X0_minutesFor : GoodIn wsX0_serveNext (wsV RX0 195 RX0 yX0_minutesFor wsX0_minutesFor) := goodIn_app (goodIn_of _ (by decide +kernel)) ggX0_serveNext_X0_minutesFor
set_option maxRecDepth 20000 in
theorem ggX0_serveNext_X0_drawersTo : GoodIn wsX0_serveNext wsX0_drawersTo := goodIn_r _ [75, 8, 76, 77, 6, 78, 101, 102, 103, 104, 105, 106, 107, 108, 109, 110, 111, 112, 113, 114, 115, 116, 117, 118, 119, 120, 121, 122] (by decide +kernel) (by decide +kernel)
set_option maxRecDepth 20000 in
theorem gX0_serveNext_X0_drawersTo : GoodIn wsX0_serveNext (wsV RX0 182 RX0 yX0_drawersTo wsX0_drawersTo) := goodIn_app (goodIn_of _ (by decide +kernel)) ggX0_serveNext_X0_drawersTo
set_option maxRecDepth 20000 in
theorem ggX0_serveNext_X5_last : GoodIn wsX0_serveNext wsX5_last := goodIn_r _ [81, 39, 82, 101, 102, 103, 104, 105, 106, 107, 108] (by decide +kernel) (by decide +kernel)
set_option maxRecDepth 20000 in
theorem gX0_serveNext_X5_last_n149 : GoodIn wsX0_serveNext (wsX5_last) := ggX0_serveNext_X5_last
set_option maxRecDepth 20000 in
theorem ggX0_serveNext_X0_remove : GoodIn wsX0_serveNext wsX0_remove := goodIn_r _ [86, 87, 88, 89, 17, 90, 45, 46, 101, 102, 103, 104, 105, 106, 107, 108, 109, 110, 111, 112, 113, 114, 115, 116, 117, 118, 119, 120, 121, 122] (by decide +kernel) (by decide +kernel)
set_option maxRecDepth 20000 in
theorem gX0_serveNext_X0_remove : GoodIn wsX0_serveNext (wsV RX0 137 RX0 yX0_remove wsX0_remove) := goodIn_app (goodIn_of _ (by decide +kernel)) ggX0_serveNext_X0_remove
set_option maxRecDepth 20000 in
theorem ggX0_serveNext_X0_age : GoodIn wsX0_serveNext wsX0_age := goodIn_r _ [59, 2, 109, 110, 111, 112, 113, 114, 115, 116, 117, 118, 119, 120, 121, 122, 101, 102, 103, 104, 105, 106, 107, 108] (by decide +kernel) (by decide +kernel)
set_option maxRecDepth 20000 in
theorem gX0_serveNext_X0_age : GoodIn wsX0_serveNext (wsV RX0 140 RX0 yX0_age wsX0_age) := goodIn_app (goodIn_of _ (by decide +kernel)) ggX0_serveNext_X0_age
set_option maxRecDepth 20000 in
theorem ggX0_serveNext_X2_append : GoodIn wsX0_serveNext wsX2_append := goodIn_r _ [94, 95, 96, 97, 98, 99, 23, 100, 123, 124, 125, 126] (by decide +kernel) (by decide +kernel)
set_option maxRecDepth 20000 in
theorem gX0_serveNext_X2_append_n205 : GoodIn wsX0_serveNext (wsX2_append) := ggX0_serveNext_X2_append
theorem dX0_serveNext_0 : decode cX0_serveNext 0 = .ok (.aload_n 0, 1) := by decide +kernel
theorem dX0_serveNext_1 : decode cX0_serveNext 1 = .ok (.invokevirtual 185, 3) := by decide +kernel
theorem dX0_serveNext_4 : decode cX0_serveNext 4 = .ok (.istore_n 1, 1) := by decide +kernel
theorem dX0_serveNext_5 : decode cX0_serveNext 5 = .ok (.aload_n 0, 1) := by decide +kernel
theorem dX0_serveNext_6 : decode cX0_serveNext 6 = .ok (.iload_n 1, 1) := by decide +kernel
theorem dX0_serveNext_7 : decode cX0_serveNext 7 = .ok (.invokevirtual 188, 3) := by decide +kernel
theorem dX0_serveNext_10 : decode cX0_serveNext 10 = .ok (.astore_n 2, 1) := by decide +kernel
theorem dX0_serveNext_11 : decode cX0_serveNext 11 = .ok (.aload_n 2, 1) := by decide +kernel
theorem dX0_serveNext_12 : decode cX0_serveNext 12 = .ok (.ifnonnull 4, 3) := by decide +kernel
theorem dX0_serveNext_15 : decode cX0_serveNext 15 = .ok (.return_, 1) := by decide +kernel
theorem dX0_serveNext_16 : decode cX0_serveNext 16 = .ok (.iload_n 1, 1) := by decide +kernel
theorem dX0_serveNext_17 : decode cX0_serveNext 17 = .ok (.ifCond .eq 11, 3) := by decide +kernel
theorem dX0_serveNext_20 : decode cX0_serveNext 20 = .ok (.aload_n 0, 1) := by decide +kernel
theorem dX0_serveNext_21 : decode cX0_serveNext 21 = .ok (.aload_n 2, 1) := by decide +kernel
theorem dX0_serveNext_22 : decode cX0_serveNext 22 = .ok (.getfield 120, 3) := by decide +kernel
theorem dX0_serveNext_25 : decode cX0_serveNext 25 = .ok (.invokevirtual 191, 3) := by decide +kernel
theorem dX0_serveNext_28 : decode cX0_serveNext 28 = .ok (.aload_n 0, 1) := by decide +kernel
theorem dX0_serveNext_29 : decode cX0_serveNext 29 = .ok (.dup, 1) := by decide +kernel
theorem dX0_serveNext_30 : decode cX0_serveNext 30 = .ok (.getfield 75, 3) := by decide +kernel
theorem dX0_serveNext_33 : decode cX0_serveNext 33 = .ok (.iconst 1, 1) := by decide +kernel
theorem dX0_serveNext_34 : decode cX0_serveNext 34 = .ok (.iadd, 1) := by decide +kernel
theorem dX0_serveNext_35 : decode cX0_serveNext 35 = .ok (.putfield 75, 3) := by decide +kernel
theorem dX0_serveNext_38 : decode cX0_serveNext 38 = .ok (.aload_n 0, 1) := by decide +kernel
theorem dX0_serveNext_39 : decode cX0_serveNext 39 = .ok (.dup, 1) := by decide +kernel
theorem dX0_serveNext_40 : decode cX0_serveNext 40 = .ok (.getfield 57, 3) := by decide +kernel
theorem dX0_serveNext_43 : decode cX0_serveNext 43 = .ok (.aload_n 0, 1) := by decide +kernel
theorem dX0_serveNext_44 : decode cX0_serveNext 44 = .ok (.aload_n 2, 1) := by decide +kernel
theorem dX0_serveNext_45 : decode cX0_serveNext 45 = .ok (.invokevirtual 195, 3) := by decide +kernel
theorem dX0_serveNext_48 : decode cX0_serveNext 48 = .ok (.iadd, 1) := by decide +kernel
theorem dX0_serveNext_49 : decode cX0_serveNext 49 = .ok (.putfield 57, 3) := by decide +kernel
theorem dX0_serveNext_52 : decode cX0_serveNext 52 = .ok (.aload_n 0, 1) := by decide +kernel
theorem dX0_serveNext_53 : decode cX0_serveNext 53 = .ok (.dup, 1) := by decide +kernel
theorem dX0_serveNext_54 : decode cX0_serveNext 54 = .ok (.getfield 66, 3) := by decide +kernel
theorem dX0_serveNext_57 : decode cX0_serveNext 57 = .ok (.aload_n 0, 1) := by decide +kernel
theorem dX0_serveNext_58 : decode cX0_serveNext 58 = .ok (.aload_n 2, 1) := by decide +kernel
theorem dX0_serveNext_59 : decode cX0_serveNext 59 = .ok (.invokevirtual 182, 3) := by decide +kernel
theorem dX0_serveNext_62 : decode cX0_serveNext 62 = .ok (.iadd, 1) := by decide +kernel
theorem dX0_serveNext_63 : decode cX0_serveNext 63 = .ok (.putfield 66, 3) := by decide +kernel
theorem dX0_serveNext_66 : decode cX0_serveNext 66 = .ok (.aload_n 0, 1) := by decide +kernel
theorem dX0_serveNext_67 : decode cX0_serveNext 67 = .ok (.aload_n 2, 1) := by decide +kernel
theorem dX0_serveNext_68 : decode cX0_serveNext 68 = .ok (.invokevirtual 149, 3) := by decide +kernel
theorem dX0_serveNext_71 : decode cX0_serveNext 71 = .ok (.iconst 1, 1) := by decide +kernel
theorem dX0_serveNext_72 : decode cX0_serveNext 72 = .ok (.iadd, 1) := by decide +kernel
theorem dX0_serveNext_73 : decode cX0_serveNext 73 = .ok (.bipush 99, 2) := by decide +kernel
theorem dX0_serveNext_75 : decode cX0_serveNext 75 = .ok (.invokestatic 198, 3) := by decide +kernel
theorem dX0_serveNext_78 : decode cX0_serveNext 78 = .ok (.putfield 60, 3) := by decide +kernel
theorem dX0_serveNext_81 : decode cX0_serveNext 81 = .ok (.aload_n 0, 1) := by decide +kernel
theorem dX0_serveNext_82 : decode cX0_serveNext 82 = .ok (.aload_n 2, 1) := by decide +kernel
theorem dX0_serveNext_83 : decode cX0_serveNext 83 = .ok (.invokevirtual 137, 3) := by decide +kernel
theorem dX0_serveNext_86 : decode cX0_serveNext 86 = .ok (.aload_n 0, 1) := by decide +kernel
theorem dX0_serveNext_87 : decode cX0_serveNext 87 = .ok (.aload_n 0, 1) := by decide +kernel
theorem dX0_serveNext_88 : decode cX0_serveNext 88 = .ok (.getfield 63, 3) := by decide +kernel
theorem dX0_serveNext_91 : decode cX0_serveNext 91 = .ok (.aload_n 0, 1) := by decide +kernel
theorem dX0_serveNext_92 : decode cX0_serveNext 92 = .ok (.aload_n 2, 1) := by decide +kernel
theorem dX0_serveNext_93 : decode cX0_serveNext 93 = .ok (.invokevirtual 140, 3) := by decide +kernel
theorem dX0_serveNext_96 : decode cX0_serveNext 96 = .ok (.invokestatic 202, 3) := by decide +kernel
theorem dX0_serveNext_99 : decode cX0_serveNext 99 = .ok (.putfield 63, 3) := by decide +kernel
theorem dX0_serveNext_102 : decode cX0_serveNext 102 = .ok (.aload_n 0, 1) := by decide +kernel
theorem dX0_serveNext_103 : decode cX0_serveNext 103 = .ok (.getfield 21, 3) := by decide +kernel
theorem dX0_serveNext_106 : decode cX0_serveNext 106 = .ok (.aload_n 2, 1) := by decide +kernel
theorem dX0_serveNext_107 : decode cX0_serveNext 107 = .ok (.getfield 109, 3) := by decide +kernel
theorem dX0_serveNext_110 : decode cX0_serveNext 110 = .ok (.aload_n 0, 1) := by decide +kernel
theorem dX0_serveNext_111 : decode cX0_serveNext 111 = .ok (.aload_n 2, 1) := by decide +kernel
theorem dX0_serveNext_112 : decode cX0_serveNext 112 = .ok (.invokevirtual 140, 3) := by decide +kernel
theorem dX0_serveNext_115 : decode cX0_serveNext 115 = .ok (.aload_n 2, 1) := by decide +kernel
theorem dX0_serveNext_116 : decode cX0_serveNext 116 = .ok (.getfield 120, 3) := by decide +kernel
theorem dX0_serveNext_119 : decode cX0_serveNext 119 = .ok (.invokevirtual 205, 3) := by decide +kernel
theorem dX0_serveNext_122 : decode cX0_serveNext 122 = .ok (.return_, 1) := by decide +kernel
theorem dX0_beginBatch_0 : decode cX0_beginBatch 0 = .ok (.aload_n 0, 1) := by decide +kernel
theorem dX0_beginBatch_1 : decode cX0_beginBatch 1 = .ok (.dup, 1) := by decide +kernel
theorem dX0_beginBatch_2 : decode cX0_beginBatch 2 = .ok (.getfield 69, 3) := by decide +kernel
theorem dX0_beginBatch_5 : decode cX0_beginBatch 5 = .ok (.iconst 1, 1) := by decide +kernel
theorem dX0_beginBatch_6 : decode cX0_beginBatch 6 = .ok (.iadd, 1) := by decide +kernel
theorem dX0_beginBatch_7 : decode cX0_beginBatch 7 = .ok (.putfield 69, 3) := by decide +kernel
theorem dX0_beginBatch_10 : decode cX0_beginBatch 10 = .ok (.aload_n 0, 1) := by decide +kernel
theorem dX0_beginBatch_11 : decode cX0_beginBatch 11 = .ok (.iload_n 1, 1) := by decide +kernel
theorem dX0_beginBatch_12 : decode cX0_beginBatch 12 = .ok (.putfield 72, 3) := by decide +kernel
theorem dX0_beginBatch_15 : decode cX0_beginBatch 15 = .ok (.aload_n 0, 1) := by decide +kernel
theorem dX0_beginBatch_16 : decode cX0_beginBatch 16 = .ok (.iconst 0, 1) := by decide +kernel
theorem dX0_beginBatch_17 : decode cX0_beginBatch 17 = .ok (.putfield 75, 3) := by decide +kernel
theorem dX0_beginBatch_20 : decode cX0_beginBatch 20 = .ok (.iload_n 1, 1) := by decide +kernel
theorem dX0_beginBatch_21 : decode cX0_beginBatch 21 = .ok (.iconst 1, 1) := by decide +kernel
theorem dX0_beginBatch_22 : decode cX0_beginBatch 22 = .ok (.if_icmp .ne 11, 3) := by decide +kernel
theorem dX0_beginBatch_25 : decode cX0_beginBatch 25 = .ok (.aload_n 0, 1) := by decide +kernel
theorem dX0_beginBatch_26 : decode cX0_beginBatch 26 = .ok (.iconst 0, 1) := by decide +kernel
theorem dX0_beginBatch_27 : decode cX0_beginBatch 27 = .ok (.putfield 78, 3) := by decide +kernel
theorem dX0_beginBatch_30 : decode cX0_beginBatch 30 = .ok (.goto 20, 3) := by decide +kernel
theorem dX0_beginBatch_33 : decode cX0_beginBatch 33 = .ok (.aload_n 0, 1) := by decide +kernel
theorem dX0_beginBatch_34 : decode cX0_beginBatch 34 = .ok (.getfield 51, 3) := by decide +kernel
theorem dX0_beginBatch_37 : decode cX0_beginBatch 37 = .ok (.ifCond .le 13, 3) := by decide +kernel
theorem dX0_beginBatch_40 : decode cX0_beginBatch 40 = .ok (.aload_n 0, 1) := by decide +kernel
theorem dX0_beginBatch_41 : decode cX0_beginBatch 41 = .ok (.dup, 1) := by decide +kernel
theorem dX0_beginBatch_42 : decode cX0_beginBatch 42 = .ok (.getfield 78, 3) := by decide +kernel
theorem dX0_beginBatch_45 : decode cX0_beginBatch 45 = .ok (.iconst 1, 1) := by decide +kernel
theorem dX0_beginBatch_46 : decode cX0_beginBatch 46 = .ok (.iadd, 1) := by decide +kernel
theorem dX0_beginBatch_47 : decode cX0_beginBatch 47 = .ok (.putfield 78, 3) := by decide +kernel
theorem dX0_beginBatch_50 : decode cX0_beginBatch 50 = .ok (.return_, 1) := by decide +kernel
set_option maxRecDepth 20000 in
theorem ggX1_init_X0_init : GoodIn wsX1_init wsX0_init := goodIn_r _ [9, 10, 2, 3, 11, 12, 13, 14, 15, 16, 17, 18, 19, 20, 21, 22, 23, 24, 25, 26, 27, 28, 29, 30, 31, 32, 33, 37, 38, 39, 40, 41, 42, 43, 44, 45, 46, 47, 48, 49, 50, 51, 52, 53, 54, 55, 56, 57, 58, 59, 60, 61, 62] (by decide +kernel) (by decide +kernel)
set_option maxRecDepth 20000 in
theorem gX1_init_X0_init_n15 : GoodIn wsX1_init (wsX0_init) := ggX1_init_X0_init
theorem dX1_init_0 : decode cX1_init 0 = .ok (.aload_n 0, 1) := by decide +kernel
theorem dX1_init_1 : decode cX1_init 1 = .ok (.invokespecial 3, 3) := by decide +kernel
theorem dX1_init_4 : decode cX1_init 4 = .ok (.aload_n 0, 1) := by decide +kernel
theorem dX1_init_5 : decode cX1_init 5 = .ok (.bipush 7, 2) := by decide +kernel
theorem dX1_init_7 : decode cX1_init 7 = .ok (.anewarray 9, 3) := by decide +kernel
theorem dX1_init_10 : decode cX1_init 10 = .ok (.putfield 11, 3) := by decide +kernel
theorem dX1_init_13 : decode cX1_init 13 = .ok (.iconst 0, 1) := by decide +kernel
theorem dX1_init_14 : decode cX1_init 14 = .ok (.istore_n 1, 1) := by decide +kernel
theorem dX1_init_15 : decode cX1_init 15 = .ok (.iload_n 1, 1) := by decide +kernel
theorem dX1_init_16 : decode cX1_init 16 = .ok (.aload_n 0, 1) := by decide +kernel
theorem dX1_init_17 : decode cX1_init 17 = .ok (.getfield 11, 3) := by decide +kernel
theorem dX1_init_20 : decode cX1_init 20 = .ok (.arraylength, 1) := by decide +kernel
theorem dX1_init_21 : decode cX1_init 21 = .ok (.if_icmp .ge 22, 3) := by decide +kernel
theorem dX1_init_24 : decode cX1_init 24 = .ok (.aload_n 0, 1) := by decide +kernel
theorem dX1_init_25 : decode cX1_init 25 = .ok (.getfield 11, 3) := by decide +kernel
theorem dX1_init_28 : decode cX1_init 28 = .ok (.iload_n 1, 1) := by decide +kernel
theorem dX1_init_29 : decode cX1_init 29 = .ok (.new 9, 3) := by decide +kernel
theorem dX1_init_32 : decode cX1_init 32 = .ok (.dup, 1) := by decide +kernel
theorem dX1_init_33 : decode cX1_init 33 = .ok (.invokespecial 15, 3) := by decide +kernel
theorem dX1_init_36 : decode cX1_init 36 = .ok (.aastore, 1) := by decide +kernel
theorem dX1_init_37 : decode cX1_init 37 = .ok (.iinc 1 1, 3) := by decide +kernel
theorem dX1_init_40 : decode cX1_init 40 = .ok (.goto (-25), 3) := by decide +kernel
theorem dX1_init_43 : decode cX1_init 43 = .ok (.return_, 1) := by decide +kernel
theorem dX1_stateAt_0 : decode cX1_stateAt 0 = .ok (.iload_n 1, 1) := by decide +kernel
theorem dX1_stateAt_1 : decode cX1_stateAt 1 = .ok (.ifCond .lt 21, 3) := by decide +kernel
theorem dX1_stateAt_4 : decode cX1_stateAt 4 = .ok (.iload_n 1, 1) := by decide +kernel
theorem dX1_stateAt_5 : decode cX1_stateAt 5 = .ok (.aload_n 0, 1) := by decide +kernel
theorem dX1_stateAt_6 : decode cX1_stateAt 6 = .ok (.getfield 11, 3) := by decide +kernel
theorem dX1_stateAt_9 : decode cX1_stateAt 9 = .ok (.arraylength, 1) := by decide +kernel
theorem dX1_stateAt_10 : decode cX1_stateAt 10 = .ok (.if_icmp .ge 12, 3) := by decide +kernel
theorem dX1_stateAt_13 : decode cX1_stateAt 13 = .ok (.aload_n 0, 1) := by decide +kernel
theorem dX1_stateAt_14 : decode cX1_stateAt 14 = .ok (.getfield 11, 3) := by decide +kernel
theorem dX1_stateAt_17 : decode cX1_stateAt 17 = .ok (.iload_n 1, 1) := by decide +kernel
theorem dX1_stateAt_18 : decode cX1_stateAt 18 = .ok (.aaload, 1) := by decide +kernel
theorem dX1_stateAt_19 : decode cX1_stateAt 19 = .ok (.goto 4, 3) := by decide +kernel
theorem dX1_stateAt_22 : decode cX1_stateAt 22 = .ok (.aconst_null, 1) := by decide +kernel
theorem dX1_stateAt_23 : decode cX1_stateAt 23 = .ok (.areturn, 1) := by decide +kernel
set_option maxRecDepth 20000 in
theorem ggX1_prepare_X1_stateAt : GoodIn wsX1_prepare wsX1_stateAt := goodIn_r _ [6, 7, 48, 49, 50] (by decide +kernel) (by decide +kernel)
set_option maxRecDepth 20000 in
theorem gX1_prepare_X1_stateAt : GoodIn wsX1_prepare (wsV RX1 20 RX1 yX1_stateAt wsX1_stateAt) := goodIn_app (goodIn_of _ (by decide +kernel)) ggX1_prepare_X1_stateAt
set_option maxRecDepth 20000 in
theorem ggX1_prepare_X0_copyFrom : GoodIn wsX1_prepare wsX0_copyFrom := goodIn_r _ [11, 12, 13, 14, 15, 16, 17, 18, 19, 20, 21, 22, 23, 24, 25, 26, 27, 28, 29, 30, 31, 32, 33, 34, 35, 36, 37, 38, 39, 40, 41, 42, 43, 44, 45, 46, 47, 51, 52, 53, 54, 55, 56, 57, 58, 59, 60, 61, 62, 63, 64, 65, 66, 67, 68, 69, 70, 71, 72, 73, 74, 75, 76] (by decide +kernel) (by decide +kernel)
set_option maxRecDepth 20000 in
theorem gX1_prepare_X0_copyFrom_n24 : GoodIn wsX1_prepare (wsX0_copyFrom) := ggX1_prepare_X0_copyFrom
theorem dX1_prepare_0 : decode cX1_prepare 0 = .ok (.aload_n 0, 1) := by decide +kernel
theorem dX1_prepare_1 : decode cX1_prepare 1 = .ok (.aload_n 0, 1) := by decide +kernel
theorem dX1_prepare_2 : decode cX1_prepare 2 = .ok (.getfield 16, 3) := by decide +kernel
theorem dX1_prepare_5 : decode cX1_prepare 5 = .ok (.invokevirtual 20, 3) := by decide +kernel
theorem dX1_prepare_8 : decode cX1_prepare 8 = .ok (.astore_n 2, 1) := by decide +kernel
theorem dX1_prepare_9 : decode cX1_prepare 9 = .ok (.aload_n 2, 1) := by decide +kernel
theorem dX1_prepare_10 : decode cX1_prepare 10 = .ok (.ifnull 8, 3) := by decide +kernel
theorem dX1_prepare_13 : decode cX1_prepare 13 = .ok (.aload_n 2, 1) := by decide +kernel
theorem dX1_prepare_14 : decode cX1_prepare 14 = .ok (.aload_n 1, 1) := by decide +kernel
theorem dX1_prepare_15 : decode cX1_prepare 15 = .ok (.invokevirtual 24, 3) := by decide +kernel
theorem dX1_prepare_18 : decode cX1_prepare 18 = .ok (.return_, 1) := by decide +kernel
theorem dX1_keep_0 : decode cX1_keep 0 = .ok (.aload_n 0, 1) := by decide +kernel
theorem dX1_keep_1 : decode cX1_keep 1 = .ok (.aload_n 0, 1) := by decide +kernel
theorem dX1_keep_2 : decode cX1_keep 2 = .ok (.getfield 16, 3) := by decide +kernel
theorem dX1_keep_5 : decode cX1_keep 5 = .ok (.iconst 1, 1) := by decide +kernel
theorem dX1_keep_6 : decode cX1_keep 6 = .ok (.iadd, 1) := by decide +kernel
theorem dX1_keep_7 : decode cX1_keep 7 = .ok (.bipush 7, 2) := by decide +kernel
theorem dX1_keep_9 : decode cX1_keep 9 = .ok (.irem, 1) := by decide +kernel
theorem dX1_keep_10 : decode cX1_keep 10 = .ok (.putfield 16, 3) := by decide +kernel
theorem dX1_keep_13 : decode cX1_keep 13 = .ok (.aload_n 0, 1) := by decide +kernel
theorem dX1_keep_14 : decode cX1_keep 14 = .ok (.aload_n 0, 1) := by decide +kernel
theorem dX1_keep_15 : decode cX1_keep 15 = .ok (.getfield 28, 3) := by decide +kernel
theorem dX1_keep_18 : decode cX1_keep 18 = .ok (.iconst 1, 1) := by decide +kernel
theorem dX1_keep_19 : decode cX1_keep 19 = .ok (.iadd, 1) := by decide +kernel
theorem dX1_keep_20 : decode cX1_keep 20 = .ok (.bipush 6, 2) := by decide +kernel
theorem dX1_keep_22 : decode cX1_keep 22 = .ok (.invokestatic 31, 3) := by decide +kernel
theorem dX1_keep_25 : decode cX1_keep 25 = .ok (.putfield 28, 3) := by decide +kernel
theorem dX1_keep_28 : decode cX1_keep 28 = .ok (.return_, 1) := by decide +kernel
set_option maxRecDepth 20000 in
theorem ggX1_takeBack_X1_stateAt : GoodIn wsX1_takeBack wsX1_stateAt := goodIn_r _ [7, 8, 49, 50, 51] (by decide +kernel) (by decide +kernel)
set_option maxRecDepth 20000 in
theorem gX1_takeBack_X1_stateAt : GoodIn wsX1_takeBack (wsV RX1 20 RX1 yX1_stateAt wsX1_stateAt) := goodIn_app (goodIn_of _ (by decide +kernel)) ggX1_takeBack_X1_stateAt
set_option maxRecDepth 20000 in
theorem ggX1_takeBack_X0_copyFrom : GoodIn wsX1_takeBack wsX0_copyFrom := goodIn_r _ [12, 13, 14, 15, 16, 17, 18, 19, 20, 21, 22, 23, 24, 25, 26, 27, 28, 29, 30, 31, 32, 33, 34, 35, 36, 37, 38, 39, 40, 41, 42, 43, 44, 45, 46, 47, 48, 52, 53, 54, 55, 56, 57, 58, 59, 60, 61, 62, 63, 64, 65, 66, 67, 68, 69, 70, 71, 72, 73, 74, 75, 76, 77] (by decide +kernel) (by decide +kernel)
set_option maxRecDepth 20000 in
theorem gX1_takeBack_X0_copyFrom_n24 : GoodIn wsX1_takeBack (wsX0_copyFrom) := ggX1_takeBack_X0_copyFrom
theorem dX1_takeBack_0 : decode cX1_takeBack 0 = .ok (.aload_n 0, 1) := by decide +kernel
theorem dX1_takeBack_1 : decode cX1_takeBack 1 = .ok (.aload_n 0, 1) := by decide +kernel
theorem dX1_takeBack_2 : decode cX1_takeBack 2 = .ok (.getfield 16, 3) := by decide +kernel
theorem dX1_takeBack_5 : decode cX1_takeBack 5 = .ok (.bipush 7, 2) := by decide +kernel
theorem dX1_takeBack_7 : decode cX1_takeBack 7 = .ok (.iadd, 1) := by decide +kernel
theorem dX1_takeBack_8 : decode cX1_takeBack 8 = .ok (.iconst 1, 1) := by decide +kernel
theorem dX1_takeBack_9 : decode cX1_takeBack 9 = .ok (.isub, 1) := by decide +kernel
theorem dX1_takeBack_10 : decode cX1_takeBack 10 = .ok (.bipush 7, 2) := by decide +kernel
theorem dX1_takeBack_12 : decode cX1_takeBack 12 = .ok (.irem, 1) := by decide +kernel
theorem dX1_takeBack_13 : decode cX1_takeBack 13 = .ok (.putfield 16, 3) := by decide +kernel
theorem dX1_takeBack_16 : decode cX1_takeBack 16 = .ok (.aload_n 0, 1) := by decide +kernel
theorem dX1_takeBack_17 : decode cX1_takeBack 17 = .ok (.dup, 1) := by decide +kernel
theorem dX1_takeBack_18 : decode cX1_takeBack 18 = .ok (.getfield 28, 3) := by decide +kernel
theorem dX1_takeBack_21 : decode cX1_takeBack 21 = .ok (.iconst 1, 1) := by decide +kernel
theorem dX1_takeBack_22 : decode cX1_takeBack 22 = .ok (.isub, 1) := by decide +kernel
theorem dX1_takeBack_23 : decode cX1_takeBack 23 = .ok (.putfield 28, 3) := by decide +kernel
theorem dX1_takeBack_26 : decode cX1_takeBack 26 = .ok (.aload_n 0, 1) := by decide +kernel
theorem dX1_takeBack_27 : decode cX1_takeBack 27 = .ok (.aload_n 0, 1) := by decide +kernel
theorem dX1_takeBack_28 : decode cX1_takeBack 28 = .ok (.getfield 16, 3) := by decide +kernel
theorem dX1_takeBack_31 : decode cX1_takeBack 31 = .ok (.invokevirtual 20, 3) := by decide +kernel
theorem dX1_takeBack_34 : decode cX1_takeBack 34 = .ok (.astore_n 2, 1) := by decide +kernel
theorem dX1_takeBack_35 : decode cX1_takeBack 35 = .ok (.aload_n 2, 1) := by decide +kernel
theorem dX1_takeBack_36 : decode cX1_takeBack 36 = .ok (.ifnull 8, 3) := by decide +kernel
theorem dX1_takeBack_39 : decode cX1_takeBack 39 = .ok (.aload_n 1, 1) := by decide +kernel
theorem dX1_takeBack_40 : decode cX1_takeBack 40 = .ok (.aload_n 2, 1) := by decide +kernel
theorem dX1_takeBack_41 : decode cX1_takeBack 41 = .ok (.invokevirtual 24, 3) := by decide +kernel
theorem dX1_takeBack_44 : decode cX1_takeBack 44 = .ok (.return_, 1) := by decide +kernel
theorem dX2_init_0 : decode cX2_init 0 = .ok (.aload_n 0, 1) := by decide +kernel
theorem dX2_init_1 : decode cX2_init 1 = .ok (.invokespecial 1, 3) := by decide +kernel
theorem dX2_init_4 : decode cX2_init 4 = .ok (.aload_n 0, 1) := by decide +kernel
theorem dX2_init_5 : decode cX2_init 5 = .ok (.bipush 20, 2) := by decide +kernel
theorem dX2_init_7 : decode cX2_init 7 = .ok (.newarray .int, 2) := by decide +kernel
theorem dX2_init_9 : decode cX2_init 9 = .ok (.putfield 9, 3) := by decide +kernel
theorem dX2_init_12 : decode cX2_init 12 = .ok (.aload_n 0, 1) := by decide +kernel
theorem dX2_init_13 : decode cX2_init 13 = .ok (.bipush 20, 2) := by decide +kernel
theorem dX2_init_15 : decode cX2_init 15 = .ok (.newarray .int, 2) := by decide +kernel
theorem dX2_init_17 : decode cX2_init 17 = .ok (.putfield 13, 3) := by decide +kernel
theorem dX2_init_20 : decode cX2_init 20 = .ok (.aload_n 0, 1) := by decide +kernel
theorem dX2_init_21 : decode cX2_init 21 = .ok (.bipush 20, 2) := by decide +kernel
theorem dX2_init_23 : decode cX2_init 23 = .ok (.newarray .int, 2) := by decide +kernel
theorem dX2_init_25 : decode cX2_init 25 = .ok (.putfield 16, 3) := by decide +kernel
theorem dX2_init_28 : decode cX2_init 28 = .ok (.return_, 1) := by decide +kernel
set_option maxRecDepth 20000 in
theorem ggX2_copyFrom_X7_copyRow : GoodIn wsX2_copyFrom wsX7_copyRow := goodIn_r _ [7] (by decide +kernel) (by decide +kernel)
set_option maxRecDepth 20000 in
theorem gX2_copyFrom_X7_copyRow_n19 : GoodIn wsX2_copyFrom (wsX7_copyRow) := ggX2_copyFrom_X7_copyRow
theorem dX2_copyFrom_0 : decode cX2_copyFrom 0 = .ok (.aload_n 1, 1) := by decide +kernel
theorem dX2_copyFrom_1 : decode cX2_copyFrom 1 = .ok (.getfield 9, 3) := by decide +kernel
theorem dX2_copyFrom_4 : decode cX2_copyFrom 4 = .ok (.aload_n 0, 1) := by decide +kernel
theorem dX2_copyFrom_5 : decode cX2_copyFrom 5 = .ok (.getfield 9, 3) := by decide +kernel
theorem dX2_copyFrom_8 : decode cX2_copyFrom 8 = .ok (.invokestatic 19, 3) := by decide +kernel
theorem dX2_copyFrom_11 : decode cX2_copyFrom 11 = .ok (.aload_n 1, 1) := by decide +kernel
theorem dX2_copyFrom_12 : decode cX2_copyFrom 12 = .ok (.getfield 13, 3) := by decide +kernel
theorem dX2_copyFrom_15 : decode cX2_copyFrom 15 = .ok (.aload_n 0, 1) := by decide +kernel
theorem dX2_copyFrom_16 : decode cX2_copyFrom 16 = .ok (.getfield 13, 3) := by decide +kernel
theorem dX2_copyFrom_19 : decode cX2_copyFrom 19 = .ok (.invokestatic 19, 3) := by decide +kernel
theorem dX2_copyFrom_22 : decode cX2_copyFrom 22 = .ok (.aload_n 1, 1) := by decide +kernel
theorem dX2_copyFrom_23 : decode cX2_copyFrom 23 = .ok (.getfield 16, 3) := by decide +kernel
theorem dX2_copyFrom_26 : decode cX2_copyFrom 26 = .ok (.aload_n 0, 1) := by decide +kernel
theorem dX2_copyFrom_27 : decode cX2_copyFrom 27 = .ok (.getfield 16, 3) := by decide +kernel
theorem dX2_copyFrom_30 : decode cX2_copyFrom 30 = .ok (.invokestatic 19, 3) := by decide +kernel
theorem dX2_copyFrom_33 : decode cX2_copyFrom 33 = .ok (.aload_n 0, 1) := by decide +kernel
theorem dX2_copyFrom_34 : decode cX2_copyFrom 34 = .ok (.aload_n 1, 1) := by decide +kernel
theorem dX2_copyFrom_35 : decode cX2_copyFrom 35 = .ok (.getfield 25, 3) := by decide +kernel
theorem dX2_copyFrom_38 : decode cX2_copyFrom 38 = .ok (.putfield 25, 3) := by decide +kernel
theorem dX2_copyFrom_41 : decode cX2_copyFrom 41 = .ok (.return_, 1) := by decide +kernel
set_option maxRecDepth 20000 in
theorem ggX2_append_X7_isIndexOf : GoodIn wsX2_append wsX7_isIndexOf := goodIn_r _ [7] (by decide +kernel) (by decide +kernel)
set_option maxRecDepth 20000 in
theorem gX2_append_X7_isIndexOf_n29 : GoodIn wsX2_append (wsX7_isIndexOf) := ggX2_append_X7_isIndexOf
theorem dX2_append_0 : decode cX2_append 0 = .ok (.aload_n 0, 1) := by decide +kernel
theorem dX2_append_1 : decode cX2_append 1 = .ok (.getfield 25, 3) := by decide +kernel
theorem dX2_append_4 : decode cX2_append 4 = .ok (.bipush 20, 2) := by decide +kernel
theorem dX2_append_6 : decode cX2_append 6 = .ok (.irem, 1) := by decide +kernel
theorem dX2_append_7 : decode cX2_append 7 = .ok (.istore 4, 2) := by decide +kernel
theorem dX2_append_9 : decode cX2_append 9 = .ok (.aload_n 0, 1) := by decide +kernel
theorem dX2_append_10 : decode cX2_append 10 = .ok (.getfield 9, 3) := by decide +kernel
theorem dX2_append_13 : decode cX2_append 13 = .ok (.iload 4, 2) := by decide +kernel
theorem dX2_append_15 : decode cX2_append 15 = .ok (.invokestatic 29, 3) := by decide +kernel
theorem dX2_append_18 : decode cX2_append 18 = .ok (.ifCond .eq 61, 3) := by decide +kernel
theorem dX2_append_21 : decode cX2_append 21 = .ok (.aload_n 0, 1) := by decide +kernel
theorem dX2_append_22 : decode cX2_append 22 = .ok (.getfield 13, 3) := by decide +kernel
theorem dX2_append_25 : decode cX2_append 25 = .ok (.iload 4, 2) := by decide +kernel
theorem dX2_append_27 : decode cX2_append 27 = .ok (.invokestatic 29, 3) := by decide +kernel
theorem dX2_append_30 : decode cX2_append 30 = .ok (.ifCond .eq 49, 3) := by decide +kernel
theorem dX2_append_33 : decode cX2_append 33 = .ok (.aload_n 0, 1) := by decide +kernel
theorem dX2_append_34 : decode cX2_append 34 = .ok (.getfield 16, 3) := by decide +kernel
theorem dX2_append_37 : decode cX2_append 37 = .ok (.iload 4, 2) := by decide +kernel
theorem dX2_append_39 : decode cX2_append 39 = .ok (.invokestatic 29, 3) := by decide +kernel
theorem dX2_append_42 : decode cX2_append 42 = .ok (.ifCond .eq 37, 3) := by decide +kernel
theorem dX2_append_45 : decode cX2_append 45 = .ok (.aload_n 0, 1) := by decide +kernel
theorem dX2_append_46 : decode cX2_append 46 = .ok (.getfield 9, 3) := by decide +kernel
theorem dX2_append_49 : decode cX2_append 49 = .ok (.iload 4, 2) := by decide +kernel
theorem dX2_append_51 : decode cX2_append 51 = .ok (.iload_n 1, 1) := by decide +kernel
theorem dX2_append_52 : decode cX2_append 52 = .ok (.iastore, 1) := by decide +kernel
theorem dX2_append_53 : decode cX2_append 53 = .ok (.aload_n 0, 1) := by decide +kernel
theorem dX2_append_54 : decode cX2_append 54 = .ok (.getfield 13, 3) := by decide +kernel
theorem dX2_append_57 : decode cX2_append 57 = .ok (.iload 4, 2) := by decide +kernel
theorem dX2_append_59 : decode cX2_append 59 = .ok (.iload_n 2, 1) := by decide +kernel
theorem dX2_append_60 : decode cX2_append 60 = .ok (.iastore, 1) := by decide +kernel
theorem dX2_append_61 : decode cX2_append 61 = .ok (.aload_n 0, 1) := by decide +kernel
theorem dX2_append_62 : decode cX2_append 62 = .ok (.getfield 16, 3) := by decide +kernel
theorem dX2_append_65 : decode cX2_append 65 = .ok (.iload 4, 2) := by decide +kernel
theorem dX2_append_67 : decode cX2_append 67 = .ok (.iload_n 3, 1) := by decide +kernel
theorem dX2_append_68 : decode cX2_append 68 = .ok (.iastore, 1) := by decide +kernel
theorem dX2_append_69 : decode cX2_append 69 = .ok (.aload_n 0, 1) := by decide +kernel
theorem dX2_append_70 : decode cX2_append 70 = .ok (.dup, 1) := by decide +kernel
theorem dX2_append_71 : decode cX2_append 71 = .ok (.getfield 25, 3) := by decide +kernel
theorem dX2_append_74 : decode cX2_append 74 = .ok (.iconst 1, 1) := by decide +kernel
theorem dX2_append_75 : decode cX2_append 75 = .ok (.iadd, 1) := by decide +kernel
theorem dX2_append_76 : decode cX2_append 76 = .ok (.putfield 25, 3) := by decide +kernel
theorem dX2_append_79 : decode cX2_append 79 = .ok (.return_, 1) := by decide +kernel
theorem dX2_has_0 : decode cX2_has 0 = .ok (.iload_n 1, 1) := by decide +kernel
theorem dX2_has_1 : decode cX2_has 1 = .ok (.ifCond .lt 21, 3) := by decide +kernel
theorem dX2_has_4 : decode cX2_has 4 = .ok (.iload_n 1, 1) := by decide +kernel
theorem dX2_has_5 : decode cX2_has 5 = .ok (.bipush 20, 2) := by decide +kernel
theorem dX2_has_7 : decode cX2_has 7 = .ok (.if_icmp .ge 15, 3) := by decide +kernel
theorem dX2_has_10 : decode cX2_has 10 = .ok (.iload_n 1, 1) := by decide +kernel
theorem dX2_has_11 : decode cX2_has 11 = .ok (.aload_n 0, 1) := by decide +kernel
theorem dX2_has_12 : decode cX2_has 12 = .ok (.getfield 25, 3) := by decide +kernel
theorem dX2_has_15 : decode cX2_has 15 = .ok (.if_icmp .ge 7, 3) := by decide +kernel
theorem dX2_has_18 : decode cX2_has 18 = .ok (.iconst 1, 1) := by decide +kernel
theorem dX2_has_19 : decode cX2_has 19 = .ok (.goto 4, 3) := by decide +kernel
theorem dX2_has_22 : decode cX2_has 22 = .ok (.iconst 0, 1) := by decide +kernel
theorem dX2_has_23 : decode cX2_has 23 = .ok (.ireturn, 1) := by decide +kernel
set_option maxRecDepth 20000 in
theorem ggX2_numberOf_X2_place : GoodIn wsX2_numberOf wsX2_place := goodIn_r _ [6, 7, 11, 12, 13, 14] (by decide +kernel) (by decide +kernel)
set_option maxRecDepth 20000 in
theorem gX2_numberOf_X2_place : GoodIn wsX2_numberOf (wsV RX2 33 RX2 yX2_place wsX2_place) := goodIn_app (goodIn_of _ (by decide +kernel)) ggX2_numberOf_X2_place
set_option maxRecDepth 20000 in
theorem ggX2_numberOf_X7_valueAt : GoodIn wsX2_numberOf wsX7_valueAt := goodIn_r _ [10] (by decide +kernel) (by decide +kernel)
set_option maxRecDepth 20000 in
theorem gX2_numberOf_X7_valueAt_n37 : GoodIn wsX2_numberOf (wsX7_valueAt) := ggX2_numberOf_X7_valueAt
theorem dX2_numberOf_0 : decode cX2_numberOf 0 = .ok (.aload_n 0, 1) := by decide +kernel
theorem dX2_numberOf_1 : decode cX2_numberOf 1 = .ok (.getfield 9, 3) := by decide +kernel
theorem dX2_numberOf_4 : decode cX2_numberOf 4 = .ok (.aload_n 0, 1) := by decide +kernel
theorem dX2_numberOf_5 : decode cX2_numberOf 5 = .ok (.iload_n 1, 1) := by decide +kernel
theorem dX2_numberOf_6 : decode cX2_numberOf 6 = .ok (.invokevirtual 33, 3) := by decide +kernel
theorem dX2_numberOf_9 : decode cX2_numberOf 9 = .ok (.invokestatic 37, 3) := by decide +kernel
theorem dX2_numberOf_12 : decode cX2_numberOf 12 = .ok (.ireturn, 1) := by decide +kernel
set_option maxRecDepth 20000 in
theorem ggX2_waitOf_X2_place : GoodIn wsX2_waitOf wsX2_place := goodIn_r _ [6, 7, 11, 12, 13, 14] (by decide +kernel) (by decide +kernel)
set_option maxRecDepth 20000 in
theorem gX2_waitOf_X2_place : GoodIn wsX2_waitOf (wsV RX2 33 RX2 yX2_place wsX2_place) := goodIn_app (goodIn_of _ (by decide +kernel)) ggX2_waitOf_X2_place
set_option maxRecDepth 20000 in
theorem ggX2_waitOf_X7_valueAt : GoodIn wsX2_waitOf wsX7_valueAt := goodIn_r _ [10] (by decide +kernel) (by decide +kernel)
set_option maxRecDepth 20000 in
theorem gX2_waitOf_X7_valueAt_n37 : GoodIn wsX2_waitOf (wsX7_valueAt) := ggX2_waitOf_X7_valueAt
theorem dX2_waitOf_0 : decode cX2_waitOf 0 = .ok (.aload_n 0, 1) := by decide +kernel
theorem dX2_waitOf_1 : decode cX2_waitOf 1 = .ok (.getfield 13, 3) := by decide +kernel
theorem dX2_waitOf_4 : decode cX2_waitOf 4 = .ok (.aload_n 0, 1) := by decide +kernel
theorem dX2_waitOf_5 : decode cX2_waitOf 5 = .ok (.iload_n 1, 1) := by decide +kernel
theorem dX2_waitOf_6 : decode cX2_waitOf 6 = .ok (.invokevirtual 33, 3) := by decide +kernel
theorem dX2_waitOf_9 : decode cX2_waitOf 9 = .ok (.invokestatic 37, 3) := by decide +kernel
theorem dX2_waitOf_12 : decode cX2_waitOf 12 = .ok (.ireturn, 1) := by decide +kernel
set_option maxRecDepth 20000 in
theorem ggX2_sortOf_X2_place : GoodIn wsX2_sortOf wsX2_place := goodIn_r _ [6, 7, 11, 12, 13, 14] (by decide +kernel) (by decide +kernel)
set_option maxRecDepth 20000 in
theorem gX2_sortOf_X2_place : GoodIn wsX2_sortOf (wsV RX2 33 RX2 yX2_place wsX2_place) := goodIn_app (goodIn_of _ (by decide +kernel)) ggX2_sortOf_X2_place
set_option maxRecDepth 20000 in
theorem ggX2_sortOf_X7_valueAt : GoodIn wsX2_sortOf wsX7_valueAt := goodIn_r _ [10] (by decide +kernel) (by decide +kernel)
set_option maxRecDepth 20000 in
theorem gX2_sortOf_X7_valueAt_n37 : GoodIn wsX2_sortOf (wsX7_valueAt) := ggX2_sortOf_X7_valueAt
theorem dX2_sortOf_0 : decode cX2_sortOf 0 = .ok (.aload_n 0, 1) := by decide +kernel
theorem dX2_sortOf_1 : decode cX2_sortOf 1 = .ok (.getfield 16, 3) := by decide +kernel
theorem dX2_sortOf_4 : decode cX2_sortOf 4 = .ok (.aload_n 0, 1) := by decide +kernel
theorem dX2_sortOf_5 : decode cX2_sortOf 5 = .ok (.iload_n 1, 1) := by decide +kernel
theorem dX2_sortOf_6 : decode cX2_sortOf 6 = .ok (.invokevirtual 33, 3) := by decide +kernel
theorem dX2_sortOf_9 : decode cX2_sortOf 9 = .ok (.invokestatic 37, 3) := by decide +kernel
theorem dX2_sortOf_12 : decode cX2_sortOf 12 = .ok (.ireturn, 1) := by decide +kernel
theorem dX2_place_0 : decode cX2_place 0 = .ok (.aload_n 0, 1) := by decide +kernel
theorem dX2_place_1 : decode cX2_place 1 = .ok (.getfield 25, 3) := by decide +kernel
theorem dX2_place_4 : decode cX2_place 4 = .ok (.iconst 1, 1) := by decide +kernel
theorem dX2_place_5 : decode cX2_place 5 = .ok (.isub, 1) := by decide +kernel
theorem dX2_place_6 : decode cX2_place 6 = .ok (.iload_n 1, 1) := by decide +kernel
theorem dX2_place_7 : decode cX2_place 7 = .ok (.isub, 1) := by decide +kernel
theorem dX2_place_8 : decode cX2_place 8 = .ok (.bipush 20, 2) := by decide +kernel
theorem dX2_place_10 : decode cX2_place 10 = .ok (.irem, 1) := by decide +kernel
theorem dX2_place_11 : decode cX2_place 11 = .ok (.ireturn, 1) := by decide +kernel
theorem dX3_init_0 : decode cX3_init 0 = .ok (.aload_n 0, 1) := by decide +kernel
theorem dX3_init_1 : decode cX3_init 1 = .ok (.invokespecial 3, 3) := by decide +kernel
theorem dX3_init_4 : decode cX3_init 4 = .ok (.aload_n 0, 1) := by decide +kernel
theorem dX3_init_5 : decode cX3_init 5 = .ok (.bipush 80, 2) := by decide +kernel
theorem dX3_init_7 : decode cX3_init 7 = .ok (.newarray .int, 2) := by decide +kernel
theorem dX3_init_9 : decode cX3_init 9 = .ok (.putfield 11, 3) := by decide +kernel
theorem dX3_init_12 : decode cX3_init 12 = .ok (.return_, 1) := by decide +kernel
set_option maxRecDepth 20000 in
theorem ggX3_signAt_X7_valueAt : GoodIn wsX3_signAt wsX7_valueAt := goodIn_r _ [5] (by decide +kernel) (by decide +kernel)
set_option maxRecDepth 20000 in
theorem gX3_signAt_X7_valueAt_n19 : GoodIn wsX3_signAt (wsX7_valueAt) := ggX3_signAt_X7_valueAt
theorem dX3_signAt_0 : decode cX3_signAt 0 = .ok (.iload_n 1, 1) := by decide +kernel
theorem dX3_signAt_1 : decode cX3_signAt 1 = .ok (.aload_n 0, 1) := by decide +kernel
theorem dX3_signAt_2 : decode cX3_signAt 2 = .ok (.getfield 15, 3) := by decide +kernel
theorem dX3_signAt_5 : decode cX3_signAt 5 = .ok (.if_icmp .ge 14, 3) := by decide +kernel
theorem dX3_signAt_8 : decode cX3_signAt 8 = .ok (.aload_n 0, 1) := by decide +kernel
theorem dX3_signAt_9 : decode cX3_signAt 9 = .ok (.getfield 11, 3) := by decide +kernel
theorem dX3_signAt_12 : decode cX3_signAt 12 = .ok (.iload_n 1, 1) := by decide +kernel
theorem dX3_signAt_13 : decode cX3_signAt 13 = .ok (.invokestatic 19, 3) := by decide +kernel
theorem dX3_signAt_16 : decode cX3_signAt 16 = .ok (.goto 4, 3) := by decide +kernel
theorem dX3_signAt_19 : decode cX3_signAt 19 = .ok (.iconst 0, 1) := by decide +kernel
theorem dX3_signAt_20 : decode cX3_signAt 20 = .ok (.ireturn, 1) := by decide +kernel
set_option maxRecDepth 20000 in
theorem ggX3_append_X3_signsIn : GoodIn wsX3_append wsX3_signsIn := goodIn_r _ [5] (by decide +kernel) (by decide +kernel)
set_option maxRecDepth 20000 in
theorem gX3_append_X3_signsIn : GoodIn wsX3_append (va_wsS RX3 23 yX3_signsIn wsX3_signsIn) := goodIn_app (goodIn_of _ (by decide +kernel)) ggX3_append_X3_signsIn
set_option maxRecDepth 20000 in
theorem ggX3_append_X3_add : GoodIn wsX3_append wsX3_add := goodIn_r _ [9, 10, 1, 11, 12, 13, 14, 15] (by decide +kernel) (by decide +kernel)
set_option maxRecDepth 20000 in
theorem gX3_append_X3_add : GoodIn wsX3_append (wsV RX3 27 RX3 yX3_add wsX3_add) := goodIn_app (goodIn_of _ (by decide +kernel)) ggX3_append_X3_add
theorem dX3_append_0 : decode cX3_append 0 = .ok (.lload_n 1, 1) := by decide +kernel
theorem dX3_append_1 : decode cX3_append 1 = .ok (.invokestatic 23, 3) := by decide +kernel
theorem dX3_append_4 : decode cX3_append 4 = .ok (.istore_n 3, 1) := by decide +kernel
theorem dX3_append_5 : decode cX3_append 5 = .ok (.iload_n 3, 1) := by decide +kernel
theorem dX3_append_6 : decode cX3_append 6 = .ok (.ifCond .ne 6, 3) := by decide +kernel
theorem dX3_append_9 : decode cX3_append 9 = .ok (.bipush (-2), 2) := by decide +kernel
theorem dX3_append_11 : decode cX3_append 11 = .ok (.ireturn, 1) := by decide +kernel
theorem dX3_append_12 : decode cX3_append 12 = .ok (.aload_n 0, 1) := by decide +kernel
theorem dX3_append_13 : decode cX3_append 13 = .ok (.getfield 15, 3) := by decide +kernel
theorem dX3_append_16 : decode cX3_append 16 = .ok (.iload_n 3, 1) := by decide +kernel
theorem dX3_append_17 : decode cX3_append 17 = .ok (.iadd, 1) := by decide +kernel
theorem dX3_append_18 : decode cX3_append 18 = .ok (.bipush 80, 2) := by decide +kernel
theorem dX3_append_20 : decode cX3_append 20 = .ok (.if_icmp .le 6, 3) := by decide +kernel
theorem dX3_append_23 : decode cX3_append 23 = .ok (.bipush (-4), 2) := by decide +kernel
theorem dX3_append_25 : decode cX3_append 25 = .ok (.ireturn, 1) := by decide +kernel
theorem dX3_append_26 : decode cX3_append 26 = .ok (.iload_n 3, 1) := by decide +kernel
theorem dX3_append_27 : decode cX3_append 27 = .ok (.iconst 1, 1) := by decide +kernel
theorem dX3_append_28 : decode cX3_append 28 = .ok (.isub, 1) := by decide +kernel
theorem dX3_append_29 : decode cX3_append 29 = .ok (.istore 4, 2) := by decide +kernel
theorem dX3_append_31 : decode cX3_append 31 = .ok (.iload 4, 2) := by decide +kernel
theorem dX3_append_33 : decode cX3_append 33 = .ok (.ifCond .lt 25, 3) := by decide +kernel
theorem dX3_append_36 : decode cX3_append 36 = .ok (.aload_n 0, 1) := by decide +kernel
theorem dX3_append_37 : decode cX3_append 37 = .ok (.lload_n 1, 1) := by decide +kernel
theorem dX3_append_38 : decode cX3_append 38 = .ok (.iload 4, 2) := by decide +kernel
theorem dX3_append_40 : decode cX3_append 40 = .ok (.bipush 8, 2) := by decide +kernel
theorem dX3_append_42 : decode cX3_append 42 = .ok (.imul, 1) := by decide +kernel
theorem dX3_append_43 : decode cX3_append 43 = .ok (.lushr, 1) := by decide +kernel
theorem dX3_append_44 : decode cX3_append 44 = .ok (.l2i, 1) := by decide +kernel
theorem dX3_append_45 : decode cX3_append 45 = .ok (.sipush 255, 3) := by decide +kernel
theorem dX3_append_48 : decode cX3_append 48 = .ok (.iand, 1) := by decide +kernel
theorem dX3_append_49 : decode cX3_append 49 = .ok (.invokevirtual 27, 3) := by decide +kernel
theorem dX3_append_52 : decode cX3_append 52 = .ok (.iinc 4 (-1), 3) := by decide +kernel
theorem dX3_append_55 : decode cX3_append 55 = .ok (.goto (-24), 3) := by decide +kernel
theorem dX3_append_58 : decode cX3_append 58 = .ok (.aload_n 0, 1) := by decide +kernel
theorem dX3_append_59 : decode cX3_append 59 = .ok (.getfield 15, 3) := by decide +kernel
theorem dX3_append_62 : decode cX3_append 62 = .ok (.ireturn, 1) := by decide +kernel
theorem dX3_signsIn_0 : decode cX3_signsIn 0 = .ok (.iconst 0, 1) := by decide +kernel
theorem dX3_signsIn_1 : decode cX3_signsIn 1 = .ok (.istore_n 2, 1) := by decide +kernel
theorem dX3_signsIn_2 : decode cX3_signsIn 2 = .ok (.lload_n 0, 1) := by decide +kernel
theorem dX3_signsIn_3 : decode cX3_signsIn 3 = .ok (.lstore_n 3, 1) := by decide +kernel
theorem dX3_signsIn_4 : decode cX3_signsIn 4 = .ok (.lload_n 3, 1) := by decide +kernel
theorem dX3_signsIn_5 : decode cX3_signsIn 5 = .ok (.lconst 0, 1) := by decide +kernel
theorem dX3_signsIn_6 : decode cX3_signsIn 6 = .ok (.lcmp, 1) := by decide +kernel
theorem dX3_signsIn_7 : decode cX3_signsIn 7 = .ok (.ifCond .eq 44, 3) := by decide +kernel
theorem dX3_signsIn_10 : decode cX3_signsIn 10 = .ok (.iload_n 2, 1) := by decide +kernel
theorem dX3_signsIn_11 : decode cX3_signsIn 11 = .ok (.bipush 8, 2) := by decide +kernel
theorem dX3_signsIn_13 : decode cX3_signsIn 13 = .ok (.if_icmp .ge 38, 3) := by decide +kernel
theorem dX3_signsIn_16 : decode cX3_signsIn 16 = .ok (.lload_n 3, 1) := by decide +kernel
theorem dX3_signsIn_17 : decode cX3_signsIn 17 = .ok (.l2i, 1) := by decide +kernel
theorem dX3_signsIn_18 : decode cX3_signsIn 18 = .ok (.sipush 255, 3) := by decide +kernel
theorem dX3_signsIn_21 : decode cX3_signsIn 21 = .ok (.iand, 1) := by decide +kernel
theorem dX3_signsIn_22 : decode cX3_signsIn 22 = .ok (.istore 5, 2) := by decide +kernel
theorem dX3_signsIn_24 : decode cX3_signsIn 24 = .ok (.iload 5, 2) := by decide +kernel
theorem dX3_signsIn_26 : decode cX3_signsIn 26 = .ok (.bipush 33, 2) := by decide +kernel
theorem dX3_signsIn_28 : decode cX3_signsIn 28 = .ok (.if_icmp .lt 10, 3) := by decide +kernel
theorem dX3_signsIn_31 : decode cX3_signsIn 31 = .ok (.iload 5, 2) := by decide +kernel
theorem dX3_signsIn_33 : decode cX3_signsIn 33 = .ok (.bipush 126, 2) := by decide +kernel
theorem dX3_signsIn_35 : decode cX3_signsIn 35 = .ok (.if_icmp .le 5, 3) := by decide +kernel
theorem dX3_signsIn_38 : decode cX3_signsIn 38 = .ok (.iconst 0, 1) := by decide +kernel
theorem dX3_signsIn_39 : decode cX3_signsIn 39 = .ok (.ireturn, 1) := by decide +kernel
theorem dX3_signsIn_40 : decode cX3_signsIn 40 = .ok (.iinc 2 1, 3) := by decide +kernel
theorem dX3_signsIn_43 : decode cX3_signsIn 43 = .ok (.lload_n 3, 1) := by decide +kernel
theorem dX3_signsIn_44 : decode cX3_signsIn 44 = .ok (.bipush 8, 2) := by decide +kernel
theorem dX3_signsIn_46 : decode cX3_signsIn 46 = .ok (.lushr, 1) := by decide +kernel
theorem dX3_signsIn_47 : decode cX3_signsIn 47 = .ok (.lstore_n 3, 1) := by decide +kernel
theorem dX3_signsIn_48 : decode cX3_signsIn 48 = .ok (.goto (-44), 3) := by decide +kernel
theorem dX3_signsIn_51 : decode cX3_signsIn 51 = .ok (.iload_n 2, 1) := by decide +kernel
theorem dX3_signsIn_52 : decode cX3_signsIn 52 = .ok (.ireturn, 1) := by decide +kernel
set_option maxRecDepth 20000 in
theorem ggX3_add_X7_isIndexOf : GoodIn wsX3_add wsX7_isIndexOf := goodIn_r _ [5] (by decide +kernel) (by decide +kernel)
set_option maxRecDepth 20000 in
theorem gX3_add_X7_isIndexOf_n31 : GoodIn wsX3_add (wsX7_isIndexOf) := ggX3_add_X7_isIndexOf
theorem dX3_add_0 : decode cX3_add 0 = .ok (.aload_n 0, 1) := by decide +kernel
theorem dX3_add_1 : decode cX3_add 1 = .ok (.getfield 11, 3) := by decide +kernel
theorem dX3_add_4 : decode cX3_add 4 = .ok (.aload_n 0, 1) := by decide +kernel
theorem dX3_add_5 : decode cX3_add 5 = .ok (.getfield 15, 3) := by decide +kernel
theorem dX3_add_8 : decode cX3_add 8 = .ok (.invokestatic 31, 3) := by decide +kernel
theorem dX3_add_11 : decode cX3_add 11 = .ok (.ifCond .eq 23, 3) := by decide +kernel
theorem dX3_add_14 : decode cX3_add 14 = .ok (.aload_n 0, 1) := by decide +kernel
theorem dX3_add_15 : decode cX3_add 15 = .ok (.getfield 11, 3) := by decide +kernel
theorem dX3_add_18 : decode cX3_add 18 = .ok (.aload_n 0, 1) := by decide +kernel
theorem dX3_add_19 : decode cX3_add 19 = .ok (.getfield 15, 3) := by decide +kernel
theorem dX3_add_22 : decode cX3_add 22 = .ok (.iload_n 1, 1) := by decide +kernel
theorem dX3_add_23 : decode cX3_add 23 = .ok (.iastore, 1) := by decide +kernel
theorem dX3_add_24 : decode cX3_add 24 = .ok (.aload_n 0, 1) := by decide +kernel
theorem dX3_add_25 : decode cX3_add 25 = .ok (.dup, 1) := by decide +kernel
theorem dX3_add_26 : decode cX3_add 26 = .ok (.getfield 15, 3) := by decide +kernel
theorem dX3_add_29 : decode cX3_add 29 = .ok (.iconst 1, 1) := by decide +kernel
theorem dX3_add_30 : decode cX3_add 30 = .ok (.iadd, 1) := by decide +kernel
theorem dX3_add_31 : decode cX3_add 31 = .ok (.putfield 15, 3) := by decide +kernel
theorem dX3_add_34 : decode cX3_add 34 = .ok (.return_, 1) := by decide +kernel
theorem dX3_empty_0 : decode cX3_empty 0 = .ok (.aload_n 0, 1) := by decide +kernel
theorem dX3_empty_1 : decode cX3_empty 1 = .ok (.getfield 15, 3) := by decide +kernel
theorem dX3_empty_4 : decode cX3_empty 4 = .ok (.istore_n 1, 1) := by decide +kernel
theorem dX3_empty_5 : decode cX3_empty 5 = .ok (.aload_n 0, 1) := by decide +kernel
theorem dX3_empty_6 : decode cX3_empty 6 = .ok (.iconst 0, 1) := by decide +kernel
theorem dX3_empty_7 : decode cX3_empty 7 = .ok (.putfield 15, 3) := by decide +kernel
theorem dX3_empty_10 : decode cX3_empty 10 = .ok (.iload_n 1, 1) := by decide +kernel
theorem dX3_empty_11 : decode cX3_empty 11 = .ok (.ireturn, 1) := by decide +kernel
theorem dX4_init_0 : decode cX4_init 0 = .ok (.aload_n 0, 1) := by decide +kernel
theorem dX4_init_1 : decode cX4_init 1 = .ok (.invokespecial 3, 3) := by decide +kernel
theorem dX4_init_4 : decode cX4_init 4 = .ok (.aload_n 0, 1) := by decide +kernel
theorem dX4_init_5 : decode cX4_init 5 = .ok (.aload_n 1, 1) := by decide +kernel
theorem dX4_init_6 : decode cX4_init 6 = .ok (.putfield 9, 3) := by decide +kernel
theorem dX4_init_9 : decode cX4_init 9 = .ok (.return_, 1) := by decide +kernel
theorem dX4_begin_0 : decode cX4_begin 0 = .ok (.aload_n 0, 1) := by decide +kernel
theorem dX4_begin_1 : decode cX4_begin 1 = .ok (.iconst 0, 1) := by decide +kernel
theorem dX4_begin_2 : decode cX4_begin 2 = .ok (.putfield 15, 3) := by decide +kernel
theorem dX4_begin_5 : decode cX4_begin 5 = .ok (.return_, 1) := by decide +kernel
set_option maxRecDepth 20000 in
theorem ggX4_findFault_X4_begin : GoodIn wsX4_findFault wsX4_begin := goodIn_r _ [7, 1, 44, 45, 46, 47, 48] (by decide +kernel) (by decide +kernel)
set_option maxRecDepth 20000 in
theorem gX4_findFault_X4_begin : GoodIn wsX4_findFault (wsV RX4 19 RX4 yX4_begin wsX4_begin) := goodIn_app (goodIn_of _ (by decide +kernel)) ggX4_findFault_X4_begin
set_option maxRecDepth 20000 in
theorem ggX4_findFault_X4_readOrder : GoodIn wsX4_findFault wsX4_readOrder := goodIn_r _ [11, 2, 1, 12, 13, 14, 15, 16, 17, 18, 19, 20, 21, 22, 23, 24, 25, 6, 26, 27, 28, 29, 30, 31, 32, 33, 34, 35, 36, 37, 38, 39, 44, 45, 46, 47, 48, 49, 50] (by decide +kernel) (by decide +kernel)
set_option maxRecDepth 20000 in
theorem gX4_findFault_X4_readOrder : GoodIn wsX4_findFault (wsV RX4 22 RX4 yX4_readOrder wsX4_readOrder) := goodIn_app (goodIn_of _ (by decide +kernel)) ggX4_findFault_X4_readOrder
set_option maxRecDepth 20000 in
theorem ggX4_findFault_X3_signAt : GoodIn wsX4_findFault wsX3_signAt := goodIn_r _ [17, 18, 19, 20, 21, 22, 49, 50] (by decide +kernel) (by decide +kernel)
set_option maxRecDepth 20000 in
theorem gX4_findFault_X3_signAt_n31 : GoodIn wsX4_findFault (wsX3_signAt) := ggX4_findFault_X3_signAt
set_option maxRecDepth 20000 in
theorem ggX4_findFault_X4_skipSemicolon : GoodIn wsX4_findFault wsX4_skipSemicolon := goodIn_r _ [43, 1, 44, 45, 46, 47, 48] (by decide +kernel) (by decide +kernel)
set_option maxRecDepth 20000 in
theorem gX4_findFault_X4_skipSemicolon : GoodIn wsX4_findFault (wsV RX4 35 RX4 yX4_skipSemicolon wsX4_skipSemicolon) := goodIn_app (goodIn_of _ (by decide +kernel)) ggX4_findFault_X4_skipSemicolon
theorem dX4_findFault_0 : decode cX4_findFault 0 = .ok (.aload_n 0, 1) := by decide +kernel
theorem dX4_findFault_1 : decode cX4_findFault 1 = .ok (.invokevirtual 19, 3) := by decide +kernel
theorem dX4_findFault_4 : decode cX4_findFault 4 = .ok (.aload_n 0, 1) := by decide +kernel
theorem dX4_findFault_5 : decode cX4_findFault 5 = .ok (.invokevirtual 22, 3) := by decide +kernel
theorem dX4_findFault_8 : decode cX4_findFault 8 = .ok (.istore_n 1, 1) := by decide +kernel
theorem dX4_findFault_9 : decode cX4_findFault 9 = .ok (.iload_n 1, 1) := by decide +kernel
theorem dX4_findFault_10 : decode cX4_findFault 10 = .ok (.ifCond .eq 45, 3) := by decide +kernel
theorem dX4_findFault_13 : decode cX4_findFault 13 = .ok (.aload_n 0, 1) := by decide +kernel
theorem dX4_findFault_14 : decode cX4_findFault 14 = .ok (.getfield 15, 3) := by decide +kernel
theorem dX4_findFault_17 : decode cX4_findFault 17 = .ok (.aload_n 0, 1) := by decide +kernel
theorem dX4_findFault_18 : decode cX4_findFault 18 = .ok (.getfield 9, 3) := by decide +kernel
theorem dX4_findFault_21 : decode cX4_findFault 21 = .ok (.getfield 26, 3) := by decide +kernel
theorem dX4_findFault_24 : decode cX4_findFault 24 = .ok (.if_icmp .ge 31, 3) := by decide +kernel
theorem dX4_findFault_27 : decode cX4_findFault 27 = .ok (.aload_n 0, 1) := by decide +kernel
theorem dX4_findFault_28 : decode cX4_findFault 28 = .ok (.getfield 9, 3) := by decide +kernel
theorem dX4_findFault_31 : decode cX4_findFault 31 = .ok (.aload_n 0, 1) := by decide +kernel
theorem dX4_findFault_32 : decode cX4_findFault 32 = .ok (.getfield 15, 3) := by decide +kernel
theorem dX4_findFault_35 : decode cX4_findFault 35 = .ok (.invokevirtual 31, 3) := by decide +kernel
theorem dX4_findFault_38 : decode cX4_findFault 38 = .ok (.bipush 59, 2) := by decide +kernel
theorem dX4_findFault_40 : decode cX4_findFault 40 = .ok (.if_icmp .ne 15, 3) := by decide +kernel
theorem dX4_findFault_43 : decode cX4_findFault 43 = .ok (.aload_n 0, 1) := by decide +kernel
theorem dX4_findFault_44 : decode cX4_findFault 44 = .ok (.invokevirtual 35, 3) := by decide +kernel
theorem dX4_findFault_47 : decode cX4_findFault 47 = .ok (.aload_n 0, 1) := by decide +kernel
theorem dX4_findFault_48 : decode cX4_findFault 48 = .ok (.invokevirtual 22, 3) := by decide +kernel
theorem dX4_findFault_51 : decode cX4_findFault 51 = .ok (.istore_n 1, 1) := by decide +kernel
theorem dX4_findFault_52 : decode cX4_findFault 52 = .ok (.goto (-43), 3) := by decide +kernel
theorem dX4_findFault_55 : decode cX4_findFault 55 = .ok (.iload_n 1, 1) := by decide +kernel
theorem dX4_findFault_56 : decode cX4_findFault 56 = .ok (.ifCond .eq 22, 3) := by decide +kernel
theorem dX4_findFault_59 : decode cX4_findFault 59 = .ok (.aload_n 0, 1) := by decide +kernel
theorem dX4_findFault_60 : decode cX4_findFault 60 = .ok (.getfield 15, 3) := by decide +kernel
theorem dX4_findFault_63 : decode cX4_findFault 63 = .ok (.aload_n 0, 1) := by decide +kernel
theorem dX4_findFault_64 : decode cX4_findFault 64 = .ok (.getfield 9, 3) := by decide +kernel
theorem dX4_findFault_67 : decode cX4_findFault 67 = .ok (.getfield 26, 3) := by decide +kernel
theorem dX4_findFault_70 : decode cX4_findFault 70 = .ok (.if_icmp .ne 8, 3) := by decide +kernel
theorem dX4_findFault_73 : decode cX4_findFault 73 = .ok (.bipush (-6), 2) := by decide +kernel
theorem dX4_findFault_75 : decode cX4_findFault 75 = .ok (.goto 7, 3) := by decide +kernel
theorem dX4_findFault_78 : decode cX4_findFault 78 = .ok (.aload_n 0, 1) := by decide +kernel
theorem dX4_findFault_79 : decode cX4_findFault 79 = .ok (.getfield 15, 3) := by decide +kernel
theorem dX4_findFault_82 : decode cX4_findFault 82 = .ok (.ireturn, 1) := by decide +kernel
theorem dX4_skipSemicolon_0 : decode cX4_skipSemicolon 0 = .ok (.aload_n 0, 1) := by decide +kernel
theorem dX4_skipSemicolon_1 : decode cX4_skipSemicolon 1 = .ok (.dup, 1) := by decide +kernel
theorem dX4_skipSemicolon_2 : decode cX4_skipSemicolon 2 = .ok (.getfield 15, 3) := by decide +kernel
theorem dX4_skipSemicolon_5 : decode cX4_skipSemicolon 5 = .ok (.iconst 1, 1) := by decide +kernel
theorem dX4_skipSemicolon_6 : decode cX4_skipSemicolon 6 = .ok (.iadd, 1) := by decide +kernel
theorem dX4_skipSemicolon_7 : decode cX4_skipSemicolon 7 = .ok (.putfield 15, 3) := by decide +kernel
theorem dX4_skipSemicolon_10 : decode cX4_skipSemicolon 10 = .ok (.return_, 1) := by decide +kernel
set_option maxRecDepth 20000 in
theorem ggX4_readOrder_X3_signAt : GoodIn wsX4_readOrder wsX3_signAt := goodIn_r _ [8, 9, 10, 11, 12, 13, 37, 38] (by decide +kernel) (by decide +kernel)
set_option maxRecDepth 20000 in
theorem gX4_readOrder_X3_signAt_n31 : GoodIn wsX4_readOrder (wsX3_signAt) := ggX4_readOrder_X3_signAt
set_option maxRecDepth 20000 in
theorem ggX4_readOrder_X4_readNumber : GoodIn wsX4_readOrder wsX4_readNumber := goodIn_r _ [18, 19, 20, 21, 22, 17, 23, 1, 2, 5, 6, 7, 8, 9, 10, 11, 12, 13, 24, 25, 26, 27, 32, 33, 34, 35, 36, 37, 38] (by decide +kernel) (by decide +kernel)
set_option maxRecDepth 20000 in
theorem gX4_readOrder_X4_readNumber : GoodIn wsX4_readOrder (wsV RX4 44 RX4 yX4_readNumber wsX4_readNumber) := goodIn_app (goodIn_of _ (by decide +kernel)) ggX4_readOrder_X4_readNumber
set_option maxRecDepth 20000 in
theorem ggX4_readOrder_X4_readMore : GoodIn wsX4_readOrder wsX4_readMore := goodIn_r _ [31, 2, 4, 20, 21, 22, 17, 23, 1, 5, 6, 7, 8, 9, 10, 11, 12, 13, 24, 25, 26, 27, 32, 33, 34, 35, 36, 37, 38] (by decide +kernel) (by decide +kernel)
set_option maxRecDepth 20000 in
theorem gX4_readOrder_X4_readMore : GoodIn wsX4_readOrder (wsV RX4 47 RX4 yX4_readMore wsX4_readMore) := goodIn_app (goodIn_of _ (by decide +kernel)) ggX4_readOrder_X4_readMore
theorem dX4_readOrder_0 : decode cX4_readOrder 0 = .ok (.aload_n 0, 1) := by decide +kernel
theorem dX4_readOrder_1 : decode cX4_readOrder 1 = .ok (.aload_n 0, 1) := by decide +kernel
theorem dX4_readOrder_2 : decode cX4_readOrder 2 = .ok (.getfield 9, 3) := by decide +kernel
theorem dX4_readOrder_5 : decode cX4_readOrder 5 = .ok (.aload_n 0, 1) := by decide +kernel
theorem dX4_readOrder_6 : decode cX4_readOrder 6 = .ok (.getfield 15, 3) := by decide +kernel
theorem dX4_readOrder_9 : decode cX4_readOrder 9 = .ok (.invokevirtual 31, 3) := by decide +kernel
theorem dX4_readOrder_12 : decode cX4_readOrder 12 = .ok (.putfield 38, 3) := by decide +kernel
theorem dX4_readOrder_15 : decode cX4_readOrder 15 = .ok (.aload_n 0, 1) := by decide +kernel
theorem dX4_readOrder_16 : decode cX4_readOrder 16 = .ok (.iconst 0, 1) := by decide +kernel
theorem dX4_readOrder_17 : decode cX4_readOrder 17 = .ok (.putfield 41, 3) := by decide +kernel
theorem dX4_readOrder_20 : decode cX4_readOrder 20 = .ok (.aload_n 0, 1) := by decide +kernel
theorem dX4_readOrder_21 : decode cX4_readOrder 21 = .ok (.getfield 38, 3) := by decide +kernel
theorem dX4_readOrder_24 : decode cX4_readOrder 24 = .ok (.bipush 114, 2) := by decide +kernel
theorem dX4_readOrder_26 : decode cX4_readOrder 26 = .ok (.if_icmp .eq 12, 3) := by decide +kernel
theorem dX4_readOrder_29 : decode cX4_readOrder 29 = .ok (.aload_n 0, 1) := by decide +kernel
theorem dX4_readOrder_30 : decode cX4_readOrder 30 = .ok (.getfield 38, 3) := by decide +kernel
theorem dX4_readOrder_33 : decode cX4_readOrder 33 = .ok (.bipush 119, 2) := by decide +kernel
theorem dX4_readOrder_35 : decode cX4_readOrder 35 = .ok (.if_icmp .ne 7, 3) := by decide +kernel
theorem dX4_readOrder_38 : decode cX4_readOrder 38 = .ok (.iconst 1, 1) := by decide +kernel
theorem dX4_readOrder_39 : decode cX4_readOrder 39 = .ok (.goto 4, 3) := by decide +kernel
theorem dX4_readOrder_42 : decode cX4_readOrder 42 = .ok (.iconst 0, 1) := by decide +kernel
theorem dX4_readOrder_43 : decode cX4_readOrder 43 = .ok (.istore_n 1, 1) := by decide +kernel
theorem dX4_readOrder_44 : decode cX4_readOrder 44 = .ok (.iload_n 1, 1) := by decide +kernel
theorem dX4_readOrder_45 : decode cX4_readOrder 45 = .ok (.ifCond .ne 23, 3) := by decide +kernel
theorem dX4_readOrder_48 : decode cX4_readOrder 48 = .ok (.aload_n 0, 1) := by decide +kernel
theorem dX4_readOrder_49 : decode cX4_readOrder 49 = .ok (.getfield 38, 3) := by decide +kernel
theorem dX4_readOrder_52 : decode cX4_readOrder 52 = .ok (.bipush 115, 2) := by decide +kernel
theorem dX4_readOrder_54 : decode cX4_readOrder 54 = .ok (.if_icmp .eq 14, 3) := by decide +kernel
theorem dX4_readOrder_57 : decode cX4_readOrder 57 = .ok (.aload_n 0, 1) := by decide +kernel
theorem dX4_readOrder_58 : decode cX4_readOrder 58 = .ok (.getfield 38, 3) := by decide +kernel
theorem dX4_readOrder_61 : decode cX4_readOrder 61 = .ok (.bipush 116, 2) := by decide +kernel
theorem dX4_readOrder_63 : decode cX4_readOrder 63 = .ok (.if_icmp .eq 5, 3) := by decide +kernel
theorem dX4_readOrder_66 : decode cX4_readOrder 66 = .ok (.iconst 0, 1) := by decide +kernel
theorem dX4_readOrder_67 : decode cX4_readOrder 67 = .ok (.ireturn, 1) := by decide +kernel
theorem dX4_readOrder_68 : decode cX4_readOrder 68 = .ok (.aload_n 0, 1) := by decide +kernel
theorem dX4_readOrder_69 : decode cX4_readOrder 69 = .ok (.dup, 1) := by decide +kernel
theorem dX4_readOrder_70 : decode cX4_readOrder 70 = .ok (.getfield 15, 3) := by decide +kernel
theorem dX4_readOrder_73 : decode cX4_readOrder 73 = .ok (.iconst 1, 1) := by decide +kernel
theorem dX4_readOrder_74 : decode cX4_readOrder 74 = .ok (.iadd, 1) := by decide +kernel
theorem dX4_readOrder_75 : decode cX4_readOrder 75 = .ok (.putfield 15, 3) := by decide +kernel
theorem dX4_readOrder_78 : decode cX4_readOrder 78 = .ok (.aload_n 0, 1) := by decide +kernel
theorem dX4_readOrder_79 : decode cX4_readOrder 79 = .ok (.invokevirtual 44, 3) := by decide +kernel
theorem dX4_readOrder_82 : decode cX4_readOrder 82 = .ok (.ifCond .ne 5, 3) := by decide +kernel
theorem dX4_readOrder_85 : decode cX4_readOrder 85 = .ok (.iconst 0, 1) := by decide +kernel
theorem dX4_readOrder_86 : decode cX4_readOrder 86 = .ok (.ireturn, 1) := by decide +kernel
theorem dX4_readOrder_87 : decode cX4_readOrder 87 = .ok (.iload_n 1, 1) := by decide +kernel
theorem dX4_readOrder_88 : decode cX4_readOrder 88 = .ok (.ifCond .eq 26, 3) := by decide +kernel
theorem dX4_readOrder_91 : decode cX4_readOrder 91 = .ok (.aload_n 0, 1) := by decide +kernel
theorem dX4_readOrder_92 : decode cX4_readOrder 92 = .ok (.getfield 9, 3) := by decide +kernel
theorem dX4_readOrder_95 : decode cX4_readOrder 95 = .ok (.aload_n 0, 1) := by decide +kernel
theorem dX4_readOrder_96 : decode cX4_readOrder 96 = .ok (.getfield 15, 3) := by decide +kernel
theorem dX4_readOrder_99 : decode cX4_readOrder 99 = .ok (.invokevirtual 31, 3) := by decide +kernel
theorem dX4_readOrder_102 : decode cX4_readOrder 102 = .ok (.bipush 43, 2) := by decide +kernel
theorem dX4_readOrder_104 : decode cX4_readOrder 104 = .ok (.if_icmp .ne 10, 3) := by decide +kernel
theorem dX4_readOrder_107 : decode cX4_readOrder 107 = .ok (.aload_n 0, 1) := by decide +kernel
theorem dX4_readOrder_108 : decode cX4_readOrder 108 = .ok (.invokevirtual 47, 3) := by decide +kernel
theorem dX4_readOrder_111 : decode cX4_readOrder 111 = .ok (.ifCond .eq 7, 3) := by decide +kernel
theorem dX4_readOrder_114 : decode cX4_readOrder 114 = .ok (.iconst 1, 1) := by decide +kernel
theorem dX4_readOrder_115 : decode cX4_readOrder 115 = .ok (.goto 4, 3) := by decide +kernel
theorem dX4_readOrder_118 : decode cX4_readOrder 118 = .ok (.iconst 0, 1) := by decide +kernel
theorem dX4_readOrder_119 : decode cX4_readOrder 119 = .ok (.ireturn, 1) := by decide +kernel
set_option maxRecDepth 20000 in
theorem ggX4_readNumber_X4_isDigitNext : GoodIn wsX4_readNumber wsX4_isDigitNext := goodIn_r _ [6, 7, 8, 9, 10, 11, 12, 13, 14, 15, 16, 17, 22, 23, 24, 25, 26, 27, 28] (by decide +kernel) (by decide +kernel)
set_option maxRecDepth 20000 in
theorem gX4_readNumber_X4_isDigitNext : GoodIn wsX4_readNumber (wsV RX4 50 RX4 yX4_isDigitNext wsX4_isDigitNext) := goodIn_app (goodIn_of _ (by decide +kernel)) ggX4_readNumber_X4_isDigitNext
set_option maxRecDepth 20000 in
theorem ggX4_readNumber_X4_takeDigit : GoodIn wsX4_readNumber wsX4_takeDigit := goodIn_r _ [21, 7, 8, 9, 10, 11, 12, 13, 14, 15, 16, 17, 22, 23, 24, 25, 26, 27, 28] (by decide +kernel) (by decide +kernel)
set_option maxRecDepth 20000 in
theorem gX4_readNumber_X4_takeDigit : GoodIn wsX4_readNumber (wsV RX4 53 RX4 yX4_takeDigit wsX4_takeDigit) := goodIn_app (goodIn_of _ (by decide +kernel)) ggX4_readNumber_X4_takeDigit
theorem dX4_readNumber_0 : decode cX4_readNumber 0 = .ok (.aload_n 0, 1) := by decide +kernel
theorem dX4_readNumber_1 : decode cX4_readNumber 1 = .ok (.invokevirtual 50, 3) := by decide +kernel
theorem dX4_readNumber_4 : decode cX4_readNumber 4 = .ok (.ifCond .ne 5, 3) := by decide +kernel
theorem dX4_readNumber_7 : decode cX4_readNumber 7 = .ok (.iconst 0, 1) := by decide +kernel
theorem dX4_readNumber_8 : decode cX4_readNumber 8 = .ok (.ireturn, 1) := by decide +kernel
theorem dX4_readNumber_9 : decode cX4_readNumber 9 = .ok (.aload_n 0, 1) := by decide +kernel
theorem dX4_readNumber_10 : decode cX4_readNumber 10 = .ok (.aload_n 0, 1) := by decide +kernel
theorem dX4_readNumber_11 : decode cX4_readNumber 11 = .ok (.invokevirtual 53, 3) := by decide +kernel
theorem dX4_readNumber_14 : decode cX4_readNumber 14 = .ok (.putfield 57, 3) := by decide +kernel
theorem dX4_readNumber_17 : decode cX4_readNumber 17 = .ok (.aload_n 0, 1) := by decide +kernel
theorem dX4_readNumber_18 : decode cX4_readNumber 18 = .ok (.getfield 57, 3) := by decide +kernel
theorem dX4_readNumber_21 : decode cX4_readNumber 21 = .ok (.ifCond .eq 26, 3) := by decide +kernel
theorem dX4_readNumber_24 : decode cX4_readNumber 24 = .ok (.aload_n 0, 1) := by decide +kernel
theorem dX4_readNumber_25 : decode cX4_readNumber 25 = .ok (.invokevirtual 50, 3) := by decide +kernel
theorem dX4_readNumber_28 : decode cX4_readNumber 28 = .ok (.ifCond .eq 19, 3) := by decide +kernel
theorem dX4_readNumber_31 : decode cX4_readNumber 31 = .ok (.aload_n 0, 1) := by decide +kernel
theorem dX4_readNumber_32 : decode cX4_readNumber 32 = .ok (.aload_n 0, 1) := by decide +kernel
theorem dX4_readNumber_33 : decode cX4_readNumber 33 = .ok (.getfield 57, 3) := by decide +kernel
theorem dX4_readNumber_36 : decode cX4_readNumber 36 = .ok (.bipush 10, 2) := by decide +kernel
theorem dX4_readNumber_38 : decode cX4_readNumber 38 = .ok (.imul, 1) := by decide +kernel
theorem dX4_readNumber_39 : decode cX4_readNumber 39 = .ok (.aload_n 0, 1) := by decide +kernel
theorem dX4_readNumber_40 : decode cX4_readNumber 40 = .ok (.invokevirtual 53, 3) := by decide +kernel
theorem dX4_readNumber_43 : decode cX4_readNumber 43 = .ok (.iadd, 1) := by decide +kernel
theorem dX4_readNumber_44 : decode cX4_readNumber 44 = .ok (.putfield 57, 3) := by decide +kernel
theorem dX4_readNumber_47 : decode cX4_readNumber 47 = .ok (.iconst 1, 1) := by decide +kernel
theorem dX4_readNumber_48 : decode cX4_readNumber 48 = .ok (.ireturn, 1) := by decide +kernel
set_option maxRecDepth 20000 in
theorem ggX4_readMore_X4_isDigitNext : GoodIn wsX4_readMore wsX4_isDigitNext := goodIn_r _ [7, 8, 1, 9, 10, 11, 12, 13, 14, 15, 16, 17, 22, 23, 24, 25, 26, 27, 28] (by decide +kernel) (by decide +kernel)
set_option maxRecDepth 20000 in
theorem gX4_readMore_X4_isDigitNext : GoodIn wsX4_readMore (wsV RX4 50 RX4 yX4_isDigitNext wsX4_isDigitNext) := goodIn_app (goodIn_of _ (by decide +kernel)) ggX4_readMore_X4_isDigitNext
set_option maxRecDepth 20000 in
theorem ggX4_readMore_X4_takeDigit : GoodIn wsX4_readMore wsX4_takeDigit := goodIn_r _ [21, 8, 1, 9, 10, 11, 12, 13, 14, 15, 16, 17, 22, 23, 24, 25, 26, 27, 28] (by decide +kernel) (by decide +kernel)
set_option maxRecDepth 20000 in
theorem gX4_readMore_X4_takeDigit : GoodIn wsX4_readMore (wsV RX4 53 RX4 yX4_takeDigit wsX4_takeDigit) := goodIn_app (goodIn_of _ (by decide +kernel)) ggX4_readMore_X4_takeDigit
theorem dX4_readMore_0 : decode cX4_readMore 0 = .ok (.aload_n 0, 1) := by decide +kernel
theorem dX4_readMore_1 : decode cX4_readMore 1 = .ok (.dup, 1) := by decide +kernel
theorem dX4_readMore_2 : decode cX4_readMore 2 = .ok (.getfield 15, 3) := by decide +kernel
theorem dX4_readMore_5 : decode cX4_readMore 5 = .ok (.iconst 1, 1) := by decide +kernel
theorem dX4_readMore_6 : decode cX4_readMore 6 = .ok (.iadd, 1) := by decide +kernel
theorem dX4_readMore_7 : decode cX4_readMore 7 = .ok (.putfield 15, 3) := by decide +kernel
theorem dX4_readMore_10 : decode cX4_readMore 10 = .ok (.aload_n 0, 1) := by decide +kernel
theorem dX4_readMore_11 : decode cX4_readMore 11 = .ok (.invokevirtual 50, 3) := by decide +kernel
theorem dX4_readMore_14 : decode cX4_readMore 14 = .ok (.ifCond .ne 5, 3) := by decide +kernel
theorem dX4_readMore_17 : decode cX4_readMore 17 = .ok (.iconst 0, 1) := by decide +kernel
theorem dX4_readMore_18 : decode cX4_readMore 18 = .ok (.ireturn, 1) := by decide +kernel
theorem dX4_readMore_19 : decode cX4_readMore 19 = .ok (.aload_n 0, 1) := by decide +kernel
theorem dX4_readMore_20 : decode cX4_readMore 20 = .ok (.aload_n 0, 1) := by decide +kernel
theorem dX4_readMore_21 : decode cX4_readMore 21 = .ok (.invokevirtual 53, 3) := by decide +kernel
theorem dX4_readMore_24 : decode cX4_readMore 24 = .ok (.putfield 41, 3) := by decide +kernel
theorem dX4_readMore_27 : decode cX4_readMore 27 = .ok (.iconst 1, 1) := by decide +kernel
theorem dX4_readMore_28 : decode cX4_readMore 28 = .ok (.ireturn, 1) := by decide +kernel
set_option maxRecDepth 20000 in
theorem ggX4_isDigitNext_X3_signAt : GoodIn wsX4_isDigitNext wsX3_signAt := goodIn_r _ [6, 7, 8, 9, 10, 11, 17, 18] (by decide +kernel) (by decide +kernel)
set_option maxRecDepth 20000 in
theorem gX4_isDigitNext_X3_signAt_n31 : GoodIn wsX4_isDigitNext (wsX3_signAt) := ggX4_isDigitNext_X3_signAt
theorem dX4_isDigitNext_0 : decode cX4_isDigitNext 0 = .ok (.aload_n 0, 1) := by decide +kernel
theorem dX4_isDigitNext_1 : decode cX4_isDigitNext 1 = .ok (.getfield 9, 3) := by decide +kernel
theorem dX4_isDigitNext_4 : decode cX4_isDigitNext 4 = .ok (.aload_n 0, 1) := by decide +kernel
theorem dX4_isDigitNext_5 : decode cX4_isDigitNext 5 = .ok (.getfield 15, 3) := by decide +kernel
theorem dX4_isDigitNext_8 : decode cX4_isDigitNext 8 = .ok (.invokevirtual 31, 3) := by decide +kernel
theorem dX4_isDigitNext_11 : decode cX4_isDigitNext 11 = .ok (.istore_n 1, 1) := by decide +kernel
theorem dX4_isDigitNext_12 : decode cX4_isDigitNext 12 = .ok (.iload_n 1, 1) := by decide +kernel
theorem dX4_isDigitNext_13 : decode cX4_isDigitNext 13 = .ok (.bipush 48, 2) := by decide +kernel
theorem dX4_isDigitNext_15 : decode cX4_isDigitNext 15 = .ok (.if_icmp .lt 13, 3) := by decide +kernel
theorem dX4_isDigitNext_18 : decode cX4_isDigitNext 18 = .ok (.iload_n 1, 1) := by decide +kernel
theorem dX4_isDigitNext_19 : decode cX4_isDigitNext 19 = .ok (.bipush 57, 2) := by decide +kernel
theorem dX4_isDigitNext_21 : decode cX4_isDigitNext 21 = .ok (.if_icmp .gt 7, 3) := by decide +kernel
theorem dX4_isDigitNext_24 : decode cX4_isDigitNext 24 = .ok (.iconst 1, 1) := by decide +kernel
theorem dX4_isDigitNext_25 : decode cX4_isDigitNext 25 = .ok (.goto 4, 3) := by decide +kernel
theorem dX4_isDigitNext_28 : decode cX4_isDigitNext 28 = .ok (.iconst 0, 1) := by decide +kernel
theorem dX4_isDigitNext_29 : decode cX4_isDigitNext 29 = .ok (.ireturn, 1) := by decide +kernel
set_option maxRecDepth 20000 in
theorem ggX4_takeDigit_X3_signAt : GoodIn wsX4_takeDigit wsX3_signAt := goodIn_r _ [6, 7, 8, 9, 10, 11, 17, 18] (by decide +kernel) (by decide +kernel)
set_option maxRecDepth 20000 in
theorem gX4_takeDigit_X3_signAt_n31 : GoodIn wsX4_takeDigit (wsX3_signAt) := ggX4_takeDigit_X3_signAt
theorem dX4_takeDigit_0 : decode cX4_takeDigit 0 = .ok (.aload_n 0, 1) := by decide +kernel
theorem dX4_takeDigit_1 : decode cX4_takeDigit 1 = .ok (.getfield 9, 3) := by decide +kernel
theorem dX4_takeDigit_4 : decode cX4_takeDigit 4 = .ok (.aload_n 0, 1) := by decide +kernel
theorem dX4_takeDigit_5 : decode cX4_takeDigit 5 = .ok (.getfield 15, 3) := by decide +kernel
theorem dX4_takeDigit_8 : decode cX4_takeDigit 8 = .ok (.invokevirtual 31, 3) := by decide +kernel
theorem dX4_takeDigit_11 : decode cX4_takeDigit 11 = .ok (.bipush 48, 2) := by decide +kernel
theorem dX4_takeDigit_13 : decode cX4_takeDigit 13 = .ok (.isub, 1) := by decide +kernel
theorem dX4_takeDigit_14 : decode cX4_takeDigit 14 = .ok (.istore_n 1, 1) := by decide +kernel
theorem dX4_takeDigit_15 : decode cX4_takeDigit 15 = .ok (.aload_n 0, 1) := by decide +kernel
theorem dX4_takeDigit_16 : decode cX4_takeDigit 16 = .ok (.dup, 1) := by decide +kernel
theorem dX4_takeDigit_17 : decode cX4_takeDigit 17 = .ok (.getfield 15, 3) := by decide +kernel
theorem dX4_takeDigit_20 : decode cX4_takeDigit 20 = .ok (.iconst 1, 1) := by decide +kernel
theorem dX4_takeDigit_21 : decode cX4_takeDigit 21 = .ok (.iadd, 1) := by decide +kernel
theorem dX4_takeDigit_22 : decode cX4_takeDigit 22 = .ok (.putfield 15, 3) := by decide +kernel
theorem dX4_takeDigit_25 : decode cX4_takeDigit 25 = .ok (.iload_n 1, 1) := by decide +kernel
theorem dX4_takeDigit_26 : decode cX4_takeDigit 26 = .ok (.ireturn, 1) := by decide +kernel
theorem dX5_init_0 : decode cX5_init 0 = .ok (.aload_n 0, 1) := by decide +kernel
theorem dX5_init_1 : decode cX5_init 1 = .ok (.invokespecial 1, 3) := by decide +kernel
theorem dX5_init_4 : decode cX5_init 4 = .ok (.aload_n 0, 1) := by decide +kernel
theorem dX5_init_5 : decode cX5_init 5 = .ok (.aload_n 1, 1) := by decide +kernel
theorem dX5_init_6 : decode cX5_init 6 = .ok (.putfield 7, 3) := by decide +kernel
theorem dX5_init_9 : decode cX5_init 9 = .ok (.return_, 1) := by decide +kernel
theorem dX5_copyFrom_0 : decode cX5_copyFrom 0 = .ok (.aload_n 0, 1) := by decide +kernel
theorem dX5_copyFrom_1 : decode cX5_copyFrom 1 = .ok (.aload_n 1, 1) := by decide +kernel
theorem dX5_copyFrom_2 : decode cX5_copyFrom 2 = .ok (.getfield 13, 3) := by decide +kernel
theorem dX5_copyFrom_5 : decode cX5_copyFrom 5 = .ok (.putfield 13, 3) := by decide +kernel
theorem dX5_copyFrom_8 : decode cX5_copyFrom 8 = .ok (.aload_n 0, 1) := by decide +kernel
theorem dX5_copyFrom_9 : decode cX5_copyFrom 9 = .ok (.aload_n 1, 1) := by decide +kernel
theorem dX5_copyFrom_10 : decode cX5_copyFrom 10 = .ok (.getfield 17, 3) := by decide +kernel
theorem dX5_copyFrom_13 : decode cX5_copyFrom 13 = .ok (.putfield 17, 3) := by decide +kernel
theorem dX5_copyFrom_16 : decode cX5_copyFrom 16 = .ok (.aload_n 0, 1) := by decide +kernel
theorem dX5_copyFrom_17 : decode cX5_copyFrom 17 = .ok (.aload_n 1, 1) := by decide +kernel
theorem dX5_copyFrom_18 : decode cX5_copyFrom 18 = .ok (.getfield 21, 3) := by decide +kernel
theorem dX5_copyFrom_21 : decode cX5_copyFrom 21 = .ok (.putfield 21, 3) := by decide +kernel
theorem dX5_copyFrom_24 : decode cX5_copyFrom 24 = .ok (.aload_n 0, 1) := by decide +kernel
theorem dX5_copyFrom_25 : decode cX5_copyFrom 25 = .ok (.aload_n 1, 1) := by decide +kernel
theorem dX5_copyFrom_26 : decode cX5_copyFrom 26 = .ok (.getfield 24, 3) := by decide +kernel
theorem dX5_copyFrom_29 : decode cX5_copyFrom 29 = .ok (.putfield 24, 3) := by decide +kernel
theorem dX5_copyFrom_32 : decode cX5_copyFrom 32 = .ok (.aload_n 0, 1) := by decide +kernel
theorem dX5_copyFrom_33 : decode cX5_copyFrom 33 = .ok (.aload_n 1, 1) := by decide +kernel
theorem dX5_copyFrom_34 : decode cX5_copyFrom 34 = .ok (.getfield 27, 3) := by decide +kernel
theorem dX5_copyFrom_37 : decode cX5_copyFrom 37 = .ok (.putfield 27, 3) := by decide +kernel
theorem dX5_copyFrom_40 : decode cX5_copyFrom 40 = .ok (.aload_n 0, 1) := by decide +kernel
theorem dX5_copyFrom_41 : decode cX5_copyFrom 41 = .ok (.aload_n 1, 1) := by decide +kernel
theorem dX5_copyFrom_42 : decode cX5_copyFrom 42 = .ok (.getfield 30, 3) := by decide +kernel
theorem dX5_copyFrom_45 : decode cX5_copyFrom 45 = .ok (.putfield 30, 3) := by decide +kernel
theorem dX5_copyFrom_48 : decode cX5_copyFrom 48 = .ok (.aload_n 0, 1) := by decide +kernel
theorem dX5_copyFrom_49 : decode cX5_copyFrom 49 = .ok (.aload_n 1, 1) := by decide +kernel
theorem dX5_copyFrom_50 : decode cX5_copyFrom 50 = .ok (.getfield 33, 3) := by decide +kernel
theorem dX5_copyFrom_53 : decode cX5_copyFrom 53 = .ok (.putfield 33, 3) := by decide +kernel
theorem dX5_copyFrom_56 : decode cX5_copyFrom 56 = .ok (.return_, 1) := by decide +kernel
theorem dX5_last_0 : decode cX5_last 0 = .ok (.aload_n 0, 1) := by decide +kernel
theorem dX5_last_1 : decode cX5_last 1 = .ok (.getfield 24, 3) := by decide +kernel
theorem dX5_last_4 : decode cX5_last 4 = .ok (.aload_n 0, 1) := by decide +kernel
theorem dX5_last_5 : decode cX5_last 5 = .ok (.getfield 27, 3) := by decide +kernel
theorem dX5_last_8 : decode cX5_last 8 = .ok (.iadd, 1) := by decide +kernel
theorem dX5_last_9 : decode cX5_last 9 = .ok (.iconst 1, 1) := by decide +kernel
theorem dX5_last_10 : decode cX5_last 10 = .ok (.isub, 1) := by decide +kernel
theorem dX5_last_11 : decode cX5_last 11 = .ok (.ireturn, 1) := by decide +kernel
theorem dX5_isOfSort_0 : decode cX5_isOfSort 0 = .ok (.aload_n 0, 1) := by decide +kernel
theorem dX5_isOfSort_1 : decode cX5_isOfSort 1 = .ok (.getfield 13, 3) := by decide +kernel
theorem dX5_isOfSort_4 : decode cX5_isOfSort 4 = .ok (.ifCond .eq 15, 3) := by decide +kernel
theorem dX5_isOfSort_7 : decode cX5_isOfSort 7 = .ok (.aload_n 0, 1) := by decide +kernel
theorem dX5_isOfSort_8 : decode cX5_isOfSort 8 = .ok (.getfield 21, 3) := by decide +kernel
theorem dX5_isOfSort_11 : decode cX5_isOfSort 11 = .ok (.iload_n 1, 1) := by decide +kernel
theorem dX5_isOfSort_12 : decode cX5_isOfSort 12 = .ok (.if_icmp .ne 7, 3) := by decide +kernel
theorem dX5_isOfSort_15 : decode cX5_isOfSort 15 = .ok (.iconst 1, 1) := by decide +kernel
theorem dX5_isOfSort_16 : decode cX5_isOfSort 16 = .ok (.goto 4, 3) := by decide +kernel
theorem dX5_isOfSort_19 : decode cX5_isOfSort 19 = .ok (.iconst 0, 1) := by decide +kernel
theorem dX5_isOfSort_20 : decode cX5_isOfSort 20 = .ok (.ireturn, 1) := by decide +kernel
theorem dX5_isAheadOf_0 : decode cX5_isAheadOf 0 = .ok (.aload_n 0, 1) := by decide +kernel
theorem dX5_isAheadOf_1 : decode cX5_isAheadOf 1 = .ok (.getfield 24, 3) := by decide +kernel
theorem dX5_isAheadOf_4 : decode cX5_isAheadOf 4 = .ok (.aload_n 1, 1) := by decide +kernel
theorem dX5_isAheadOf_5 : decode cX5_isAheadOf 5 = .ok (.getfield 24, 3) := by decide +kernel
theorem dX5_isAheadOf_8 : decode cX5_isAheadOf 8 = .ok (.if_icmp .lt 25, 3) := by decide +kernel
theorem dX5_isAheadOf_11 : decode cX5_isAheadOf 11 = .ok (.aload_n 0, 1) := by decide +kernel
theorem dX5_isAheadOf_12 : decode cX5_isAheadOf 12 = .ok (.getfield 24, 3) := by decide +kernel
theorem dX5_isAheadOf_15 : decode cX5_isAheadOf 15 = .ok (.aload_n 1, 1) := by decide +kernel
theorem dX5_isAheadOf_16 : decode cX5_isAheadOf 16 = .ok (.getfield 24, 3) := by decide +kernel
theorem dX5_isAheadOf_19 : decode cX5_isAheadOf 19 = .ok (.if_icmp .ne 18, 3) := by decide +kernel
theorem dX5_isAheadOf_22 : decode cX5_isAheadOf 22 = .ok (.aload_n 0, 1) := by decide +kernel
theorem dX5_isAheadOf_23 : decode cX5_isAheadOf 23 = .ok (.getfield 17, 3) := by decide +kernel
theorem dX5_isAheadOf_26 : decode cX5_isAheadOf 26 = .ok (.aload_n 1, 1) := by decide +kernel
theorem dX5_isAheadOf_27 : decode cX5_isAheadOf 27 = .ok (.getfield 17, 3) := by decide +kernel
theorem dX5_isAheadOf_30 : decode cX5_isAheadOf 30 = .ok (.if_icmp .ge 7, 3) := by decide +kernel
theorem dX5_isAheadOf_33 : decode cX5_isAheadOf 33 = .ok (.iconst 1, 1) := by decide +kernel
theorem dX5_isAheadOf_34 : decode cX5_isAheadOf 34 = .ok (.goto 4, 3) := by decide +kernel
theorem dX5_isAheadOf_37 : decode cX5_isAheadOf 37 = .ok (.iconst 0, 1) := by decide +kernel
theorem dX5_isAheadOf_38 : decode cX5_isAheadOf 38 = .ok (.ireturn, 1) := by decide +kernel
set_option maxRecDepth 20000 in
theorem ggX6_init_X0_init : GoodIn wsX6_init wsX0_init := goodIn_r _ [9, 10, 2, 3, 11, 12, 13, 14, 15, 16, 17, 18, 19, 20, 21, 22, 23, 24, 25, 26, 27, 28, 29, 30, 31, 32, 33, 34, 35, 36, 37, 38, 39, 40, 41, 42, 43, 44, 45, 46, 47, 50, 51, 52, 53, 54, 55, 56, 57, 58, 59, 60, 61] (by decide +kernel) (by decide +kernel)
set_option maxRecDepth 20000 in
theorem gX6_init_X0_init_n9 : GoodIn wsX6_init (wsX0_init) := ggX6_init_X0_init
theorem dX6_init_0 : decode cX6_init 0 = .ok (.aload_n 0, 1) := by decide +kernel
theorem dX6_init_1 : decode cX6_init 1 = .ok (.invokespecial 1, 3) := by decide +kernel
theorem dX6_init_4 : decode cX6_init 4 = .ok (.aload_n 0, 1) := by decide +kernel
theorem dX6_init_5 : decode cX6_init 5 = .ok (.new 7, 3) := by decide +kernel
theorem dX6_init_8 : decode cX6_init 8 = .ok (.dup, 1) := by decide +kernel
theorem dX6_init_9 : decode cX6_init 9 = .ok (.invokespecial 9, 3) := by decide +kernel
theorem dX6_init_12 : decode cX6_init 12 = .ok (.putfield 10, 3) := by decide +kernel
theorem dX6_init_15 : decode cX6_init 15 = .ok (.return_, 1) := by decide +kernel
set_option maxRecDepth 20000 in
theorem ggX7_init_X0_init : GoodIn wsX7_init wsX0_init := goodIn_r _ [27, 28, 2, 3, 29, 30, 31, 32, 33, 34, 35, 36, 37, 38, 39, 40, 41, 42, 43, 44, 45, 46, 47, 48, 49, 50, 51, 70, 71, 72, 73, 74, 75, 76, 77, 78, 79, 80, 81, 82, 83, 103, 104, 105, 106, 107, 108, 109, 110, 111, 112, 113, 114] (by decide +kernel) (by decide +kernel)
set_option maxRecDepth 20000 in
theorem gX7_init_X0_init_n9 : GoodIn wsX7_init (wsX0_init) := ggX7_init_X0_init
set_option maxRecDepth 20000 in
theorem ggX7_init_X1_init : GoodIn wsX7_init wsX1_init := goodIn_r _ [53, 54, 2, 3, 55, 56, 5, 6, 26, 27, 28, 29, 30, 31, 32, 33, 34, 35, 36, 37, 38, 39, 40, 41, 42, 43, 44, 45, 46, 47, 48, 49, 50, 51, 91, 92, 93, 70, 71, 72, 73, 74, 75, 76, 77, 78, 79, 80, 81, 82, 83, 103, 104, 105, 106, 107, 108, 109, 110, 111, 112, 113, 114] (by decide +kernel) (by decide +kernel)
set_option maxRecDepth 20000 in
theorem gX7_init_X1_init_n21 : GoodIn wsX7_init (wsX1_init) := ggX7_init_X1_init
set_option maxRecDepth 20000 in
theorem ggX7_init_X6_init : GoodIn wsX7_init wsX6_init := goodIn_r _ [58, 59, 2, 3, 60, 5, 6, 61, 26, 27, 28, 29, 30, 31, 32, 33, 34, 35, 36, 37, 38, 39, 40, 41, 42, 43, 44, 45, 46, 47, 48, 49, 50, 51, 70, 71, 72, 73, 74, 75, 76, 77, 78, 79, 80, 81, 82, 83, 94, 95, 103, 104, 105, 106, 107, 108, 109, 110, 111, 112, 113, 114] (by decide +kernel) (by decide +kernel)
set_option maxRecDepth 20000 in
theorem gX7_init_X6_init_n28 : GoodIn wsX7_init (wsX6_init) := ggX7_init_X6_init
set_option maxRecDepth 20000 in
theorem ggX7_init_X3_init : GoodIn wsX7_init wsX3_init := goodIn_r _ [63, 64, 2, 3, 29, 65, 96, 97] (by decide +kernel) (by decide +kernel)
set_option maxRecDepth 20000 in
theorem gX7_init_X3_init_n38 : GoodIn wsX7_init (wsX3_init) := ggX7_init_X3_init
set_option maxRecDepth 20000 in
theorem ggX7_init_X4_init : GoodIn wsX7_init wsX4_init := goodIn_r _ [67, 68, 2, 3, 69, 98, 99, 100, 101, 102] (by decide +kernel) (by decide +kernel)
set_option maxRecDepth 20000 in
theorem gX7_init_X4_init_n45 : GoodIn wsX7_init (wsX4_init) := ggX7_init_X4_init
theorem dX7_init_0 : decode cX7_init 0 = .ok (.aload_n 0, 1) := by decide +kernel
theorem dX7_init_1 : decode cX7_init 1 = .ok (.invokespecial 1, 3) := by decide +kernel
theorem dX7_init_4 : decode cX7_init 4 = .ok (.aload_n 0, 1) := by decide +kernel
theorem dX7_init_5 : decode cX7_init 5 = .ok (.new 7, 3) := by decide +kernel
theorem dX7_init_8 : decode cX7_init 8 = .ok (.dup, 1) := by decide +kernel
theorem dX7_init_9 : decode cX7_init 9 = .ok (.invokespecial 9, 3) := by decide +kernel
theorem dX7_init_12 : decode cX7_init 12 = .ok (.putfield 10, 3) := by decide +kernel
theorem dX7_init_15 : decode cX7_init 15 = .ok (.aload_n 0, 1) := by decide +kernel
theorem dX7_init_16 : decode cX7_init 16 = .ok (.new 7, 3) := by decide +kernel
theorem dX7_init_19 : decode cX7_init 19 = .ok (.dup, 1) := by decide +kernel
theorem dX7_init_20 : decode cX7_init 20 = .ok (.invokespecial 9, 3) := by decide +kernel
theorem dX7_init_23 : decode cX7_init 23 = .ok (.putfield 16, 3) := by decide +kernel
theorem dX7_init_26 : decode cX7_init 26 = .ok (.aload_n 0, 1) := by decide +kernel
theorem dX7_init_27 : decode cX7_init 27 = .ok (.new 19, 3) := by decide +kernel
theorem dX7_init_30 : decode cX7_init 30 = .ok (.dup, 1) := by decide +kernel
theorem dX7_init_31 : decode cX7_init 31 = .ok (.invokespecial 21, 3) := by decide +kernel
theorem dX7_init_34 : decode cX7_init 34 = .ok (.putfield 22, 3) := by decide +kernel
theorem dX7_init_37 : decode cX7_init 37 = .ok (.aload_n 0, 1) := by decide +kernel
theorem dX7_init_38 : decode cX7_init 38 = .ok (.new 26, 3) := by decide +kernel
theorem dX7_init_41 : decode cX7_init 41 = .ok (.dup, 1) := by decide +kernel
theorem dX7_init_42 : decode cX7_init 42 = .ok (.invokespecial 28, 3) := by decide +kernel
theorem dX7_init_45 : decode cX7_init 45 = .ok (.putfield 29, 3) := by decide +kernel
theorem dX7_init_48 : decode cX7_init 48 = .ok (.aload_n 0, 1) := by decide +kernel
theorem dX7_init_49 : decode cX7_init 49 = .ok (.new 26, 3) := by decide +kernel
theorem dX7_init_52 : decode cX7_init 52 = .ok (.dup, 1) := by decide +kernel
theorem dX7_init_53 : decode cX7_init 53 = .ok (.invokespecial 28, 3) := by decide +kernel
theorem dX7_init_56 : decode cX7_init 56 = .ok (.putfield 33, 3) := by decide +kernel
theorem dX7_init_59 : decode cX7_init 59 = .ok (.aload_n 0, 1) := by decide +kernel
theorem dX7_init_60 : decode cX7_init 60 = .ok (.new 36, 3) := by decide +kernel
theorem dX7_init_63 : decode cX7_init 63 = .ok (.dup, 1) := by decide +kernel
theorem dX7_init_64 : decode cX7_init 64 = .ok (.invokespecial 38, 3) := by decide +kernel
theorem dX7_init_67 : decode cX7_init 67 = .ok (.putfield 39, 3) := by decide +kernel
theorem dX7_init_70 : decode cX7_init 70 = .ok (.aload_n 0, 1) := by decide +kernel
theorem dX7_init_71 : decode cX7_init 71 = .ok (.new 43, 3) := by decide +kernel
theorem dX7_init_74 : decode cX7_init 74 = .ok (.dup, 1) := by decide +kernel
theorem dX7_init_75 : decode cX7_init 75 = .ok (.aload_n 0, 1) := by decide +kernel
theorem dX7_init_76 : decode cX7_init 76 = .ok (.getfield 39, 3) := by decide +kernel
theorem dX7_init_79 : decode cX7_init 79 = .ok (.invokespecial 45, 3) := by decide +kernel
theorem dX7_init_82 : decode cX7_init 82 = .ok (.putfield 48, 3) := by decide +kernel
theorem dX7_init_85 : decode cX7_init 85 = .ok (.return_, 1) := by decide +kernel
set_option maxRecDepth 20000 in
theorem ggX7_set_X1_prepare : GoodIn wsX7_set wsX1_prepare := goodIn_r _ [6, 7, 8, 9, 10, 4, 11, 12, 13, 14, 15, 16, 17, 18, 19, 20, 21, 22, 23, 24, 25, 26, 27, 28, 29, 30, 31, 32, 33, 34, 35, 36, 37, 38, 39, 40, 41, 42, 43, 44, 45, 46, 47, 48, 49, 50, 51, 52, 79, 80, 81, 82, 83, 84, 85, 86, 87, 88, 89, 90, 91, 92, 93, 94, 95, 96, 97, 98, 99, 100, 101, 102, 103, 104, 105, 106, 107] (by decide +kernel) (by decide +kernel)
set_option maxRecDepth 20000 in
theorem gX7_set_X1_prepare_n52 : GoodIn wsX7_set (wsX1_prepare) := ggX7_set_X1_prepare
set_option maxRecDepth 20000 in
theorem ggX7_set_X0_adjust : GoodIn wsX7_set wsX0_adjust := goodIn_r _ [55, 17, 56, 32, 57, 58, 59, 82, 83, 84, 85, 86, 87, 88, 89, 90, 91, 92, 93, 94, 95] (by decide +kernel) (by decide +kernel)
set_option maxRecDepth 20000 in
theorem gX7_set_X0_adjust_n56 : GoodIn wsX7_set (wsX0_adjust) := ggX7_set_X0_adjust
set_option maxRecDepth 20000 in
theorem ggX7_set_X7_settled : GoodIn wsX7_set wsX7_settled := goodIn_r _ [63, 1, 64, 4, 65, 66, 7, 67, 68, 69, 70, 71, 72, 73, 74, 75, 76, 77, 78, 79, 80, 81] (by decide +kernel) (by decide +kernel)
set_option maxRecDepth 20000 in
theorem gX7_set_X7_settled : GoodIn wsX7_set (wsV RX7 60 RX7 yX7_settled wsX7_settled) := goodIn_app (goodIn_of _ (by decide +kernel)) ggX7_set_X7_settled
theorem dX7_set_0 : decode cX7_set 0 = .ok (.aload_n 0, 1) := by decide +kernel
theorem dX7_set_1 : decode cX7_set 1 = .ok (.getfield 22, 3) := by decide +kernel
theorem dX7_set_4 : decode cX7_set 4 = .ok (.aload_n 0, 1) := by decide +kernel
theorem dX7_set_5 : decode cX7_set 5 = .ok (.getfield 10, 3) := by decide +kernel
theorem dX7_set_8 : decode cX7_set 8 = .ok (.invokevirtual 52, 3) := by decide +kernel
theorem dX7_set_11 : decode cX7_set 11 = .ok (.aload_n 0, 1) := by decide +kernel
theorem dX7_set_12 : decode cX7_set 12 = .ok (.aload_n 0, 1) := by decide +kernel
theorem dX7_set_13 : decode cX7_set 13 = .ok (.getfield 10, 3) := by decide +kernel
theorem dX7_set_16 : decode cX7_set 16 = .ok (.iload_n 1, 1) := by decide +kernel
theorem dX7_set_17 : decode cX7_set 17 = .ok (.iload_n 2, 1) := by decide +kernel
theorem dX7_set_18 : decode cX7_set 18 = .ok (.invokevirtual 56, 3) := by decide +kernel
theorem dX7_set_21 : decode cX7_set 21 = .ok (.invokevirtual 60, 3) := by decide +kernel
theorem dX7_set_24 : decode cX7_set 24 = .ok (.ireturn, 1) := by decide +kernel
set_option maxRecDepth 20000 in
theorem ggX7_slip_X1_prepare : GoodIn wsX7_slip wsX1_prepare := goodIn_r _ [6, 7, 8, 9, 10, 4, 11, 12, 13, 14, 15, 16, 17, 18, 19, 20, 21, 22, 23, 24, 25, 26, 27, 28, 29, 30, 31, 32, 33, 34, 35, 36, 37, 38, 39, 40, 41, 42, 43, 44, 45, 46, 47, 48, 49, 50, 51, 52, 95, 96, 97, 98, 99, 100, 101, 102, 103, 104, 105, 106, 107, 108, 109, 110, 111, 112, 113, 114, 115, 116, 117, 118, 119, 120, 121, 122, 123] (by decide +kernel) (by decide +kernel)
set_option maxRecDepth 20000 in
theorem gX7_slip_X1_prepare_n52 : GoodIn wsX7_slip (wsX1_prepare) := ggX7_slip_X1_prepare
set_option maxRecDepth 20000 in
theorem ggX7_slip_X0_accept : GoodIn wsX7_slip wsX0_accept := goodIn_r _ [55, 22, 23, 56, 32, 57, 58, 59, 60, 14, 61, 18, 62, 35, 63, 64, 38, 40, 65, 66, 67, 41, 42, 68, 69, 70, 71, 72, 73, 74, 75, 21, 20, 112, 113, 114, 115, 116, 117, 118, 119, 98, 99, 100, 101, 102, 103, 104, 105, 106, 107, 108, 109, 110, 111] (by decide +kernel) (by decide +kernel)
set_option maxRecDepth 20000 in
theorem gX7_slip_X0_accept_n64 : GoodIn wsX7_slip (wsX0_accept) := ggX7_slip_X0_accept
set_option maxRecDepth 20000 in
theorem ggX7_slip_X7_settled : GoodIn wsX7_slip wsX7_settled := goodIn_r _ [79, 1, 80, 4, 81, 82, 7, 83, 84, 85, 86, 87, 88, 89, 90, 91, 92, 93, 94, 95, 96, 97] (by decide +kernel) (by decide +kernel)
set_option maxRecDepth 20000 in
theorem gX7_slip_X7_settled : GoodIn wsX7_slip (wsV RX7 60 RX7 yX7_settled wsX7_settled) := goodIn_app (goodIn_of _ (by decide +kernel)) ggX7_slip_X7_settled
theorem dX7_slip_0 : decode cX7_slip 0 = .ok (.aload_n 0, 1) := by decide +kernel
theorem dX7_slip_1 : decode cX7_slip 1 = .ok (.getfield 22, 3) := by decide +kernel
theorem dX7_slip_4 : decode cX7_slip 4 = .ok (.aload_n 0, 1) := by decide +kernel
theorem dX7_slip_5 : decode cX7_slip 5 = .ok (.getfield 10, 3) := by decide +kernel
theorem dX7_slip_8 : decode cX7_slip 8 = .ok (.invokevirtual 52, 3) := by decide +kernel
theorem dX7_slip_11 : decode cX7_slip 11 = .ok (.aload_n 0, 1) := by decide +kernel
theorem dX7_slip_12 : decode cX7_slip 12 = .ok (.aload_n 0, 1) := by decide +kernel
theorem dX7_slip_13 : decode cX7_slip 13 = .ok (.getfield 10, 3) := by decide +kernel
theorem dX7_slip_16 : decode cX7_slip 16 = .ok (.iload_n 1, 1) := by decide +kernel
theorem dX7_slip_17 : decode cX7_slip 17 = .ok (.iload_n 2, 1) := by decide +kernel
theorem dX7_slip_18 : decode cX7_slip 18 = .ok (.iload_n 3, 1) := by decide +kernel
theorem dX7_slip_19 : decode cX7_slip 19 = .ok (.invokevirtual 64, 3) := by decide +kernel
theorem dX7_slip_22 : decode cX7_slip 22 = .ok (.invokevirtual 60, 3) := by decide +kernel
theorem dX7_slip_25 : decode cX7_slip 25 = .ok (.ireturn, 1) := by decide +kernel
set_option maxRecDepth 20000 in
theorem ggX7_tear_X1_prepare : GoodIn wsX7_tear wsX1_prepare := goodIn_r _ [6, 7, 8, 9, 10, 4, 11, 12, 13, 14, 15, 16, 17, 18, 19, 20, 21, 22, 23, 24, 25, 26, 27, 28, 29, 30, 31, 32, 33, 34, 35, 36, 37, 38, 39, 40, 41, 42, 43, 44, 45, 46, 47, 48, 49, 50, 51, 52, 91, 92, 93, 94, 95, 96, 97, 98, 99, 100, 101, 102, 103, 104, 105, 106, 107, 108, 109, 110, 111, 112, 113, 114, 115, 116, 117, 118, 119] (by decide +kernel) (by decide +kernel)
set_option maxRecDepth 20000 in
theorem gX7_tear_X1_prepare_n52 : GoodIn wsX7_tear (wsX1_prepare) := ggX7_tear_X1_prepare
set_option maxRecDepth 20000 in
theorem ggX7_tear_X0_tearUp : GoodIn wsX7_tear wsX0_tearUp := goodIn_r _ [55, 56, 57, 58, 14, 59, 18, 60, 61, 62, 63, 64, 65, 66, 67, 21, 20, 68, 69, 70, 71, 23, 94, 95, 96, 97, 98, 99, 100, 101, 102, 103, 104, 105, 106, 107, 108, 109, 110, 111, 112, 113, 114, 115] (by decide +kernel) (by decide +kernel)
set_option maxRecDepth 20000 in
theorem gX7_tear_X0_tearUp_n68 : GoodIn wsX7_tear (wsX0_tearUp) := ggX7_tear_X0_tearUp
set_option maxRecDepth 20000 in
theorem ggX7_tear_X7_settled : GoodIn wsX7_tear wsX7_settled := goodIn_r _ [75, 1, 76, 4, 77, 78, 7, 79, 80, 81, 82, 83, 84, 85, 86, 87, 88, 89, 90, 91, 92, 93] (by decide +kernel) (by decide +kernel)
set_option maxRecDepth 20000 in
theorem gX7_tear_X7_settled : GoodIn wsX7_tear (wsV RX7 60 RX7 yX7_settled wsX7_settled) := goodIn_app (goodIn_of _ (by decide +kernel)) ggX7_tear_X7_settled
theorem dX7_tear_0 : decode cX7_tear 0 = .ok (.aload_n 0, 1) := by decide +kernel
theorem dX7_tear_1 : decode cX7_tear 1 = .ok (.getfield 22, 3) := by decide +kernel
theorem dX7_tear_4 : decode cX7_tear 4 = .ok (.aload_n 0, 1) := by decide +kernel
theorem dX7_tear_5 : decode cX7_tear 5 = .ok (.getfield 10, 3) := by decide +kernel
theorem dX7_tear_8 : decode cX7_tear 8 = .ok (.invokevirtual 52, 3) := by decide +kernel
theorem dX7_tear_11 : decode cX7_tear 11 = .ok (.aload_n 0, 1) := by decide +kernel
theorem dX7_tear_12 : decode cX7_tear 12 = .ok (.aload_n 0, 1) := by decide +kernel
theorem dX7_tear_13 : decode cX7_tear 13 = .ok (.getfield 10, 3) := by decide +kernel
theorem dX7_tear_16 : decode cX7_tear 16 = .ok (.iload_n 1, 1) := by decide +kernel
theorem dX7_tear_17 : decode cX7_tear 17 = .ok (.invokevirtual 68, 3) := by decide +kernel
theorem dX7_tear_20 : decode cX7_tear 20 = .ok (.invokevirtual 60, 3) := by decide +kernel
theorem dX7_tear_23 : decode cX7_tear 23 = .ok (.ireturn, 1) := by decide +kernel
set_option maxRecDepth 20000 in
theorem ggX7_serve_X1_prepare : GoodIn wsX7_serve wsX1_prepare := goodIn_r _ [6, 7, 8, 9, 10, 4, 11, 12, 13, 14, 15, 16, 17, 18, 19, 20, 21, 22, 23, 24, 25, 26, 27, 28, 29, 30, 31, 32, 33, 34, 35, 36, 37, 38, 39, 40, 41, 42, 43, 44, 45, 46, 47, 48, 49, 50, 51, 52, 156, 157, 158, 159, 160, 161, 162, 163, 164, 165, 166, 167, 168, 169, 170, 171, 172, 173, 174, 175, 176, 177, 178, 179, 180, 181, 182, 183, 184] (by decide +kernel) (by decide +kernel)
set_option maxRecDepth 20000 in
theorem gX7_serve_X1_prepare_n52 : GoodIn wsX7_serve (wsX1_prepare) := ggX7_serve_X1_prepare
set_option maxRecDepth 20000 in
theorem ggX7_serve_X7_serveSlips : GoodIn wsX7_serve wsX7_serveSlips := goodIn_r _ [56, 2, 57, 58, 59, 60, 61, 62, 63, 14, 64, 65, 20, 21, 13, 15, 16, 17, 18, 19, 22, 23, 24, 25, 26, 27, 28, 29, 30, 31, 32, 33, 34, 35, 36, 37, 38, 39, 40, 41, 42, 43, 44, 45, 46, 47, 48, 49, 50, 51, 52, 66, 67, 68, 69, 70, 71, 72, 73, 74, 75, 76, 77, 78, 79, 80, 81, 82, 83, 84, 85, 86, 87, 88, 89, 90, 91, 92, 93, 94, 95, 96, 97, 98, 99, 100, 101, 102, 103, 104, 105, 106, 107, 108, 109, 110, 111, 112, 113, 114, 115, 116, 117, 118, 119, 120, 121, 122, 123, 124, 125, 126, 127, 128, 129, 130, 131, 132, 133, 134, 135, 136, 137, 138, 139, 149, 150, 151, 152, 153, 154, 155, 159, 160, 161, 162, 163, 164, 165, 166, 167, 168, 169, 170, 171, 172, 173, 174, 175, 176, 177, 178, 179, 180, 181, 182, 183, 184] (by decide +kernel) (by decide +kernel)
set_option maxRecDepth 20000 in
theorem gX7_serve_X7_serveSlips : GoodIn wsX7_serve (wsV RX7 71 RX7 yX7_serveSlips wsX7_serveSlips) := goodIn_app (goodIn_of _ (by decide +kernel)) ggX7_serve_X7_serveSlips
set_option maxRecDepth 20000 in
theorem ggX7_serve_X7_settled : GoodIn wsX7_serve wsX7_settled := goodIn_r _ [143, 1, 144, 4, 145, 146, 7, 147, 148, 58, 59, 60, 149, 150, 151, 152, 153, 154, 155, 156, 157, 158] (by decide +kernel) (by decide +kernel)
set_option maxRecDepth 20000 in
theorem gX7_serve_X7_settled : GoodIn wsX7_serve (wsV RX7 60 RX7 yX7_settled wsX7_settled) := goodIn_app (goodIn_of _ (by decide +kernel)) ggX7_serve_X7_settled
theorem dX7_serve_0 : decode cX7_serve 0 = .ok (.aload_n 0, 1) := by decide +kernel
theorem dX7_serve_1 : decode cX7_serve 1 = .ok (.getfield 22, 3) := by decide +kernel
theorem dX7_serve_4 : decode cX7_serve 4 = .ok (.aload_n 0, 1) := by decide +kernel
theorem dX7_serve_5 : decode cX7_serve 5 = .ok (.getfield 10, 3) := by decide +kernel
theorem dX7_serve_8 : decode cX7_serve 8 = .ok (.invokevirtual 52, 3) := by decide +kernel
theorem dX7_serve_11 : decode cX7_serve 11 = .ok (.aload_n 0, 1) := by decide +kernel
theorem dX7_serve_12 : decode cX7_serve 12 = .ok (.aload_n 0, 1) := by decide +kernel
theorem dX7_serve_13 : decode cX7_serve 13 = .ok (.iload_n 1, 1) := by decide +kernel
theorem dX7_serve_14 : decode cX7_serve 14 = .ok (.invokevirtual 71, 3) := by decide +kernel
theorem dX7_serve_17 : decode cX7_serve 17 = .ok (.invokevirtual 60, 3) := by decide +kernel
theorem dX7_serve_20 : decode cX7_serve 20 = .ok (.ireturn, 1) := by decide +kernel
set_option maxRecDepth 20000 in
theorem ggX7_pass_X1_prepare : GoodIn wsX7_pass wsX1_prepare := goodIn_r _ [6, 7, 8, 9, 10, 4, 11, 12, 13, 14, 15, 16, 17, 18, 19, 20, 21, 22, 23, 24, 25, 26, 27, 28, 29, 30, 31, 32, 33, 34, 35, 36, 37, 38, 39, 40, 41, 42, 43, 44, 45, 46, 47, 48, 49, 50, 51, 52, 76, 77, 78, 79, 80, 81, 82, 83, 84, 85, 86, 87, 88, 89, 90, 91, 92, 93, 94, 95, 96, 97, 98, 99, 100, 101, 102, 103, 104] (by decide +kernel) (by decide +kernel)
set_option maxRecDepth 20000 in
theorem gX7_pass_X1_prepare_n52 : GoodIn wsX7_pass (wsX1_prepare) := ggX7_pass_X1_prepare
set_option maxRecDepth 20000 in
theorem ggX7_pass_X0_stand : GoodIn wsX7_pass wsX0_stand := goodIn_r _ [55, 23, 56, 79, 80, 81, 82, 83, 84, 85, 86, 87, 88, 89, 90, 91, 92] (by decide +kernel) (by decide +kernel)
set_option maxRecDepth 20000 in
theorem gX7_pass_X0_stand_n74 : GoodIn wsX7_pass (wsX0_stand) := ggX7_pass_X0_stand
set_option maxRecDepth 20000 in
theorem ggX7_pass_X7_settled : GoodIn wsX7_pass wsX7_settled := goodIn_r _ [60, 1, 61, 4, 62, 63, 7, 64, 65, 66, 67, 68, 69, 70, 71, 72, 73, 74, 75, 76, 77, 78] (by decide +kernel) (by decide +kernel)
set_option maxRecDepth 20000 in
theorem gX7_pass_X7_settled : GoodIn wsX7_pass (wsV RX7 60 RX7 yX7_settled wsX7_settled) := goodIn_app (goodIn_of _ (by decide +kernel)) ggX7_pass_X7_settled
theorem dX7_pass_0 : decode cX7_pass 0 = .ok (.aload_n 0, 1) := by decide +kernel
theorem dX7_pass_1 : decode cX7_pass 1 = .ok (.getfield 22, 3) := by decide +kernel
theorem dX7_pass_4 : decode cX7_pass 4 = .ok (.aload_n 0, 1) := by decide +kernel
theorem dX7_pass_5 : decode cX7_pass 5 = .ok (.getfield 10, 3) := by decide +kernel
theorem dX7_pass_8 : decode cX7_pass 8 = .ok (.invokevirtual 52, 3) := by decide +kernel
theorem dX7_pass_11 : decode cX7_pass 11 = .ok (.aload_n 0, 1) := by decide +kernel
theorem dX7_pass_12 : decode cX7_pass 12 = .ok (.aload_n 0, 1) := by decide +kernel
theorem dX7_pass_13 : decode cX7_pass 13 = .ok (.getfield 10, 3) := by decide +kernel
theorem dX7_pass_16 : decode cX7_pass 16 = .ok (.iload_n 1, 1) := by decide +kernel
theorem dX7_pass_17 : decode cX7_pass 17 = .ok (.invokevirtual 74, 3) := by decide +kernel
theorem dX7_pass_20 : decode cX7_pass 20 = .ok (.invokevirtual 60, 3) := by decide +kernel
theorem dX7_pass_23 : decode cX7_pass 23 = .ok (.ireturn, 1) := by decide +kernel
set_option maxRecDepth 20000 in
theorem ggX7_settled_X1_keep : GoodIn wsX7_settled wsX1_keep := goodIn_r _ [5, 6, 7, 8, 9, 10, 11, 19, 20, 21] (by decide +kernel) (by decide +kernel)
set_option maxRecDepth 20000 in
theorem gX7_settled_X1_keep_n77 : GoodIn wsX7_settled (wsX1_keep) := ggX7_settled_X1_keep
theorem dX7_settled_0 : decode cX7_settled 0 = .ok (.iload_n 1, 1) := by decide +kernel
theorem dX7_settled_1 : decode cX7_settled 1 = .ok (.ifCond .lt 10, 3) := by decide +kernel
theorem dX7_settled_4 : decode cX7_settled 4 = .ok (.aload_n 0, 1) := by decide +kernel
theorem dX7_settled_5 : decode cX7_settled 5 = .ok (.getfield 22, 3) := by decide +kernel
theorem dX7_settled_8 : decode cX7_settled 8 = .ok (.invokevirtual 77, 3) := by decide +kernel
theorem dX7_settled_11 : decode cX7_settled 11 = .ok (.iload_n 1, 1) := by decide +kernel
theorem dX7_settled_12 : decode cX7_settled 12 = .ok (.ireturn, 1) := by decide +kernel
set_option maxRecDepth 20000 in
theorem ggX7_serveSlips_X0_slipsThatWait : GoodIn wsX7_serveSlips wsX0_slipsThatWait := goodIn_r _ [11, 12, 13, 132, 133, 134, 135, 136, 137, 138, 139, 140, 141, 142, 143, 144, 145] (by decide +kernel) (by decide +kernel)
set_option maxRecDepth 20000 in
theorem gX7_serveSlips_X0_slipsThatWait_n80 : GoodIn wsX7_serveSlips (wsX0_slipsThatWait) := ggX7_serveSlips_X0_slipsThatWait
set_option maxRecDepth 20000 in
theorem ggX7_serveSlips_X0_copyFrom : GoodIn wsX7_serveSlips wsX0_copyFrom := goodIn_r _ [16, 17, 18, 19, 12, 13, 20, 21, 22, 23, 24, 25, 26, 27, 28, 29, 30, 31, 32, 33, 34, 35, 36, 37, 38, 39, 40, 41, 42, 43, 44, 45, 46, 47, 48, 49, 50, 132, 133, 134, 135, 136, 137, 138, 139, 140, 141, 142, 143, 144, 145, 146, 147, 148, 149, 150, 151, 152, 153, 154, 155, 156, 157] (by decide +kernel) (by decide +kernel)
set_option maxRecDepth 20000 in
theorem gX7_serveSlips_X0_copyFrom_n89 : GoodIn wsX7_serveSlips (wsX0_copyFrom) := ggX7_serveSlips_X0_copyFrom
set_option maxRecDepth 20000 in
theorem ggX7_serveSlips_X0_serveNext : GoodIn wsX7_serveSlips wsX0_serveNext := goodIn_r _ [53, 27, 21, 24, 54, 3, 4, 5, 22, 23, 55, 56, 57, 19, 58, 59, 60, 9, 61, 25, 17, 26, 62, 30, 63, 64, 65, 66, 67, 18, 68, 33, 69, 70, 36, 38, 71, 72, 73, 39, 37, 74, 75, 76, 77, 13, 12, 28, 78, 79, 80, 81, 82, 83, 84, 85, 86, 87, 88, 89, 90, 91, 92, 93, 94, 95, 96, 97, 98, 99, 100, 101, 102, 103, 104, 105, 106, 107, 108, 109, 110, 111, 40, 112, 113, 114, 115, 116, 117, 118, 119, 120, 44, 121, 122, 50, 47, 48, 49, 123, 124, 146, 147, 148, 149, 150, 151, 152, 153, 132, 133, 134, 135, 136, 137, 138, 139, 140, 141, 142, 143, 144, 145, 154, 155, 156, 157] (by decide +kernel) (by decide +kernel)
set_option maxRecDepth 20000 in
theorem gX7_serveSlips_X0_serveNext_n92 : GoodIn wsX7_serveSlips (wsX0_serveNext) := ggX7_serveSlips_X0_serveNext
theorem dX7_serveSlips_0 : decode cX7_serveSlips 0 = .ok (.iload_n 1, 1) := by decide +kernel
theorem dX7_serveSlips_1 : decode cX7_serveSlips 1 = .ok (.iconst 1, 1) := by decide +kernel
theorem dX7_serveSlips_2 : decode cX7_serveSlips 2 = .ok (.if_icmp .lt 9, 3) := by decide +kernel
theorem dX7_serveSlips_5 : decode cX7_serveSlips 5 = .ok (.iload_n 1, 1) := by decide +kernel
theorem dX7_serveSlips_6 : decode cX7_serveSlips 6 = .ok (.bipush 30, 2) := by decide +kernel
theorem dX7_serveSlips_8 : decode cX7_serveSlips 8 = .ok (.if_icmp .le 6, 3) := by decide +kernel
theorem dX7_serveSlips_11 : decode cX7_serveSlips 11 = .ok (.bipush (-2), 2) := by decide +kernel
theorem dX7_serveSlips_13 : decode cX7_serveSlips 13 = .ok (.ireturn, 1) := by decide +kernel
theorem dX7_serveSlips_14 : decode cX7_serveSlips 14 = .ok (.iload_n 1, 1) := by decide +kernel
theorem dX7_serveSlips_15 : decode cX7_serveSlips 15 = .ok (.aload_n 0, 1) := by decide +kernel
theorem dX7_serveSlips_16 : decode cX7_serveSlips 16 = .ok (.getfield 10, 3) := by decide +kernel
theorem dX7_serveSlips_19 : decode cX7_serveSlips 19 = .ok (.invokevirtual 80, 3) := by decide +kernel
theorem dX7_serveSlips_22 : decode cX7_serveSlips 22 = .ok (.invokestatic 84, 3) := by decide +kernel
theorem dX7_serveSlips_25 : decode cX7_serveSlips 25 = .ok (.istore_n 2, 1) := by decide +kernel
theorem dX7_serveSlips_26 : decode cX7_serveSlips 26 = .ok (.iload_n 2, 1) := by decide +kernel
theorem dX7_serveSlips_27 : decode cX7_serveSlips 27 = .ok (.ifCond .ne 6, 3) := by decide +kernel
theorem dX7_serveSlips_30 : decode cX7_serveSlips 30 = .ok (.bipush (-5), 2) := by decide +kernel
theorem dX7_serveSlips_32 : decode cX7_serveSlips 32 = .ok (.ireturn, 1) := by decide +kernel
theorem dX7_serveSlips_33 : decode cX7_serveSlips 33 = .ok (.aload_n 0, 1) := by decide +kernel
theorem dX7_serveSlips_34 : decode cX7_serveSlips 34 = .ok (.getfield 16, 3) := by decide +kernel
theorem dX7_serveSlips_37 : decode cX7_serveSlips 37 = .ok (.aload_n 0, 1) := by decide +kernel
theorem dX7_serveSlips_38 : decode cX7_serveSlips 38 = .ok (.getfield 10, 3) := by decide +kernel
theorem dX7_serveSlips_41 : decode cX7_serveSlips 41 = .ok (.invokevirtual 89, 3) := by decide +kernel
theorem dX7_serveSlips_44 : decode cX7_serveSlips 44 = .ok (.iconst 0, 1) := by decide +kernel
theorem dX7_serveSlips_45 : decode cX7_serveSlips 45 = .ok (.istore_n 3, 1) := by decide +kernel
theorem dX7_serveSlips_46 : decode cX7_serveSlips 46 = .ok (.iload_n 3, 1) := by decide +kernel
theorem dX7_serveSlips_47 : decode cX7_serveSlips 47 = .ok (.iload_n 2, 1) := by decide +kernel
theorem dX7_serveSlips_48 : decode cX7_serveSlips 48 = .ok (.if_icmp .ge 16, 3) := by decide +kernel
theorem dX7_serveSlips_51 : decode cX7_serveSlips 51 = .ok (.aload_n 0, 1) := by decide +kernel
theorem dX7_serveSlips_52 : decode cX7_serveSlips 52 = .ok (.getfield 16, 3) := by decide +kernel
theorem dX7_serveSlips_55 : decode cX7_serveSlips 55 = .ok (.invokevirtual 92, 3) := by decide +kernel
theorem dX7_serveSlips_58 : decode cX7_serveSlips 58 = .ok (.iinc 3 1, 3) := by decide +kernel
theorem dX7_serveSlips_61 : decode cX7_serveSlips 61 = .ok (.goto (-15), 3) := by decide +kernel
theorem dX7_serveSlips_64 : decode cX7_serveSlips 64 = .ok (.aload_n 0, 1) := by decide +kernel
theorem dX7_serveSlips_65 : decode cX7_serveSlips 65 = .ok (.getfield 16, 3) := by decide +kernel
theorem dX7_serveSlips_68 : decode cX7_serveSlips 68 = .ok (.getfield 95, 3) := by decide +kernel
theorem dX7_serveSlips_71 : decode cX7_serveSlips 71 = .ok (.ldc 99, 2) := by decide +kernel
theorem dX7_serveSlips_73 : decode cX7_serveSlips 73 = .ok (.if_icmp .le 6, 3) := by decide +kernel
theorem dX7_serveSlips_76 : decode cX7_serveSlips 76 = .ok (.bipush (-5), 2) := by decide +kernel
theorem dX7_serveSlips_78 : decode cX7_serveSlips 78 = .ok (.ireturn, 1) := by decide +kernel
theorem dX7_serveSlips_79 : decode cX7_serveSlips 79 = .ok (.aload_n 0, 1) := by decide +kernel
theorem dX7_serveSlips_80 : decode cX7_serveSlips 80 = .ok (.getfield 10, 3) := by decide +kernel
theorem dX7_serveSlips_83 : decode cX7_serveSlips 83 = .ok (.aload_n 0, 1) := by decide +kernel
theorem dX7_serveSlips_84 : decode cX7_serveSlips 84 = .ok (.getfield 16, 3) := by decide +kernel
theorem dX7_serveSlips_87 : decode cX7_serveSlips 87 = .ok (.invokevirtual 89, 3) := by decide +kernel
theorem dX7_serveSlips_90 : decode cX7_serveSlips 90 = .ok (.iload_n 2, 1) := by decide +kernel
theorem dX7_serveSlips_91 : decode cX7_serveSlips 91 = .ok (.ireturn, 1) := by decide +kernel
set_option maxRecDepth 20000 in
theorem ggX7_of_X0_find : GoodIn wsX7_of wsX0_find := goodIn_r _ [5, 6, 40, 41, 42, 43, 44, 45, 46, 47, 48, 49, 50, 51, 52, 53, 32, 33, 34, 35, 36, 37, 38, 39] (by decide +kernel) (by decide +kernel)
set_option maxRecDepth 20000 in
theorem gX7_of_X0_find_n100 : GoodIn wsX7_of (wsX0_find) := ggX7_of_X0_find
set_option maxRecDepth 20000 in
theorem ggX7_of_X5_last : GoodIn wsX7_of wsX5_last := goodIn_r _ [10, 11, 12, 32, 33, 34, 35, 36, 37, 38, 39] (by decide +kernel) (by decide +kernel)
set_option maxRecDepth 20000 in
theorem gX7_of_X5_last_n112 : GoodIn wsX7_of (wsX5_last) := ggX7_of_X5_last
set_option maxRecDepth 20000 in
theorem ggX7_of_X0_age : GoodIn wsX7_of wsX0_age := goodIn_r _ [15, 16, 40, 41, 42, 43, 44, 45, 46, 47, 48, 49, 50, 51, 52, 53, 32, 33, 34, 35, 36, 37, 38, 39] (by decide +kernel) (by decide +kernel)
set_option maxRecDepth 20000 in
theorem gX7_of_X0_age_n115 : GoodIn wsX7_of (wsX0_age) := ggX7_of_X0_age
set_option maxRecDepth 20000 in
theorem ggX7_of_X0_isTooOld : GoodIn wsX7_of wsX0_isTooOld := goodIn_r _ [19, 20, 21, 13, 14, 3, 15, 16, 22, 23, 24, 40, 41, 42, 43, 44, 45, 46, 47, 48, 49, 50, 51, 52, 53, 32, 33, 34, 35, 36, 37, 38, 39] (by decide +kernel) (by decide +kernel)
set_option maxRecDepth 20000 in
theorem gX7_of_X0_isTooOld_n119 : GoodIn wsX7_of (wsX0_isTooOld) := ggX7_of_X0_isTooOld
theorem dX7_of_0 : decode cX7_of 0 = .ok (.aload_n 0, 1) := by decide +kernel
theorem dX7_of_1 : decode cX7_of 1 = .ok (.getfield 10, 3) := by decide +kernel
theorem dX7_of_4 : decode cX7_of 4 = .ok (.iload_n 1, 1) := by decide +kernel
theorem dX7_of_5 : decode cX7_of 5 = .ok (.invokevirtual 100, 3) := by decide +kernel
theorem dX7_of_8 : decode cX7_of 8 = .ok (.astore_n 3, 1) := by decide +kernel
theorem dX7_of_9 : decode cX7_of 9 = .ok (.aload_n 3, 1) := by decide +kernel
theorem dX7_of_10 : decode cX7_of 10 = .ok (.ifnonnull 5, 3) := by decide +kernel
theorem dX7_of_13 : decode cX7_of 13 = .ok (.iconst (-1), 1) := by decide +kernel
theorem dX7_of_14 : decode cX7_of 14 = .ok (.ireturn, 1) := by decide +kernel
theorem dX7_of_15 : decode cX7_of 15 = .ok (.iload_n 2, 1) := by decide +kernel
theorem dX7_of_16 : decode cX7_of 16 = .ok (.tableswitch 86 0 5 #[40, 45, 50, 55, 64, 81], 40) := by decide +kernel
theorem dX7_of_56 : decode cX7_of 56 = .ok (.aload_n 3, 1) := by decide +kernel
theorem dX7_of_57 : decode cX7_of 57 = .ok (.getfield 104, 3) := by decide +kernel
theorem dX7_of_60 : decode cX7_of 60 = .ok (.ireturn, 1) := by decide +kernel
theorem dX7_of_61 : decode cX7_of 61 = .ok (.aload_n 3, 1) := by decide +kernel
theorem dX7_of_62 : decode cX7_of 62 = .ok (.getfield 109, 3) := by decide +kernel
theorem dX7_of_65 : decode cX7_of 65 = .ok (.ireturn, 1) := by decide +kernel
theorem dX7_of_66 : decode cX7_of 66 = .ok (.aload_n 3, 1) := by decide +kernel
theorem dX7_of_67 : decode cX7_of 67 = .ok (.invokevirtual 112, 3) := by decide +kernel
theorem dX7_of_70 : decode cX7_of 70 = .ok (.ireturn, 1) := by decide +kernel
theorem dX7_of_71 : decode cX7_of 71 = .ok (.aload_n 0, 1) := by decide +kernel
theorem dX7_of_72 : decode cX7_of 72 = .ok (.getfield 10, 3) := by decide +kernel
theorem dX7_of_75 : decode cX7_of 75 = .ok (.aload_n 3, 1) := by decide +kernel
theorem dX7_of_76 : decode cX7_of 76 = .ok (.invokevirtual 115, 3) := by decide +kernel
theorem dX7_of_79 : decode cX7_of 79 = .ok (.ireturn, 1) := by decide +kernel
theorem dX7_of_80 : decode cX7_of 80 = .ok (.aload_n 0, 1) := by decide +kernel
theorem dX7_of_81 : decode cX7_of 81 = .ok (.getfield 10, 3) := by decide +kernel
theorem dX7_of_84 : decode cX7_of 84 = .ok (.aload_n 3, 1) := by decide +kernel
theorem dX7_of_85 : decode cX7_of 85 = .ok (.invokevirtual 119, 3) := by decide +kernel
theorem dX7_of_88 : decode cX7_of 88 = .ok (.ifCond .eq 7, 3) := by decide +kernel
theorem dX7_of_91 : decode cX7_of 91 = .ok (.iconst 1, 1) := by decide +kernel
theorem dX7_of_92 : decode cX7_of 92 = .ok (.goto 4, 3) := by decide +kernel
theorem dX7_of_95 : decode cX7_of 95 = .ok (.iconst 0, 1) := by decide +kernel
theorem dX7_of_96 : decode cX7_of 96 = .ok (.ireturn, 1) := by decide +kernel
theorem dX7_of_97 : decode cX7_of 97 = .ok (.aload_n 3, 1) := by decide +kernel
theorem dX7_of_98 : decode cX7_of 98 = .ok (.getfield 123, 3) := by decide +kernel
theorem dX7_of_101 : decode cX7_of 101 = .ok (.ireturn, 1) := by decide +kernel
theorem dX7_of_102 : decode cX7_of 102 = .ok (.bipush (-2), 2) := by decide +kernel
theorem dX7_of_104 : decode cX7_of 104 = .ok (.ireturn, 1) := by decide +kernel
set_option maxRecDepth 20000 in
theorem ggX7_waiting_X0_ranked : GoodIn wsX7_waiting wsX0_ranked := goodIn_r _ [5, 6, 7, 8, 9, 10, 11, 12, 13, 14, 15, 3, 16, 17, 18, 19, 20, 21, 37, 38, 39, 40, 41, 42, 43, 44, 45, 46, 47, 48, 49, 50, 29, 30, 31, 32, 33, 34, 35, 36] (by decide +kernel) (by decide +kernel)
set_option maxRecDepth 20000 in
theorem gX7_waiting_X0_ranked_n126 : GoodIn wsX7_waiting (wsX0_ranked) := ggX7_waiting_X0_ranked
theorem dX7_waiting_0 : decode cX7_waiting 0 = .ok (.iload_n 1, 1) := by decide +kernel
theorem dX7_waiting_1 : decode cX7_waiting 1 = .ok (.ifCond .eq 11, 3) := by decide +kernel
theorem dX7_waiting_4 : decode cX7_waiting 4 = .ok (.iload_n 1, 1) := by decide +kernel
theorem dX7_waiting_5 : decode cX7_waiting 5 = .ok (.iconst 1, 1) := by decide +kernel
theorem dX7_waiting_6 : decode cX7_waiting 6 = .ok (.if_icmp .eq 6, 3) := by decide +kernel
theorem dX7_waiting_9 : decode cX7_waiting 9 = .ok (.bipush (-2), 2) := by decide +kernel
theorem dX7_waiting_11 : decode cX7_waiting 11 = .ok (.ireturn, 1) := by decide +kernel
theorem dX7_waiting_12 : decode cX7_waiting 12 = .ok (.aload_n 0, 1) := by decide +kernel
theorem dX7_waiting_13 : decode cX7_waiting 13 = .ok (.getfield 10, 3) := by decide +kernel
theorem dX7_waiting_16 : decode cX7_waiting 16 = .ok (.iload_n 1, 1) := by decide +kernel
theorem dX7_waiting_17 : decode cX7_waiting 17 = .ok (.iload_n 2, 1) := by decide +kernel
theorem dX7_waiting_18 : decode cX7_waiting 18 = .ok (.invokevirtual 126, 3) := by decide +kernel
theorem dX7_waiting_21 : decode cX7_waiting 21 = .ok (.astore_n 3, 1) := by decide +kernel
theorem dX7_waiting_22 : decode cX7_waiting 22 = .ok (.aload_n 3, 1) := by decide +kernel
theorem dX7_waiting_23 : decode cX7_waiting 23 = .ok (.ifnonnull 7, 3) := by decide +kernel
theorem dX7_waiting_26 : decode cX7_waiting 26 = .ok (.iconst (-1), 1) := by decide +kernel
theorem dX7_waiting_27 : decode cX7_waiting 27 = .ok (.goto 7, 3) := by decide +kernel
theorem dX7_waiting_30 : decode cX7_waiting 30 = .ok (.aload_n 3, 1) := by decide +kernel
theorem dX7_waiting_31 : decode cX7_waiting 31 = .ok (.getfield 130, 3) := by decide +kernel
theorem dX7_waiting_34 : decode cX7_waiting 34 = .ok (.ireturn, 1) := by decide +kernel
set_option maxRecDepth 20000 in
theorem ggX7_log_X2_has : GoodIn wsX7_log wsX2_has := goodIn_r _ [5, 6, 47, 48, 49, 50] (by decide +kernel) (by decide +kernel)
set_option maxRecDepth 20000 in
theorem gX7_log_X2_has_n137 : GoodIn wsX7_log (wsX2_has) := ggX7_log_X2_has
set_option maxRecDepth 20000 in
theorem ggX7_log_X2_numberOf : GoodIn wsX7_log wsX2_numberOf := goodIn_r _ [9, 10, 11, 12, 13, 3, 14, 6, 15, 16, 17, 47, 48, 49, 50] (by decide +kernel) (by decide +kernel)
set_option maxRecDepth 20000 in
theorem gX7_log_X2_numberOf_n143 : GoodIn wsX7_log (wsX2_numberOf) := ggX7_log_X2_numberOf
set_option maxRecDepth 20000 in
theorem ggX7_log_X2_waitOf : GoodIn wsX7_log wsX2_waitOf := goodIn_r _ [20, 21, 11, 12, 13, 3, 14, 6, 15, 16, 17, 47, 48, 49, 50] (by decide +kernel) (by decide +kernel)
set_option maxRecDepth 20000 in
theorem gX7_log_X2_waitOf_n146 : GoodIn wsX7_log (wsX2_waitOf) := ggX7_log_X2_waitOf
set_option maxRecDepth 20000 in
theorem ggX7_log_X2_sortOf : GoodIn wsX7_log wsX2_sortOf := goodIn_r _ [24, 25, 11, 12, 13, 3, 14, 6, 15, 16, 17, 47, 48, 49, 50] (by decide +kernel) (by decide +kernel)
set_option maxRecDepth 20000 in
theorem gX7_log_X2_sortOf_n149 : GoodIn wsX7_log (wsX2_sortOf) := ggX7_log_X2_sortOf
theorem dX7_log_0 : decode cX7_log 0 = .ok (.aload_n 0, 1) := by decide +kernel
theorem dX7_log_1 : decode cX7_log 1 = .ok (.getfield 10, 3) := by decide +kernel
theorem dX7_log_4 : decode cX7_log 4 = .ok (.getfield 133, 3) := by decide +kernel
theorem dX7_log_7 : decode cX7_log 7 = .ok (.iload_n 1, 1) := by decide +kernel
theorem dX7_log_8 : decode cX7_log 8 = .ok (.invokevirtual 137, 3) := by decide +kernel
theorem dX7_log_11 : decode cX7_log 11 = .ok (.ifCond .ne 5, 3) := by decide +kernel
theorem dX7_log_14 : decode cX7_log 14 = .ok (.iconst (-1), 1) := by decide +kernel
theorem dX7_log_15 : decode cX7_log 15 = .ok (.ireturn, 1) := by decide +kernel
theorem dX7_log_16 : decode cX7_log 16 = .ok (.iload_n 2, 1) := by decide +kernel
theorem dX7_log_17 : decode cX7_log 17 = .ok (.tableswitch 63 0 2 #[27, 39, 51], 27) := by decide +kernel
theorem dX7_log_44 : decode cX7_log 44 = .ok (.aload_n 0, 1) := by decide +kernel
theorem dX7_log_45 : decode cX7_log 45 = .ok (.getfield 10, 3) := by decide +kernel
theorem dX7_log_48 : decode cX7_log 48 = .ok (.getfield 133, 3) := by decide +kernel
theorem dX7_log_51 : decode cX7_log 51 = .ok (.iload_n 1, 1) := by decide +kernel
theorem dX7_log_52 : decode cX7_log 52 = .ok (.invokevirtual 143, 3) := by decide +kernel
theorem dX7_log_55 : decode cX7_log 55 = .ok (.ireturn, 1) := by decide +kernel
theorem dX7_log_56 : decode cX7_log 56 = .ok (.aload_n 0, 1) := by decide +kernel
theorem dX7_log_57 : decode cX7_log 57 = .ok (.getfield 10, 3) := by decide +kernel
theorem dX7_log_60 : decode cX7_log 60 = .ok (.getfield 133, 3) := by decide +kernel
theorem dX7_log_63 : decode cX7_log 63 = .ok (.iload_n 1, 1) := by decide +kernel
theorem dX7_log_64 : decode cX7_log 64 = .ok (.invokevirtual 146, 3) := by decide +kernel
theorem dX7_log_67 : decode cX7_log 67 = .ok (.ireturn, 1) := by decide +kernel
theorem dX7_log_68 : decode cX7_log 68 = .ok (.aload_n 0, 1) := by decide +kernel
theorem dX7_log_69 : decode cX7_log 69 = .ok (.getfield 10, 3) := by decide +kernel
theorem dX7_log_72 : decode cX7_log 72 = .ok (.getfield 133, 3) := by decide +kernel
theorem dX7_log_75 : decode cX7_log 75 = .ok (.iload_n 1, 1) := by decide +kernel
theorem dX7_log_76 : decode cX7_log 76 = .ok (.invokevirtual 149, 3) := by decide +kernel
theorem dX7_log_79 : decode cX7_log 79 = .ok (.ireturn, 1) := by decide +kernel
theorem dX7_log_80 : decode cX7_log 80 = .ok (.bipush (-2), 2) := by decide +kernel
theorem dX7_log_82 : decode cX7_log 82 = .ok (.ireturn, 1) := by decide +kernel
set_option maxRecDepth 20000 in
theorem ggX7_count_X0_amount : GoodIn wsX7_count wsX0_amount := goodIn_r _ [7, 8, 9, 10, 11, 12, 13, 14, 15, 16, 17, 18, 19, 20, 21, 22, 23, 36, 37, 38, 39, 40, 41, 42, 43, 44, 45, 46, 47, 48, 49, 50, 51, 52, 53] (by decide +kernel) (by decide +kernel)
set_option maxRecDepth 20000 in
theorem gX7_count_X0_amount_n158 : GoodIn wsX7_count (wsX0_amount) := ggX7_count_X0_amount
theorem dX7_count_0 : decode cX7_count 0 = .ok (.iload_n 1, 1) := by decide +kernel
theorem dX7_count_1 : decode cX7_count 1 = .ok (.lookupswitch 43 #[(16, 27), (17, 35)], 27) := by decide +kernel
theorem dX7_count_28 : decode cX7_count 28 = .ok (.aload_n 0, 1) := by decide +kernel
theorem dX7_count_29 : decode cX7_count 29 = .ok (.getfield 39, 3) := by decide +kernel
theorem dX7_count_32 : decode cX7_count 32 = .ok (.getfield 152, 3) := by decide +kernel
theorem dX7_count_35 : decode cX7_count 35 = .ok (.ireturn, 1) := by decide +kernel
theorem dX7_count_36 : decode cX7_count 36 = .ok (.aload_n 0, 1) := by decide +kernel
theorem dX7_count_37 : decode cX7_count 37 = .ok (.getfield 22, 3) := by decide +kernel
theorem dX7_count_40 : decode cX7_count 40 = .ok (.getfield 155, 3) := by decide +kernel
theorem dX7_count_43 : decode cX7_count 43 = .ok (.ireturn, 1) := by decide +kernel
theorem dX7_count_44 : decode cX7_count 44 = .ok (.aload_n 0, 1) := by decide +kernel
theorem dX7_count_45 : decode cX7_count 45 = .ok (.getfield 10, 3) := by decide +kernel
theorem dX7_count_48 : decode cX7_count 48 = .ok (.iload_n 1, 1) := by decide +kernel
theorem dX7_count_49 : decode cX7_count 49 = .ok (.invokevirtual 158, 3) := by decide +kernel
theorem dX7_count_52 : decode cX7_count 52 = .ok (.ireturn, 1) := by decide +kernel
set_option maxRecDepth 20000 in
theorem ggX7_next_X0_reason : GoodIn wsX7_next wsX0_reason := goodIn_r _ [5, 6, 7, 8, 9, 10, 11, 12, 13, 14, 15, 16, 3, 17, 18, 19, 20, 21, 22, 23, 24, 25, 26, 27, 28, 29, 30, 31, 32, 33, 34, 35, 36, 37, 38, 39, 40, 41, 42, 43, 44, 45, 46, 47, 48, 49, 79, 80, 81, 82, 83, 84, 85, 86, 87, 88, 89, 90, 91, 92, 71, 72, 73, 74, 75, 76, 77, 78] (by decide +kernel) (by decide +kernel)
set_option maxRecDepth 20000 in
theorem gX7_next_X0_reason_n161 : GoodIn wsX7_next (wsX0_reason) := ggX7_next_X0_reason
set_option maxRecDepth 20000 in
theorem ggX7_next_X0_chosen : GoodIn wsX7_next wsX0_chosen := goodIn_r _ [52, 9, 10, 14, 15, 16, 3, 17, 18, 19, 20, 21, 22, 23, 24, 25, 26, 27, 28, 29, 30, 31, 32, 33, 34, 35, 36, 8, 11, 12, 13, 37, 38, 39, 40, 79, 80, 81, 82, 83, 84, 85, 86, 87, 88, 89, 90, 91, 92, 71, 72, 73, 74, 75, 76, 77, 78] (by decide +kernel) (by decide +kernel)
set_option maxRecDepth 20000 in
theorem gX7_next_X0_chosen_n164 : GoodIn wsX7_next (wsX0_chosen) := ggX7_next_X0_chosen
set_option maxRecDepth 20000 in
theorem ggX7_next_X0_minutesFor : GoodIn wsX7_next wsX0_minutesFor := goodIn_r _ [55, 8, 56, 57, 58, 3, 59, 10, 60, 61, 62, 63, 11, 12, 13, 79, 80, 81, 82, 83, 84, 85, 86, 87, 88, 89, 90, 91, 92, 71, 72, 73, 74, 75, 76, 77, 78] (by decide +kernel) (by decide +kernel)
set_option maxRecDepth 20000 in
theorem gX7_next_X0_minutesFor_n167 : GoodIn wsX7_next (wsX0_minutesFor) := ggX7_next_X0_minutesFor
theorem dX7_next_0 : decode cX7_next 0 = .ok (.iload_n 1, 1) := by decide +kernel
theorem dX7_next_1 : decode cX7_next 1 = .ok (.ifCond .lt 8, 3) := by decide +kernel
theorem dX7_next_4 : decode cX7_next 4 = .ok (.iload_n 1, 1) := by decide +kernel
theorem dX7_next_5 : decode cX7_next 5 = .ok (.iconst 2, 1) := by decide +kernel
theorem dX7_next_6 : decode cX7_next 6 = .ok (.if_icmp .le 6, 3) := by decide +kernel
theorem dX7_next_9 : decode cX7_next 9 = .ok (.bipush (-2), 2) := by decide +kernel
theorem dX7_next_11 : decode cX7_next 11 = .ok (.ireturn, 1) := by decide +kernel
theorem dX7_next_12 : decode cX7_next 12 = .ok (.aload_n 0, 1) := by decide +kernel
theorem dX7_next_13 : decode cX7_next 13 = .ok (.getfield 10, 3) := by decide +kernel
theorem dX7_next_16 : decode cX7_next 16 = .ok (.invokevirtual 161, 3) := by decide +kernel
theorem dX7_next_19 : decode cX7_next 19 = .ok (.istore_n 2, 1) := by decide +kernel
theorem dX7_next_20 : decode cX7_next 20 = .ok (.aload_n 0, 1) := by decide +kernel
theorem dX7_next_21 : decode cX7_next 21 = .ok (.getfield 10, 3) := by decide +kernel
theorem dX7_next_24 : decode cX7_next 24 = .ok (.iload_n 2, 1) := by decide +kernel
theorem dX7_next_25 : decode cX7_next 25 = .ok (.invokevirtual 164, 3) := by decide +kernel
theorem dX7_next_28 : decode cX7_next 28 = .ok (.astore_n 3, 1) := by decide +kernel
theorem dX7_next_29 : decode cX7_next 29 = .ok (.aload_n 3, 1) := by decide +kernel
theorem dX7_next_30 : decode cX7_next 30 = .ok (.ifnonnull 6, 3) := by decide +kernel
theorem dX7_next_33 : decode cX7_next 33 = .ok (.bipush (-6), 2) := by decide +kernel
theorem dX7_next_35 : decode cX7_next 35 = .ok (.ireturn, 1) := by decide +kernel
theorem dX7_next_36 : decode cX7_next 36 = .ok (.iload_n 1, 1) := by decide +kernel
theorem dX7_next_37 : decode cX7_next 37 = .ok (.lookupswitch 34 #[(0, 27), (1, 32)], 27) := by decide +kernel
theorem dX7_next_64 : decode cX7_next 64 = .ok (.aload_n 3, 1) := by decide +kernel
theorem dX7_next_65 : decode cX7_next 65 = .ok (.getfield 130, 3) := by decide +kernel
theorem dX7_next_68 : decode cX7_next 68 = .ok (.ireturn, 1) := by decide +kernel
theorem dX7_next_69 : decode cX7_next 69 = .ok (.iload_n 2, 1) := by decide +kernel
theorem dX7_next_70 : decode cX7_next 70 = .ok (.ireturn, 1) := by decide +kernel
theorem dX7_next_71 : decode cX7_next 71 = .ok (.aload_n 0, 1) := by decide +kernel
theorem dX7_next_72 : decode cX7_next 72 = .ok (.getfield 10, 3) := by decide +kernel
theorem dX7_next_75 : decode cX7_next 75 = .ok (.getfield 95, 3) := by decide +kernel
theorem dX7_next_78 : decode cX7_next 78 = .ok (.aload_n 0, 1) := by decide +kernel
theorem dX7_next_79 : decode cX7_next 79 = .ok (.getfield 10, 3) := by decide +kernel
theorem dX7_next_82 : decode cX7_next 82 = .ok (.aload_n 3, 1) := by decide +kernel
theorem dX7_next_83 : decode cX7_next 83 = .ok (.invokevirtual 167, 3) := by decide +kernel
theorem dX7_next_86 : decode cX7_next 86 = .ok (.iadd, 1) := by decide +kernel
theorem dX7_next_87 : decode cX7_next 87 = .ok (.ireturn, 1) := by decide +kernel
set_option maxRecDepth 20000 in
theorem ggX7_servedIn_X0_find : GoodIn wsX7_servedIn wsX0_find := goodIn_r _ [6, 7, 130, 131, 132, 133, 134, 135, 136, 137, 138, 139, 140, 141, 142, 143, 144, 145, 146, 147, 148, 149, 150, 151] (by decide +kernel) (by decide +kernel)
set_option maxRecDepth 20000 in
theorem gX7_servedIn_X0_find_n100 : GoodIn wsX7_servedIn (wsX0_find) := ggX7_servedIn_X0_find
set_option maxRecDepth 20000 in
theorem ggX7_servedIn_X0_copyFrom : GoodIn wsX7_servedIn wsX0_copyFrom := goodIn_r _ [10, 11, 7, 12, 13, 14, 15, 16, 17, 18, 19, 20, 21, 22, 23, 24, 25, 26, 27, 28, 29, 30, 31, 32, 33, 34, 35, 36, 37, 38, 39, 40, 41, 42, 43, 44, 45, 130, 131, 132, 133, 134, 135, 136, 137, 138, 139, 140, 141, 142, 143, 144, 145, 146, 147, 148, 149, 150, 151, 152, 153, 154, 155] (by decide +kernel) (by decide +kernel)
set_option maxRecDepth 20000 in
theorem gX7_servedIn_X0_copyFrom_n89 : GoodIn wsX7_servedIn (wsX0_copyFrom) := ggX7_servedIn_X0_copyFrom
set_option maxRecDepth 20000 in
theorem ggX7_servedIn_X0_serveNext : GoodIn wsX7_servedIn wsX0_serveNext := goodIn_r _ [48, 22, 16, 19, 49, 50, 51, 52, 17, 18, 53, 54, 55, 12, 56, 57, 58, 4, 59, 20, 11, 21, 60, 25, 61, 62, 63, 64, 65, 7, 66, 28, 67, 68, 31, 33, 69, 70, 71, 34, 32, 72, 73, 74, 75, 14, 13, 23, 76, 77, 78, 79, 80, 81, 82, 83, 84, 85, 86, 87, 88, 89, 90, 91, 92, 93, 94, 95, 96, 97, 98, 99, 100, 101, 102, 103, 104, 105, 106, 107, 108, 109, 35, 110, 111, 112, 113, 114, 115, 116, 117, 118, 39, 119, 120, 45, 42, 43, 44, 121, 122, 144, 145, 146, 147, 148, 149, 150, 151, 130, 131, 132, 133, 134, 135, 136, 137, 138, 139, 140, 141, 142, 143, 152, 153, 154, 155] (by decide +kernel) (by decide +kernel)
set_option maxRecDepth 20000 in
theorem gX7_servedIn_X0_serveNext_n92 : GoodIn wsX7_servedIn (wsX0_serveNext) := ggX7_servedIn_X0_serveNext
theorem dX7_servedIn_0 : decode cX7_servedIn 0 = .ok (.aload_n 0, 1) := by decide +kernel
theorem dX7_servedIn_1 : decode cX7_servedIn 1 = .ok (.getfield 10, 3) := by decide +kernel
theorem dX7_servedIn_4 : decode cX7_servedIn 4 = .ok (.iload_n 1, 1) := by decide +kernel
theorem dX7_servedIn_5 : decode cX7_servedIn 5 = .ok (.invokevirtual 100, 3) := by decide +kernel
theorem dX7_servedIn_8 : decode cX7_servedIn 8 = .ok (.ifnonnull 5, 3) := by decide +kernel
theorem dX7_servedIn_11 : decode cX7_servedIn 11 = .ok (.iconst (-1), 1) := by decide +kernel
theorem dX7_servedIn_12 : decode cX7_servedIn 12 = .ok (.ireturn, 1) := by decide +kernel
theorem dX7_servedIn_13 : decode cX7_servedIn 13 = .ok (.aload_n 0, 1) := by decide +kernel
theorem dX7_servedIn_14 : decode cX7_servedIn 14 = .ok (.getfield 16, 3) := by decide +kernel
theorem dX7_servedIn_17 : decode cX7_servedIn 17 = .ok (.aload_n 0, 1) := by decide +kernel
theorem dX7_servedIn_18 : decode cX7_servedIn 18 = .ok (.getfield 10, 3) := by decide +kernel
theorem dX7_servedIn_21 : decode cX7_servedIn 21 = .ok (.invokevirtual 89, 3) := by decide +kernel
theorem dX7_servedIn_24 : decode cX7_servedIn 24 = .ok (.iconst 0, 1) := by decide +kernel
theorem dX7_servedIn_25 : decode cX7_servedIn 25 = .ok (.istore_n 2, 1) := by decide +kernel
theorem dX7_servedIn_26 : decode cX7_servedIn 26 = .ok (.iload_n 2, 1) := by decide +kernel
theorem dX7_servedIn_27 : decode cX7_servedIn 27 = .ok (.bipush 30, 2) := by decide +kernel
theorem dX7_servedIn_29 : decode cX7_servedIn 29 = .ok (.if_icmp .ge 27, 3) := by decide +kernel
theorem dX7_servedIn_32 : decode cX7_servedIn 32 = .ok (.aload_n 0, 1) := by decide +kernel
theorem dX7_servedIn_33 : decode cX7_servedIn 33 = .ok (.getfield 16, 3) := by decide +kernel
theorem dX7_servedIn_36 : decode cX7_servedIn 36 = .ok (.iload_n 1, 1) := by decide +kernel
theorem dX7_servedIn_37 : decode cX7_servedIn 37 = .ok (.invokevirtual 100, 3) := by decide +kernel
theorem dX7_servedIn_40 : decode cX7_servedIn 40 = .ok (.ifnull 16, 3) := by decide +kernel
theorem dX7_servedIn_43 : decode cX7_servedIn 43 = .ok (.aload_n 0, 1) := by decide +kernel
theorem dX7_servedIn_44 : decode cX7_servedIn 44 = .ok (.getfield 16, 3) := by decide +kernel
theorem dX7_servedIn_47 : decode cX7_servedIn 47 = .ok (.invokevirtual 92, 3) := by decide +kernel
theorem dX7_servedIn_50 : decode cX7_servedIn 50 = .ok (.iinc 2 1, 3) := by decide +kernel
theorem dX7_servedIn_53 : decode cX7_servedIn 53 = .ok (.goto (-27), 3) := by decide +kernel
theorem dX7_servedIn_56 : decode cX7_servedIn 56 = .ok (.aload_n 0, 1) := by decide +kernel
theorem dX7_servedIn_57 : decode cX7_servedIn 57 = .ok (.getfield 16, 3) := by decide +kernel
theorem dX7_servedIn_60 : decode cX7_servedIn 60 = .ok (.getfield 95, 3) := by decide +kernel
theorem dX7_servedIn_63 : decode cX7_servedIn 63 = .ok (.aload_n 0, 1) := by decide +kernel
theorem dX7_servedIn_64 : decode cX7_servedIn 64 = .ok (.getfield 10, 3) := by decide +kernel
theorem dX7_servedIn_67 : decode cX7_servedIn 67 = .ok (.getfield 95, 3) := by decide +kernel
theorem dX7_servedIn_70 : decode cX7_servedIn 70 = .ok (.isub, 1) := by decide +kernel
theorem dX7_servedIn_71 : decode cX7_servedIn 71 = .ok (.ireturn, 1) := by decide +kernel
set_option maxRecDepth 20000 in
theorem ggX7_all_X0_slipsThatWait : GoodIn wsX7_all wsX0_slipsThatWait := goodIn_r _ [6, 7, 8, 130, 131, 132, 133, 134, 135, 136, 137, 138, 139, 140, 141, 142, 143] (by decide +kernel) (by decide +kernel)
set_option maxRecDepth 20000 in
theorem gX7_all_X0_slipsThatWait_n80 : GoodIn wsX7_all (wsX0_slipsThatWait) := ggX7_all_X0_slipsThatWait
set_option maxRecDepth 20000 in
theorem ggX7_all_X0_copyFrom : GoodIn wsX7_all wsX0_copyFrom := goodIn_r _ [11, 12, 13, 14, 7, 8, 15, 16, 17, 18, 19, 20, 21, 22, 23, 24, 25, 26, 27, 28, 29, 30, 31, 32, 33, 34, 35, 36, 37, 38, 39, 40, 41, 42, 43, 44, 45, 130, 131, 132, 133, 134, 135, 136, 137, 138, 139, 140, 141, 142, 143, 144, 145, 146, 147, 148, 149, 150, 151, 152, 153, 154, 155] (by decide +kernel) (by decide +kernel)
set_option maxRecDepth 20000 in
theorem gX7_all_X0_copyFrom_n89 : GoodIn wsX7_all (wsX0_copyFrom) := ggX7_all_X0_copyFrom
set_option maxRecDepth 20000 in
theorem ggX7_all_X0_serveNext : GoodIn wsX7_all wsX0_serveNext := goodIn_r _ [48, 22, 16, 19, 49, 50, 51, 52, 17, 18, 53, 54, 55, 14, 56, 57, 58, 4, 59, 20, 12, 21, 60, 25, 61, 62, 63, 64, 65, 13, 66, 28, 67, 68, 31, 33, 69, 70, 71, 34, 32, 72, 73, 74, 75, 8, 7, 23, 76, 77, 78, 79, 80, 81, 82, 83, 84, 85, 86, 87, 88, 89, 90, 91, 92, 93, 94, 95, 96, 97, 98, 99, 100, 101, 102, 103, 104, 105, 106, 107, 108, 109, 35, 110, 111, 112, 113, 114, 115, 116, 117, 118, 39, 119, 120, 45, 42, 43, 44, 121, 122, 144, 145, 146, 147, 148, 149, 150, 151, 130, 131, 132, 133, 134, 135, 136, 137, 138, 139, 140, 141, 142, 143, 152, 153, 154, 155] (by decide +kernel) (by decide +kernel)
set_option maxRecDepth 20000 in
theorem gX7_all_X0_serveNext_n92 : GoodIn wsX7_all (wsX0_serveNext) := ggX7_all_X0_serveNext
theorem dX7_all_0 : decode cX7_all 0 = .ok (.iload_n 1, 1) := by decide +kernel
theorem dX7_all_1 : decode cX7_all 1 = .ok (.ifCond .lt 8, 3) := by decide +kernel
theorem dX7_all_4 : decode cX7_all 4 = .ok (.iload_n 1, 1) := by decide +kernel
theorem dX7_all_5 : decode cX7_all 5 = .ok (.iconst 2, 1) := by decide +kernel
theorem dX7_all_6 : decode cX7_all 6 = .ok (.if_icmp .le 6, 3) := by decide +kernel
theorem dX7_all_9 : decode cX7_all 9 = .ok (.bipush (-2), 2) := by decide +kernel
theorem dX7_all_11 : decode cX7_all 11 = .ok (.ireturn, 1) := by decide +kernel
theorem dX7_all_12 : decode cX7_all 12 = .ok (.aload_n 0, 1) := by decide +kernel
theorem dX7_all_13 : decode cX7_all 13 = .ok (.getfield 10, 3) := by decide +kernel
theorem dX7_all_16 : decode cX7_all 16 = .ok (.invokevirtual 80, 3) := by decide +kernel
theorem dX7_all_19 : decode cX7_all 19 = .ok (.istore_n 2, 1) := by decide +kernel
theorem dX7_all_20 : decode cX7_all 20 = .ok (.iload_n 2, 1) := by decide +kernel
theorem dX7_all_21 : decode cX7_all 21 = .ok (.ifCond .ne 6, 3) := by decide +kernel
theorem dX7_all_24 : decode cX7_all 24 = .ok (.bipush (-6), 2) := by decide +kernel
theorem dX7_all_26 : decode cX7_all 26 = .ok (.ireturn, 1) := by decide +kernel
theorem dX7_all_27 : decode cX7_all 27 = .ok (.aload_n 0, 1) := by decide +kernel
theorem dX7_all_28 : decode cX7_all 28 = .ok (.getfield 16, 3) := by decide +kernel
theorem dX7_all_31 : decode cX7_all 31 = .ok (.aload_n 0, 1) := by decide +kernel
theorem dX7_all_32 : decode cX7_all 32 = .ok (.getfield 10, 3) := by decide +kernel
theorem dX7_all_35 : decode cX7_all 35 = .ok (.invokevirtual 89, 3) := by decide +kernel
theorem dX7_all_38 : decode cX7_all 38 = .ok (.aload_n 0, 1) := by decide +kernel
theorem dX7_all_39 : decode cX7_all 39 = .ok (.getfield 16, 3) := by decide +kernel
theorem dX7_all_42 : decode cX7_all 42 = .ok (.iconst 0, 1) := by decide +kernel
theorem dX7_all_43 : decode cX7_all 43 = .ok (.putfield 170, 3) := by decide +kernel
theorem dX7_all_46 : decode cX7_all 46 = .ok (.iconst 0, 1) := by decide +kernel
theorem dX7_all_47 : decode cX7_all 47 = .ok (.istore_n 3, 1) := by decide +kernel
theorem dX7_all_48 : decode cX7_all 48 = .ok (.iload_n 3, 1) := by decide +kernel
theorem dX7_all_49 : decode cX7_all 49 = .ok (.iload_n 2, 1) := by decide +kernel
theorem dX7_all_50 : decode cX7_all 50 = .ok (.if_icmp .ge 16, 3) := by decide +kernel
theorem dX7_all_53 : decode cX7_all 53 = .ok (.aload_n 0, 1) := by decide +kernel
theorem dX7_all_54 : decode cX7_all 54 = .ok (.getfield 16, 3) := by decide +kernel
theorem dX7_all_57 : decode cX7_all 57 = .ok (.invokevirtual 92, 3) := by decide +kernel
theorem dX7_all_60 : decode cX7_all 60 = .ok (.iinc 3 1, 3) := by decide +kernel
theorem dX7_all_63 : decode cX7_all 63 = .ok (.goto (-15), 3) := by decide +kernel
theorem dX7_all_66 : decode cX7_all 66 = .ok (.iload_n 1, 1) := by decide +kernel
theorem dX7_all_67 : decode cX7_all 67 = .ok (.lookupswitch 57 #[(0, 25), (1, 41)], 25) := by decide +kernel
theorem dX7_all_92 : decode cX7_all 92 = .ok (.aload_n 0, 1) := by decide +kernel
theorem dX7_all_93 : decode cX7_all 93 = .ok (.getfield 16, 3) := by decide +kernel
theorem dX7_all_96 : decode cX7_all 96 = .ok (.getfield 95, 3) := by decide +kernel
theorem dX7_all_99 : decode cX7_all 99 = .ok (.aload_n 0, 1) := by decide +kernel
theorem dX7_all_100 : decode cX7_all 100 = .ok (.getfield 10, 3) := by decide +kernel
theorem dX7_all_103 : decode cX7_all 103 = .ok (.getfield 95, 3) := by decide +kernel
theorem dX7_all_106 : decode cX7_all 106 = .ok (.isub, 1) := by decide +kernel
theorem dX7_all_107 : decode cX7_all 107 = .ok (.ireturn, 1) := by decide +kernel
theorem dX7_all_108 : decode cX7_all 108 = .ok (.aload_n 0, 1) := by decide +kernel
theorem dX7_all_109 : decode cX7_all 109 = .ok (.getfield 16, 3) := by decide +kernel
theorem dX7_all_112 : decode cX7_all 112 = .ok (.getfield 173, 3) := by decide +kernel
theorem dX7_all_115 : decode cX7_all 115 = .ok (.aload_n 0, 1) := by decide +kernel
theorem dX7_all_116 : decode cX7_all 116 = .ok (.getfield 10, 3) := by decide +kernel
theorem dX7_all_119 : decode cX7_all 119 = .ok (.getfield 173, 3) := by decide +kernel
theorem dX7_all_122 : decode cX7_all 122 = .ok (.isub, 1) := by decide +kernel
theorem dX7_all_123 : decode cX7_all 123 = .ok (.ireturn, 1) := by decide +kernel
theorem dX7_all_124 : decode cX7_all 124 = .ok (.aload_n 0, 1) := by decide +kernel
theorem dX7_all_125 : decode cX7_all 125 = .ok (.getfield 16, 3) := by decide +kernel
theorem dX7_all_128 : decode cX7_all 128 = .ok (.getfield 170, 3) := by decide +kernel
theorem dX7_all_131 : decode cX7_all 131 = .ok (.ireturn, 1) := by decide +kernel
set_option maxRecDepth 20000 in
theorem ggX7_joined_X7_isSlip : GoodIn wsX7_joined wsX7_isSlip := goodIn_r _ [5] (by decide +kernel) (by decide +kernel)
set_option maxRecDepth 20000 in
theorem gX7_joined_X7_isSlip : GoodIn wsX7_joined (va_wsS RX7 176 yX7_isSlip wsX7_isSlip) := goodIn_app (goodIn_of _ (by decide +kernel)) ggX7_joined_X7_isSlip
set_option maxRecDepth 20000 in
theorem ggX7_joined_X0_hostFor : GoodIn wsX7_joined wsX0_hostFor := goodIn_r _ [9, 10, 11, 12, 13, 14, 15, 16, 17, 18, 19, 20, 21, 37, 38, 39, 40, 41, 42, 43, 44, 45, 46, 47, 48, 49, 50, 29, 30, 31, 32, 33, 34, 35, 36] (by decide +kernel) (by decide +kernel)
set_option maxRecDepth 20000 in
theorem gX7_joined_X0_hostFor_n180 : GoodIn wsX7_joined (wsX0_hostFor) := ggX7_joined_X0_hostFor
theorem dX7_joined_0 : decode cX7_joined 0 = .ok (.iload_n 1, 1) := by decide +kernel
theorem dX7_joined_1 : decode cX7_joined 1 = .ok (.iload_n 2, 1) := by decide +kernel
theorem dX7_joined_2 : decode cX7_joined 2 = .ok (.iload_n 3, 1) := by decide +kernel
theorem dX7_joined_3 : decode cX7_joined 3 = .ok (.invokestatic 176, 3) := by decide +kernel
theorem dX7_joined_6 : decode cX7_joined 6 = .ok (.ifCond .ne 6, 3) := by decide +kernel
theorem dX7_joined_9 : decode cX7_joined 9 = .ok (.bipush (-2), 2) := by decide +kernel
theorem dX7_joined_11 : decode cX7_joined 11 = .ok (.ireturn, 1) := by decide +kernel
theorem dX7_joined_12 : decode cX7_joined 12 = .ok (.aload_n 0, 1) := by decide +kernel
theorem dX7_joined_13 : decode cX7_joined 13 = .ok (.getfield 10, 3) := by decide +kernel
theorem dX7_joined_16 : decode cX7_joined 16 = .ok (.iload_n 1, 1) := by decide +kernel
theorem dX7_joined_17 : decode cX7_joined 17 = .ok (.iload_n 2, 1) := by decide +kernel
theorem dX7_joined_18 : decode cX7_joined 18 = .ok (.iload_n 3, 1) := by decide +kernel
theorem dX7_joined_19 : decode cX7_joined 19 = .ok (.invokevirtual 180, 3) := by decide +kernel
theorem dX7_joined_22 : decode cX7_joined 22 = .ok (.astore 4, 2) := by decide +kernel
theorem dX7_joined_24 : decode cX7_joined 24 = .ok (.aload 4, 2) := by decide +kernel
theorem dX7_joined_26 : decode cX7_joined 26 = .ok (.ifnonnull 8, 3) := by decide +kernel
theorem dX7_joined_29 : decode cX7_joined 29 = .ok (.bipush (-6), 2) := by decide +kernel
theorem dX7_joined_31 : decode cX7_joined 31 = .ok (.goto 8, 3) := by decide +kernel
theorem dX7_joined_34 : decode cX7_joined 34 = .ok (.aload 4, 2) := by decide +kernel
theorem dX7_joined_36 : decode cX7_joined 36 = .ok (.getfield 130, 3) := by decide +kernel
theorem dX7_joined_39 : decode cX7_joined 39 = .ok (.ireturn, 1) := by decide +kernel
set_option maxRecDepth 20000 in
theorem ggX7_put_X3_append : GoodIn wsX7_put wsX3_append := goodIn_r _ [5, 6, 7, 8, 3, 9, 10, 11, 12, 13, 14, 15, 16, 17, 25, 26] (by decide +kernel) (by decide +kernel)
set_option maxRecDepth 20000 in
theorem gX7_put_X3_append_n184 : GoodIn wsX7_put (wsX3_append) := ggX7_put_X3_append
theorem dX7_put_0 : decode cX7_put 0 = .ok (.aload_n 0, 1) := by decide +kernel
theorem dX7_put_1 : decode cX7_put 1 = .ok (.getfield 39, 3) := by decide +kernel
theorem dX7_put_4 : decode cX7_put 4 = .ok (.lload_n 1, 1) := by decide +kernel
theorem dX7_put_5 : decode cX7_put 5 = .ok (.invokevirtual 184, 3) := by decide +kernel
theorem dX7_put_8 : decode cX7_put 8 = .ok (.ireturn, 1) := by decide +kernel
set_option maxRecDepth 20000 in
theorem ggX7_wipe_X3_empty : GoodIn wsX7_wipe wsX3_empty := goodIn_r _ [5, 6, 14, 15] (by decide +kernel) (by decide +kernel)
set_option maxRecDepth 20000 in
theorem gX7_wipe_X3_empty_n188 : GoodIn wsX7_wipe (wsX3_empty) := ggX7_wipe_X3_empty
theorem dX7_wipe_0 : decode cX7_wipe 0 = .ok (.aload_n 0, 1) := by decide +kernel
theorem dX7_wipe_1 : decode cX7_wipe 1 = .ok (.getfield 39, 3) := by decide +kernel
theorem dX7_wipe_4 : decode cX7_wipe 4 = .ok (.invokevirtual 188, 3) := by decide +kernel
theorem dX7_wipe_7 : decode cX7_wipe 7 = .ok (.ireturn, 1) := by decide +kernel
set_option maxRecDepth 20000 in
theorem ggX7_fault_X4_findFault : GoodIn wsX7_fault wsX4_findFault := goodIn_r _ [5, 6, 7, 8, 9, 10, 3, 11, 12, 13, 14, 15, 16, 17, 18, 19, 20, 21, 22, 23, 24, 25, 26, 27, 28, 29, 30, 31, 32, 33, 34, 35, 36, 37, 38, 39, 40, 41, 42, 43, 44, 45, 46, 47, 55, 56, 57, 58, 59, 60, 61] (by decide +kernel) (by decide +kernel)
set_option maxRecDepth 20000 in
theorem gX7_fault_X4_findFault_n191 : GoodIn wsX7_fault (wsX4_findFault) := ggX7_fault_X4_findFault
theorem dX7_fault_0 : decode cX7_fault 0 = .ok (.aload_n 0, 1) := by decide +kernel
theorem dX7_fault_1 : decode cX7_fault 1 = .ok (.getfield 48, 3) := by decide +kernel
theorem dX7_fault_4 : decode cX7_fault 4 = .ok (.invokevirtual 191, 3) := by decide +kernel
theorem dX7_fault_7 : decode cX7_fault 7 = .ok (.ireturn, 1) := by decide +kernel
set_option maxRecDepth 20000 in
theorem ggX7_carryOut_X4_findFault : GoodIn wsX7_carryOut wsX4_findFault := goodIn_r _ [8, 9, 10, 11, 12, 13, 6, 14, 15, 16, 17, 18, 19, 20, 21, 22, 23, 24, 25, 26, 27, 28, 29, 30, 31, 32, 33, 34, 35, 36, 37, 38, 39, 40, 41, 42, 43, 44, 45, 46, 47, 48, 49, 50, 225, 226, 227, 228, 229, 230, 231] (by decide +kernel) (by decide +kernel)
set_option maxRecDepth 20000 in
theorem gX7_carryOut_X4_findFault_n191 : GoodIn wsX7_carryOut (wsX4_findFault) := ggX7_carryOut_X4_findFault
set_option maxRecDepth 20000 in
theorem ggX7_carryOut_X1_prepare : GoodIn wsX7_carryOut wsX1_prepare := goodIn_r _ [54, 55, 56, 57, 58, 52, 59, 60, 61, 62, 63, 64, 65, 66, 67, 68, 69, 70, 71, 72, 73, 74, 75, 76, 77, 78, 79, 28, 80, 81, 82, 83, 84, 85, 86, 87, 88, 89, 90, 91, 92, 93, 94, 95, 96, 97, 98, 99, 232, 233, 234, 235, 236, 237, 238, 239, 240, 241, 242, 243, 244, 245, 246, 247, 248, 249, 250, 251, 252, 253, 254, 255, 256, 257, 258, 259, 260] (by decide +kernel) (by decide +kernel)
set_option maxRecDepth 20000 in
theorem gX7_carryOut_X1_prepare_n52 : GoodIn wsX7_carryOut (wsX1_prepare) := ggX7_carryOut_X1_prepare
set_option maxRecDepth 20000 in
theorem ggX7_carryOut_X4_begin : GoodIn wsX7_carryOut wsX4_begin := goodIn_r _ [14, 9, 225, 226, 227, 228, 229] (by decide +kernel) (by decide +kernel)
set_option maxRecDepth 20000 in
theorem gX7_carryOut_X4_begin_n194 : GoodIn wsX7_carryOut (wsX4_begin) := ggX7_carryOut_X4_begin
set_option maxRecDepth 20000 in
theorem ggX7_carryOut_X4_readOrder : GoodIn wsX7_carryOut wsX4_readOrder := goodIn_r _ [18, 10, 9, 19, 20, 21, 22, 23, 24, 25, 26, 27, 28, 29, 30, 31, 32, 6, 33, 34, 35, 36, 37, 38, 39, 40, 41, 42, 43, 44, 45, 46, 225, 226, 227, 228, 229, 230, 231] (by decide +kernel) (by decide +kernel)
set_option maxRecDepth 20000 in
theorem gX7_carryOut_X4_readOrder_n197 : GoodIn wsX7_carryOut (wsX4_readOrder) := ggX7_carryOut_X4_readOrder
set_option maxRecDepth 20000 in
theorem ggX7_carryOut_X7_obey : GoodIn wsX7_carryOut wsX7_obey := goodIn_r _ [103, 1, 3, 104, 62, 105, 106, 70, 71, 107, 28, 108, 109, 110, 111, 112, 66, 113, 82, 114, 115, 85, 87, 116, 117, 118, 88, 89, 119, 120, 121, 122, 123, 124, 125, 126, 69, 68, 127, 128, 129, 130, 131, 132, 133, 134, 135, 136, 137, 138, 139, 61, 63, 64, 65, 67, 72, 73, 74, 75, 76, 77, 78, 79, 80, 81, 83, 84, 86, 90, 91, 92, 93, 94, 95, 96, 97, 98, 99, 140, 141, 142, 143, 144, 145, 146, 147, 148, 149, 150, 27, 29, 151, 152, 153, 154, 155, 156, 157, 158, 159, 160, 161, 162, 163, 164, 165, 166, 167, 168, 169, 170, 171, 172, 173, 174, 175, 176, 177, 178, 179, 180, 181, 182, 183, 184, 185, 186, 187, 188, 189, 190, 191, 192, 193, 194, 195, 196, 197, 198, 199, 200, 201, 202, 203, 204, 205, 218, 219, 220, 221, 222, 223, 224, 225, 226, 227, 228, 229, 249, 250, 251, 252, 253, 254, 255, 256, 235, 236, 237, 238, 239, 240, 241, 242, 243, 244, 245, 246, 247, 248, 257, 258, 259, 260] (by decide +kernel) (by decide +kernel)
set_option maxRecDepth 20000 in
theorem gX7_carryOut_X7_obey : GoodIn wsX7_carryOut (wsV RX7 201 RX7 yX7_obey wsX7_obey) := goodIn_app (goodIn_of _ (by decide +kernel)) ggX7_carryOut_X7_obey
set_option maxRecDepth 20000 in
theorem ggX7_carryOut_X4_skipSemicolon : GoodIn wsX7_carryOut wsX4_skipSemicolon := goodIn_r _ [50, 9, 225, 226, 227, 228, 229] (by decide +kernel) (by decide +kernel)
set_option maxRecDepth 20000 in
theorem gX7_carryOut_X4_skipSemicolon_n204 : GoodIn wsX7_carryOut (wsX4_skipSemicolon) := ggX7_carryOut_X4_skipSemicolon
set_option maxRecDepth 20000 in
theorem ggX7_carryOut_X3_empty : GoodIn wsX7_carryOut wsX3_empty := goodIn_r _ [208, 25, 230, 231] (by decide +kernel) (by decide +kernel)
set_option maxRecDepth 20000 in
theorem gX7_carryOut_X3_empty_n188 : GoodIn wsX7_carryOut (wsX3_empty) := ggX7_carryOut_X3_empty
set_option maxRecDepth 20000 in
theorem ggX7_carryOut_X7_settled : GoodIn wsX7_carryOut wsX7_settled := goodIn_r _ [212, 2, 213, 52, 214, 215, 55, 216, 217, 132, 133, 134, 218, 219, 220, 221, 222, 223, 224, 232, 233, 234] (by decide +kernel) (by decide +kernel)
set_option maxRecDepth 20000 in
theorem gX7_carryOut_X7_settled : GoodIn wsX7_carryOut (wsV RX7 60 RX7 yX7_settled wsX7_settled) := goodIn_app (goodIn_of _ (by decide +kernel)) ggX7_carryOut_X7_settled
theorem dX7_carryOut_0 : decode cX7_carryOut 0 = .ok (.aload_n 0, 1) := by decide +kernel
theorem dX7_carryOut_1 : decode cX7_carryOut 1 = .ok (.getfield 48, 3) := by decide +kernel
theorem dX7_carryOut_4 : decode cX7_carryOut 4 = .ok (.invokevirtual 191, 3) := by decide +kernel
theorem dX7_carryOut_7 : decode cX7_carryOut 7 = .ok (.bipush (-6), 2) := by decide +kernel
theorem dX7_carryOut_9 : decode cX7_carryOut 9 = .ok (.if_icmp .eq 6, 3) := by decide +kernel
theorem dX7_carryOut_12 : decode cX7_carryOut 12 = .ok (.bipush (-3), 2) := by decide +kernel
theorem dX7_carryOut_14 : decode cX7_carryOut 14 = .ok (.ireturn, 1) := by decide +kernel
theorem dX7_carryOut_15 : decode cX7_carryOut 15 = .ok (.aload_n 0, 1) := by decide +kernel
theorem dX7_carryOut_16 : decode cX7_carryOut 16 = .ok (.getfield 22, 3) := by decide +kernel
theorem dX7_carryOut_19 : decode cX7_carryOut 19 = .ok (.aload_n 0, 1) := by decide +kernel
theorem dX7_carryOut_20 : decode cX7_carryOut 20 = .ok (.getfield 10, 3) := by decide +kernel
theorem dX7_carryOut_23 : decode cX7_carryOut 23 = .ok (.invokevirtual 52, 3) := by decide +kernel
theorem dX7_carryOut_26 : decode cX7_carryOut 26 = .ok (.iconst 0, 1) := by decide +kernel
theorem dX7_carryOut_27 : decode cX7_carryOut 27 = .ok (.istore_n 1, 1) := by decide +kernel
theorem dX7_carryOut_28 : decode cX7_carryOut 28 = .ok (.aload_n 0, 1) := by decide +kernel
theorem dX7_carryOut_29 : decode cX7_carryOut 29 = .ok (.getfield 48, 3) := by decide +kernel
theorem dX7_carryOut_32 : decode cX7_carryOut 32 = .ok (.invokevirtual 194, 3) := by decide +kernel
theorem dX7_carryOut_35 : decode cX7_carryOut 35 = .ok (.iload_n 1, 1) := by decide +kernel
theorem dX7_carryOut_36 : decode cX7_carryOut 36 = .ok (.bipush 80, 2) := by decide +kernel
theorem dX7_carryOut_38 : decode cX7_carryOut 38 = .ok (.if_icmp .ge 33, 3) := by decide +kernel
theorem dX7_carryOut_41 : decode cX7_carryOut 41 = .ok (.aload_n 0, 1) := by decide +kernel
theorem dX7_carryOut_42 : decode cX7_carryOut 42 = .ok (.getfield 48, 3) := by decide +kernel
theorem dX7_carryOut_45 : decode cX7_carryOut 45 = .ok (.invokevirtual 197, 3) := by decide +kernel
theorem dX7_carryOut_48 : decode cX7_carryOut 48 = .ok (.ifCond .eq 23, 3) := by decide +kernel
theorem dX7_carryOut_51 : decode cX7_carryOut 51 = .ok (.aload_n 0, 1) := by decide +kernel
theorem dX7_carryOut_52 : decode cX7_carryOut 52 = .ok (.invokevirtual 201, 3) := by decide +kernel
theorem dX7_carryOut_55 : decode cX7_carryOut 55 = .ok (.ifCond .lt 16, 3) := by decide +kernel
theorem dX7_carryOut_58 : decode cX7_carryOut 58 = .ok (.iinc 1 1, 3) := by decide +kernel
theorem dX7_carryOut_61 : decode cX7_carryOut 61 = .ok (.aload_n 0, 1) := by decide +kernel
theorem dX7_carryOut_62 : decode cX7_carryOut 62 = .ok (.getfield 48, 3) := by decide +kernel
theorem dX7_carryOut_65 : decode cX7_carryOut 65 = .ok (.invokevirtual 204, 3) := by decide +kernel
theorem dX7_carryOut_68 : decode cX7_carryOut 68 = .ok (.goto (-33), 3) := by decide +kernel
theorem dX7_carryOut_71 : decode cX7_carryOut 71 = .ok (.aload_n 0, 1) := by decide +kernel
theorem dX7_carryOut_72 : decode cX7_carryOut 72 = .ok (.getfield 39, 3) := by decide +kernel
theorem dX7_carryOut_75 : decode cX7_carryOut 75 = .ok (.invokevirtual 188, 3) := by decide +kernel
theorem dX7_carryOut_78 : decode cX7_carryOut 78 = .ok (.pop, 1) := by decide +kernel
theorem dX7_carryOut_79 : decode cX7_carryOut 79 = .ok (.aload_n 0, 1) := by decide +kernel
theorem dX7_carryOut_80 : decode cX7_carryOut 80 = .ok (.iload_n 1, 1) := by decide +kernel
theorem dX7_carryOut_81 : decode cX7_carryOut 81 = .ok (.invokevirtual 60, 3) := by decide +kernel
theorem dX7_carryOut_84 : decode cX7_carryOut 84 = .ok (.ireturn, 1) := by decide +kernel
set_option maxRecDepth 20000 in
theorem ggX7_obey_X0_accept : GoodIn wsX7_obey wsX0_accept := goodIn_r _ [6, 7, 8, 9, 10, 11, 12, 13, 14, 4, 15, 16, 17, 18, 19, 20, 21, 22, 23, 24, 25, 26, 27, 28, 29, 30, 31, 32, 33, 34, 35, 36, 37, 159, 160, 161, 162, 163, 164, 165, 166, 167, 168, 169, 170, 171, 172, 173, 174, 175, 176, 177, 178, 179, 180] (by decide +kernel) (by decide +kernel)
set_option maxRecDepth 20000 in
theorem gX7_obey_X0_accept_n64 : GoodIn wsX7_obey (wsX0_accept) := ggX7_obey_X0_accept
set_option maxRecDepth 20000 in
theorem ggX7_obey_X7_serveSlips : GoodIn wsX7_obey wsX7_serveSlips := goodIn_r _ [41, 2, 42, 43, 44, 45, 46, 47, 48, 4, 49, 50, 37, 36, 51, 52, 53, 54, 16, 55, 7, 8, 56, 57, 58, 59, 60, 61, 62, 63, 10, 64, 65, 18, 66, 67, 21, 68, 22, 26, 27, 69, 70, 71, 72, 73, 74, 75, 76, 77, 78, 79, 80, 81, 82, 83, 84, 85, 86, 87, 88, 89, 90, 91, 92, 93, 94, 95, 17, 19, 20, 96, 97, 98, 99, 100, 101, 102, 103, 104, 105, 106, 107, 108, 109, 110, 111, 112, 113, 114, 115, 116, 117, 118, 119, 120, 121, 122, 123, 124, 125, 126, 127, 128, 129, 130, 131, 132, 133, 23, 24, 25, 134, 135, 136, 137, 32, 33, 34, 35, 138, 139, 140, 141, 142, 147, 148, 149, 150, 151, 152, 153, 167, 168, 169, 170, 171, 172, 173, 174, 175, 176, 177, 178, 179, 180, 159, 160, 161, 162, 163, 164, 165, 166, 181, 182, 183, 184] (by decide +kernel) (by decide +kernel)
set_option maxRecDepth 20000 in
theorem gX7_obey_X7_serveSlips : GoodIn wsX7_obey (wsV RX7 71 RX7 yX7_serveSlips wsX7_serveSlips) := goodIn_app (goodIn_of _ (by decide +kernel)) ggX7_obey_X7_serveSlips
set_option maxRecDepth 20000 in
theorem ggX7_obey_X0_stand : GoodIn wsX7_obey wsX0_stand := goodIn_r _ [145, 8, 146, 167, 168, 169, 170, 171, 172, 173, 174, 175, 176, 177, 178, 179, 180] (by decide +kernel) (by decide +kernel)
set_option maxRecDepth 20000 in
theorem gX7_obey_X0_stand_n74 : GoodIn wsX7_obey (wsX0_stand) := ggX7_obey_X0_stand
theorem dX7_obey_0 : decode cX7_obey 0 = .ok (.aload_n 0, 1) := by decide +kernel
theorem dX7_obey_1 : decode cX7_obey 1 = .ok (.getfield 48, 3) := by decide +kernel
theorem dX7_obey_4 : decode cX7_obey 4 = .ok (.getfield 207, 3) := by decide +kernel
theorem dX7_obey_7 : decode cX7_obey 7 = .ok (.lookupswitch 95 #[(114, 33), (115, 83), (119, 58)], 33) := by decide +kernel
theorem dX7_obey_40 : decode cX7_obey 40 = .ok (.aload_n 0, 1) := by decide +kernel
theorem dX7_obey_41 : decode cX7_obey 41 = .ok (.getfield 10, 3) := by decide +kernel
theorem dX7_obey_44 : decode cX7_obey 44 = .ok (.iconst 0, 1) := by decide +kernel
theorem dX7_obey_45 : decode cX7_obey 45 = .ok (.aload_n 0, 1) := by decide +kernel
theorem dX7_obey_46 : decode cX7_obey 46 = .ok (.getfield 48, 3) := by decide +kernel
theorem dX7_obey_49 : decode cX7_obey 49 = .ok (.getfield 210, 3) := by decide +kernel
theorem dX7_obey_52 : decode cX7_obey 52 = .ok (.iconst 1, 1) := by decide +kernel
theorem dX7_obey_53 : decode cX7_obey 53 = .ok (.aload_n 0, 1) := by decide +kernel
theorem dX7_obey_54 : decode cX7_obey 54 = .ok (.getfield 48, 3) := by decide +kernel
theorem dX7_obey_57 : decode cX7_obey 57 = .ok (.getfield 211, 3) := by decide +kernel
theorem dX7_obey_60 : decode cX7_obey 60 = .ok (.iadd, 1) := by decide +kernel
theorem dX7_obey_61 : decode cX7_obey 61 = .ok (.invokevirtual 64, 3) := by decide +kernel
theorem dX7_obey_64 : decode cX7_obey 64 = .ok (.ireturn, 1) := by decide +kernel
theorem dX7_obey_65 : decode cX7_obey 65 = .ok (.aload_n 0, 1) := by decide +kernel
theorem dX7_obey_66 : decode cX7_obey 66 = .ok (.getfield 10, 3) := by decide +kernel
theorem dX7_obey_69 : decode cX7_obey 69 = .ok (.iconst 1, 1) := by decide +kernel
theorem dX7_obey_70 : decode cX7_obey 70 = .ok (.aload_n 0, 1) := by decide +kernel
theorem dX7_obey_71 : decode cX7_obey 71 = .ok (.getfield 48, 3) := by decide +kernel
theorem dX7_obey_74 : decode cX7_obey 74 = .ok (.getfield 210, 3) := by decide +kernel
theorem dX7_obey_77 : decode cX7_obey 77 = .ok (.iconst 1, 1) := by decide +kernel
theorem dX7_obey_78 : decode cX7_obey 78 = .ok (.aload_n 0, 1) := by decide +kernel
theorem dX7_obey_79 : decode cX7_obey 79 = .ok (.getfield 48, 3) := by decide +kernel
theorem dX7_obey_82 : decode cX7_obey 82 = .ok (.getfield 211, 3) := by decide +kernel
theorem dX7_obey_85 : decode cX7_obey 85 = .ok (.iadd, 1) := by decide +kernel
theorem dX7_obey_86 : decode cX7_obey 86 = .ok (.invokevirtual 64, 3) := by decide +kernel
theorem dX7_obey_89 : decode cX7_obey 89 = .ok (.ireturn, 1) := by decide +kernel
theorem dX7_obey_90 : decode cX7_obey 90 = .ok (.aload_n 0, 1) := by decide +kernel
theorem dX7_obey_91 : decode cX7_obey 91 = .ok (.aload_n 0, 1) := by decide +kernel
theorem dX7_obey_92 : decode cX7_obey 92 = .ok (.getfield 48, 3) := by decide +kernel
theorem dX7_obey_95 : decode cX7_obey 95 = .ok (.getfield 210, 3) := by decide +kernel
theorem dX7_obey_98 : decode cX7_obey 98 = .ok (.invokevirtual 71, 3) := by decide +kernel
theorem dX7_obey_101 : decode cX7_obey 101 = .ok (.ireturn, 1) := by decide +kernel
theorem dX7_obey_102 : decode cX7_obey 102 = .ok (.aload_n 0, 1) := by decide +kernel
theorem dX7_obey_103 : decode cX7_obey 103 = .ok (.getfield 10, 3) := by decide +kernel
theorem dX7_obey_106 : decode cX7_obey 106 = .ok (.aload_n 0, 1) := by decide +kernel
theorem dX7_obey_107 : decode cX7_obey 107 = .ok (.getfield 48, 3) := by decide +kernel
theorem dX7_obey_110 : decode cX7_obey 110 = .ok (.getfield 210, 3) := by decide +kernel
theorem dX7_obey_113 : decode cX7_obey 113 = .ok (.invokevirtual 74, 3) := by decide +kernel
theorem dX7_obey_116 : decode cX7_obey 116 = .ok (.ireturn, 1) := by decide +kernel
set_option maxRecDepth 20000 in
theorem ggX7_undo_X1_takeBack : GoodIn wsX7_undo wsX1_takeBack := goodIn_r _ [6, 7, 8, 9, 10, 11, 4, 12, 13, 14, 15, 16, 17, 18, 19, 20, 21, 22, 23, 24, 25, 26, 27, 28, 29, 30, 31, 32, 33, 34, 35, 36, 37, 38, 39, 40, 41, 42, 43, 44, 45, 46, 47, 48, 49, 50, 51, 52, 53, 61, 62, 63, 64, 65, 66, 67, 68, 69, 70, 71, 72, 73, 74, 75, 76, 77, 78, 79, 80, 81, 82, 83, 84, 85, 86, 87, 88, 89] (by decide +kernel) (by decide +kernel)
set_option maxRecDepth 20000 in
theorem gX7_undo_X1_takeBack_n214 : GoodIn wsX7_undo (wsX1_takeBack) := ggX7_undo_X1_takeBack
theorem dX7_undo_0 : decode cX7_undo 0 = .ok (.aload_n 0, 1) := by decide +kernel
theorem dX7_undo_1 : decode cX7_undo 1 = .ok (.getfield 22, 3) := by decide +kernel
theorem dX7_undo_4 : decode cX7_undo 4 = .ok (.getfield 155, 3) := by decide +kernel
theorem dX7_undo_7 : decode cX7_undo 7 = .ok (.ifCond .ne 6, 3) := by decide +kernel
theorem dX7_undo_10 : decode cX7_undo 10 = .ok (.bipush (-5), 2) := by decide +kernel
theorem dX7_undo_12 : decode cX7_undo 12 = .ok (.ireturn, 1) := by decide +kernel
theorem dX7_undo_13 : decode cX7_undo 13 = .ok (.aload_n 0, 1) := by decide +kernel
theorem dX7_undo_14 : decode cX7_undo 14 = .ok (.getfield 22, 3) := by decide +kernel
theorem dX7_undo_17 : decode cX7_undo 17 = .ok (.aload_n 0, 1) := by decide +kernel
theorem dX7_undo_18 : decode cX7_undo 18 = .ok (.getfield 10, 3) := by decide +kernel
theorem dX7_undo_21 : decode cX7_undo 21 = .ok (.invokevirtual 214, 3) := by decide +kernel
theorem dX7_undo_24 : decode cX7_undo 24 = .ok (.aload_n 0, 1) := by decide +kernel
theorem dX7_undo_25 : decode cX7_undo 25 = .ok (.getfield 22, 3) := by decide +kernel
theorem dX7_undo_28 : decode cX7_undo 28 = .ok (.getfield 155, 3) := by decide +kernel
theorem dX7_undo_31 : decode cX7_undo 31 = .ok (.ireturn, 1) := by decide +kernel
set_option maxRecDepth 20000 in
theorem ggX7_save_X7_slotAt : GoodIn wsX7_save wsX7_slotAt := goodIn_r _ [6, 7, 8, 53, 54, 55, 56, 57, 58, 59] (by decide +kernel) (by decide +kernel)
set_option maxRecDepth 20000 in
theorem gX7_save_X7_slotAt : GoodIn wsX7_save (wsV RX7 217 RX7 yX7_slotAt wsX7_slotAt) := goodIn_app (goodIn_of _ (by decide +kernel)) ggX7_save_X7_slotAt
set_option maxRecDepth 20000 in
theorem ggX7_save_X0_copyFrom : GoodIn wsX7_save wsX0_copyFrom := goodIn_r _ [12, 13, 14, 15, 16, 17, 18, 19, 20, 21, 22, 23, 24, 25, 26, 27, 5, 28, 29, 30, 31, 32, 33, 34, 35, 36, 37, 38, 39, 40, 41, 42, 43, 44, 45, 46, 47, 60, 61, 62, 63, 64, 65, 66, 67, 68, 69, 70, 71, 72, 73, 74, 75, 76, 77, 78, 79, 80, 81, 82, 83, 84, 85] (by decide +kernel) (by decide +kernel)
set_option maxRecDepth 20000 in
theorem gX7_save_X0_copyFrom_n89 : GoodIn wsX7_save (wsX0_copyFrom) := ggX7_save_X0_copyFrom
set_option maxRecDepth 20000 in
theorem ggX7_save_X0_slipsThatWait : GoodIn wsX7_save wsX0_slipsThatWait := goodIn_r _ [50, 16, 17, 60, 61, 62, 63, 64, 65, 66, 67, 68, 69, 70, 71, 72, 73] (by decide +kernel) (by decide +kernel)
set_option maxRecDepth 20000 in
theorem gX7_save_X0_slipsThatWait_n80 : GoodIn wsX7_save (wsX0_slipsThatWait) := ggX7_save_X0_slipsThatWait
theorem dX7_save_0 : decode cX7_save 0 = .ok (.aload_n 0, 1) := by decide +kernel
theorem dX7_save_1 : decode cX7_save 1 = .ok (.iload_n 1, 1) := by decide +kernel
theorem dX7_save_2 : decode cX7_save 2 = .ok (.invokevirtual 217, 3) := by decide +kernel
theorem dX7_save_5 : decode cX7_save 5 = .ok (.astore_n 2, 1) := by decide +kernel
theorem dX7_save_6 : decode cX7_save 6 = .ok (.aload_n 2, 1) := by decide +kernel
theorem dX7_save_7 : decode cX7_save 7 = .ok (.ifnonnull 6, 3) := by decide +kernel
theorem dX7_save_10 : decode cX7_save 10 = .ok (.bipush (-2), 2) := by decide +kernel
theorem dX7_save_12 : decode cX7_save 12 = .ok (.ireturn, 1) := by decide +kernel
theorem dX7_save_13 : decode cX7_save 13 = .ok (.aload_n 2, 1) := by decide +kernel
theorem dX7_save_14 : decode cX7_save 14 = .ok (.getfield 221, 3) := by decide +kernel
theorem dX7_save_17 : decode cX7_save 17 = .ok (.aload_n 0, 1) := by decide +kernel
theorem dX7_save_18 : decode cX7_save 18 = .ok (.getfield 10, 3) := by decide +kernel
theorem dX7_save_21 : decode cX7_save 21 = .ok (.invokevirtual 89, 3) := by decide +kernel
theorem dX7_save_24 : decode cX7_save 24 = .ok (.aload_n 2, 1) := by decide +kernel
theorem dX7_save_25 : decode cX7_save 25 = .ok (.iconst 1, 1) := by decide +kernel
theorem dX7_save_26 : decode cX7_save 26 = .ok (.putfield 224, 3) := by decide +kernel
theorem dX7_save_29 : decode cX7_save 29 = .ok (.aload_n 0, 1) := by decide +kernel
theorem dX7_save_30 : decode cX7_save 30 = .ok (.getfield 10, 3) := by decide +kernel
theorem dX7_save_33 : decode cX7_save 33 = .ok (.invokevirtual 80, 3) := by decide +kernel
theorem dX7_save_36 : decode cX7_save 36 = .ok (.ireturn, 1) := by decide +kernel
set_option maxRecDepth 20000 in
theorem ggX7_restore_X7_slotAt : GoodIn wsX7_restore wsX7_slotAt := goodIn_r _ [7, 8, 9, 76, 77, 78, 79, 80, 81, 82] (by decide +kernel) (by decide +kernel)
set_option maxRecDepth 20000 in
theorem gX7_restore_X7_slotAt : GoodIn wsX7_restore (wsV RX7 217 RX7 yX7_slotAt wsX7_slotAt) := goodIn_app (goodIn_of _ (by decide +kernel)) ggX7_restore_X7_slotAt
set_option maxRecDepth 20000 in
theorem ggX7_restore_X1_prepare : GoodIn wsX7_restore wsX1_prepare := goodIn_r _ [13, 14, 15, 16, 17, 11, 18, 19, 20, 21, 22, 23, 24, 25, 26, 27, 28, 29, 30, 31, 32, 33, 34, 35, 36, 37, 38, 6, 39, 40, 41, 42, 43, 44, 45, 46, 47, 48, 49, 50, 51, 52, 53, 54, 55, 56, 57, 58, 83, 84, 85, 86, 87, 88, 89, 90, 91, 92, 93, 94, 95, 96, 97, 98, 99, 100, 101, 102, 103, 104, 105, 106, 107, 108, 109, 110, 111] (by decide +kernel) (by decide +kernel)
set_option maxRecDepth 20000 in
theorem gX7_restore_X1_prepare_n52 : GoodIn wsX7_restore (wsX1_prepare) := ggX7_restore_X1_prepare
set_option maxRecDepth 20000 in
theorem ggX7_restore_X0_copyFrom : GoodIn wsX7_restore wsX0_copyFrom := goodIn_r _ [23, 24, 25, 26, 27, 28, 29, 30, 31, 32, 33, 34, 35, 36, 37, 38, 6, 39, 40, 41, 42, 43, 44, 45, 46, 47, 48, 49, 50, 51, 52, 53, 54, 55, 56, 57, 58, 86, 87, 88, 89, 90, 91, 92, 93, 94, 95, 96, 97, 98, 99, 100, 101, 102, 103, 104, 105, 106, 107, 108, 109, 110, 111] (by decide +kernel) (by decide +kernel)
set_option maxRecDepth 20000 in
theorem gX7_restore_X0_copyFrom_n89 : GoodIn wsX7_restore (wsX0_copyFrom) := ggX7_restore_X0_copyFrom
set_option maxRecDepth 20000 in
theorem ggX7_restore_X0_slipsThatWait : GoodIn wsX7_restore wsX0_slipsThatWait := goodIn_r _ [61, 27, 28, 86, 87, 88, 89, 90, 91, 92, 93, 94, 95, 96, 97, 98, 99] (by decide +kernel) (by decide +kernel)
set_option maxRecDepth 20000 in
theorem gX7_restore_X0_slipsThatWait_n80 : GoodIn wsX7_restore (wsX0_slipsThatWait) := ggX7_restore_X0_slipsThatWait
set_option maxRecDepth 20000 in
theorem ggX7_restore_X7_settled : GoodIn wsX7_restore wsX7_settled := goodIn_r _ [65, 1, 66, 11, 67, 68, 14, 69, 70, 71, 72, 73, 76, 77, 78, 79, 80, 81, 82, 83, 84, 85] (by decide +kernel) (by decide +kernel)
set_option maxRecDepth 20000 in
theorem gX7_restore_X7_settled : GoodIn wsX7_restore (wsV RX7 60 RX7 yX7_settled wsX7_settled) := goodIn_app (goodIn_of _ (by decide +kernel)) ggX7_restore_X7_settled
theorem dX7_restore_0 : decode cX7_restore 0 = .ok (.aload_n 0, 1) := by decide +kernel
theorem dX7_restore_1 : decode cX7_restore 1 = .ok (.iload_n 1, 1) := by decide +kernel
theorem dX7_restore_2 : decode cX7_restore 2 = .ok (.invokevirtual 217, 3) := by decide +kernel
theorem dX7_restore_5 : decode cX7_restore 5 = .ok (.astore_n 2, 1) := by decide +kernel
theorem dX7_restore_6 : decode cX7_restore 6 = .ok (.aload_n 2, 1) := by decide +kernel
theorem dX7_restore_7 : decode cX7_restore 7 = .ok (.ifnonnull 6, 3) := by decide +kernel
theorem dX7_restore_10 : decode cX7_restore 10 = .ok (.bipush (-2), 2) := by decide +kernel
theorem dX7_restore_12 : decode cX7_restore 12 = .ok (.ireturn, 1) := by decide +kernel
theorem dX7_restore_13 : decode cX7_restore 13 = .ok (.aload_n 2, 1) := by decide +kernel
theorem dX7_restore_14 : decode cX7_restore 14 = .ok (.getfield 224, 3) := by decide +kernel
theorem dX7_restore_17 : decode cX7_restore 17 = .ok (.ifCond .ne 6, 3) := by decide +kernel
theorem dX7_restore_20 : decode cX7_restore 20 = .ok (.bipush (-5), 2) := by decide +kernel
theorem dX7_restore_22 : decode cX7_restore 22 = .ok (.ireturn, 1) := by decide +kernel
theorem dX7_restore_23 : decode cX7_restore 23 = .ok (.aload_n 0, 1) := by decide +kernel
theorem dX7_restore_24 : decode cX7_restore 24 = .ok (.getfield 22, 3) := by decide +kernel
theorem dX7_restore_27 : decode cX7_restore 27 = .ok (.aload_n 0, 1) := by decide +kernel
theorem dX7_restore_28 : decode cX7_restore 28 = .ok (.getfield 10, 3) := by decide +kernel
theorem dX7_restore_31 : decode cX7_restore 31 = .ok (.invokevirtual 52, 3) := by decide +kernel
theorem dX7_restore_34 : decode cX7_restore 34 = .ok (.aload_n 0, 1) := by decide +kernel
theorem dX7_restore_35 : decode cX7_restore 35 = .ok (.getfield 10, 3) := by decide +kernel
theorem dX7_restore_38 : decode cX7_restore 38 = .ok (.aload_n 2, 1) := by decide +kernel
theorem dX7_restore_39 : decode cX7_restore 39 = .ok (.getfield 221, 3) := by decide +kernel
theorem dX7_restore_42 : decode cX7_restore 42 = .ok (.invokevirtual 89, 3) := by decide +kernel
theorem dX7_restore_45 : decode cX7_restore 45 = .ok (.aload_n 0, 1) := by decide +kernel
theorem dX7_restore_46 : decode cX7_restore 46 = .ok (.aload_n 0, 1) := by decide +kernel
theorem dX7_restore_47 : decode cX7_restore 47 = .ok (.getfield 10, 3) := by decide +kernel
theorem dX7_restore_50 : decode cX7_restore 50 = .ok (.invokevirtual 80, 3) := by decide +kernel
theorem dX7_restore_53 : decode cX7_restore 53 = .ok (.invokevirtual 60, 3) := by decide +kernel
theorem dX7_restore_56 : decode cX7_restore 56 = .ok (.ireturn, 1) := by decide +kernel
theorem dX7_slotAt_0 : decode cX7_slotAt 0 = .ok (.iload_n 1, 1) := by decide +kernel
theorem dX7_slotAt_1 : decode cX7_slotAt 1 = .ok (.lookupswitch 37 #[(0, 27), (1, 32)], 27) := by decide +kernel
theorem dX7_slotAt_28 : decode cX7_slotAt 28 = .ok (.aload_n 0, 1) := by decide +kernel
theorem dX7_slotAt_29 : decode cX7_slotAt 29 = .ok (.getfield 29, 3) := by decide +kernel
theorem dX7_slotAt_32 : decode cX7_slotAt 32 = .ok (.areturn, 1) := by decide +kernel
theorem dX7_slotAt_33 : decode cX7_slotAt 33 = .ok (.aload_n 0, 1) := by decide +kernel
theorem dX7_slotAt_34 : decode cX7_slotAt 34 = .ok (.getfield 33, 3) := by decide +kernel
theorem dX7_slotAt_37 : decode cX7_slotAt 37 = .ok (.areturn, 1) := by decide +kernel
theorem dX7_slotAt_38 : decode cX7_slotAt 38 = .ok (.aconst_null, 1) := by decide +kernel
theorem dX7_slotAt_39 : decode cX7_slotAt 39 = .ok (.areturn, 1) := by decide +kernel
theorem dX7_isSlip_0 : decode cX7_isSlip 0 = .ok (.iload_n 0, 1) := by decide +kernel
theorem dX7_isSlip_1 : decode cX7_isSlip 1 = .ok (.ifCond .eq 8, 3) := by decide +kernel
theorem dX7_isSlip_4 : decode cX7_isSlip 4 = .ok (.iload_n 0, 1) := by decide +kernel
theorem dX7_isSlip_5 : decode cX7_isSlip 5 = .ok (.iconst 1, 1) := by decide +kernel
theorem dX7_isSlip_6 : decode cX7_isSlip 6 = .ok (.if_icmp .ne 38, 3) := by decide +kernel
theorem dX7_isSlip_9 : decode cX7_isSlip 9 = .ok (.iload_n 1, 1) := by decide +kernel
theorem dX7_isSlip_10 : decode cX7_isSlip 10 = .ok (.ifCond .lt 34, 3) := by decide +kernel
theorem dX7_isSlip_13 : decode cX7_isSlip 13 = .ok (.iload_n 1, 1) := by decide +kernel
theorem dX7_isSlip_14 : decode cX7_isSlip 14 = .ok (.bipush 99, 2) := by decide +kernel
theorem dX7_isSlip_16 : decode cX7_isSlip 16 = .ok (.if_icmp .gt 28, 3) := by decide +kernel
theorem dX7_isSlip_19 : decode cX7_isSlip 19 = .ok (.iload_n 2, 1) := by decide +kernel
theorem dX7_isSlip_20 : decode cX7_isSlip 20 = .ok (.iconst 1, 1) := by decide +kernel
theorem dX7_isSlip_21 : decode cX7_isSlip 21 = .ok (.if_icmp .lt 23, 3) := by decide +kernel
theorem dX7_isSlip_24 : decode cX7_isSlip 24 = .ok (.iload_n 2, 1) := by decide +kernel
theorem dX7_isSlip_25 : decode cX7_isSlip 25 = .ok (.bipush 9, 2) := by decide +kernel
theorem dX7_isSlip_27 : decode cX7_isSlip 27 = .ok (.if_icmp .gt 17, 3) := by decide +kernel
theorem dX7_isSlip_30 : decode cX7_isSlip 30 = .ok (.iload_n 1, 1) := by decide +kernel
theorem dX7_isSlip_31 : decode cX7_isSlip 31 = .ok (.iload_n 2, 1) := by decide +kernel
theorem dX7_isSlip_32 : decode cX7_isSlip 32 = .ok (.iadd, 1) := by decide +kernel
theorem dX7_isSlip_33 : decode cX7_isSlip 33 = .ok (.iconst 1, 1) := by decide +kernel
theorem dX7_isSlip_34 : decode cX7_isSlip 34 = .ok (.isub, 1) := by decide +kernel
theorem dX7_isSlip_35 : decode cX7_isSlip 35 = .ok (.bipush 99, 2) := by decide +kernel
theorem dX7_isSlip_37 : decode cX7_isSlip 37 = .ok (.if_icmp .gt 7, 3) := by decide +kernel
theorem dX7_isSlip_40 : decode cX7_isSlip 40 = .ok (.iconst 1, 1) := by decide +kernel
theorem dX7_isSlip_41 : decode cX7_isSlip 41 = .ok (.goto 4, 3) := by decide +kernel
theorem dX7_isSlip_44 : decode cX7_isSlip 44 = .ok (.iconst 0, 1) := by decide +kernel
theorem dX7_isSlip_45 : decode cX7_isSlip 45 = .ok (.ireturn, 1) := by decide +kernel
theorem dX7_isIndexOf_0 : decode cX7_isIndexOf 0 = .ok (.iload_n 1, 1) := by decide +kernel
theorem dX7_isIndexOf_1 : decode cX7_isIndexOf 1 = .ok (.ifCond .lt 13, 3) := by decide +kernel
theorem dX7_isIndexOf_4 : decode cX7_isIndexOf 4 = .ok (.iload_n 1, 1) := by decide +kernel
theorem dX7_isIndexOf_5 : decode cX7_isIndexOf 5 = .ok (.aload_n 0, 1) := by decide +kernel
theorem dX7_isIndexOf_6 : decode cX7_isIndexOf 6 = .ok (.arraylength, 1) := by decide +kernel
theorem dX7_isIndexOf_7 : decode cX7_isIndexOf 7 = .ok (.if_icmp .ge 7, 3) := by decide +kernel
theorem dX7_isIndexOf_10 : decode cX7_isIndexOf 10 = .ok (.iconst 1, 1) := by decide +kernel
theorem dX7_isIndexOf_11 : decode cX7_isIndexOf 11 = .ok (.goto 4, 3) := by decide +kernel
theorem dX7_isIndexOf_14 : decode cX7_isIndexOf 14 = .ok (.iconst 0, 1) := by decide +kernel
theorem dX7_isIndexOf_15 : decode cX7_isIndexOf 15 = .ok (.ireturn, 1) := by decide +kernel
theorem dX7_valueAt_0 : decode cX7_valueAt 0 = .ok (.iload_n 1, 1) := by decide +kernel
theorem dX7_valueAt_1 : decode cX7_valueAt 1 = .ok (.ifCond .lt 15, 3) := by decide +kernel
theorem dX7_valueAt_4 : decode cX7_valueAt 4 = .ok (.iload_n 1, 1) := by decide +kernel
theorem dX7_valueAt_5 : decode cX7_valueAt 5 = .ok (.aload_n 0, 1) := by decide +kernel
theorem dX7_valueAt_6 : decode cX7_valueAt 6 = .ok (.arraylength, 1) := by decide +kernel
theorem dX7_valueAt_7 : decode cX7_valueAt 7 = .ok (.if_icmp .ge 9, 3) := by decide +kernel
theorem dX7_valueAt_10 : decode cX7_valueAt 10 = .ok (.aload_n 0, 1) := by decide +kernel
theorem dX7_valueAt_11 : decode cX7_valueAt 11 = .ok (.iload_n 1, 1) := by decide +kernel
theorem dX7_valueAt_12 : decode cX7_valueAt 12 = .ok (.iaload, 1) := by decide +kernel
theorem dX7_valueAt_13 : decode cX7_valueAt 13 = .ok (.goto 4, 3) := by decide +kernel
theorem dX7_valueAt_16 : decode cX7_valueAt 16 = .ok (.iconst 0, 1) := by decide +kernel
theorem dX7_valueAt_17 : decode cX7_valueAt 17 = .ok (.ireturn, 1) := by decide +kernel
theorem dX7_copyRow_0 : decode cX7_copyRow 0 = .ok (.iconst 0, 1) := by decide +kernel
theorem dX7_copyRow_1 : decode cX7_copyRow 1 = .ok (.istore_n 2, 1) := by decide +kernel
theorem dX7_copyRow_2 : decode cX7_copyRow 2 = .ok (.iload_n 2, 1) := by decide +kernel
theorem dX7_copyRow_3 : decode cX7_copyRow 3 = .ok (.aload_n 0, 1) := by decide +kernel
theorem dX7_copyRow_4 : decode cX7_copyRow 4 = .ok (.arraylength, 1) := by decide +kernel
theorem dX7_copyRow_5 : decode cX7_copyRow 5 = .ok (.if_icmp .ge 21, 3) := by decide +kernel
theorem dX7_copyRow_8 : decode cX7_copyRow 8 = .ok (.iload_n 2, 1) := by decide +kernel
theorem dX7_copyRow_9 : decode cX7_copyRow 9 = .ok (.aload_n 1, 1) := by decide +kernel
theorem dX7_copyRow_10 : decode cX7_copyRow 10 = .ok (.arraylength, 1) := by decide +kernel
theorem dX7_copyRow_11 : decode cX7_copyRow 11 = .ok (.if_icmp .ge 15, 3) := by decide +kernel
theorem dX7_copyRow_14 : decode cX7_copyRow 14 = .ok (.aload_n 1, 1) := by decide +kernel
theorem dX7_copyRow_15 : decode cX7_copyRow 15 = .ok (.iload_n 2, 1) := by decide +kernel
theorem dX7_copyRow_16 : decode cX7_copyRow 16 = .ok (.aload_n 0, 1) := by decide +kernel
theorem dX7_copyRow_17 : decode cX7_copyRow 17 = .ok (.iload_n 2, 1) := by decide +kernel
theorem dX7_copyRow_18 : decode cX7_copyRow 18 = .ok (.iaload, 1) := by decide +kernel
theorem dX7_copyRow_19 : decode cX7_copyRow 19 = .ok (.iastore, 1) := by decide +kernel
theorem dX7_copyRow_20 : decode cX7_copyRow 20 = .ok (.iinc 2 1, 3) := by decide +kernel
theorem dX7_copyRow_23 : decode cX7_copyRow 23 = .ok (.goto (-21), 3) := by decide +kernel
theorem dX7_copyRow_26 : decode cX7_copyRow 26 = .ok (.return_, 1) := by decide +kernel
theorem dX8_init_0 : decode cX8_init 0 = .ok (.aload_n 0, 1) := by decide +kernel
theorem dX8_init_1 : decode cX8_init 1 = .ok (.invokespecial 1, 3) := by decide +kernel
theorem dX8_init_4 : decode cX8_init 4 = .ok (.aload_n 0, 1) := by decide +kernel
theorem dX8_init_5 : decode cX8_init 5 = .ok (.sipush 258, 3) := by decide +kernel
theorem dX8_init_8 : decode cX8_init 8 = .ok (.newarray .int, 2) := by decide +kernel
theorem dX8_init_10 : decode cX8_init 10 = .ok (.putfield 7, 3) := by decide +kernel
theorem dX8_init_13 : decode cX8_init 13 = .ok (.aload_n 0, 1) := by decide +kernel
theorem dX8_init_14 : decode cX8_init 14 = .ok (.sipush 1548, 3) := by decide +kernel
theorem dX8_init_17 : decode cX8_init 17 = .ok (.newarray .int, 2) := by decide +kernel
theorem dX8_init_19 : decode cX8_init 19 = .ok (.putfield 13, 3) := by decide +kernel
theorem dX8_init_22 : decode cX8_init 22 = .ok (.aload_n 0, 1) := by decide +kernel
theorem dX8_init_23 : decode cX8_init 23 = .ok (.sipush 258, 3) := by decide +kernel
theorem dX8_init_26 : decode cX8_init 26 = .ok (.newarray .int, 2) := by decide +kernel
theorem dX8_init_28 : decode cX8_init 28 = .ok (.putfield 16, 3) := by decide +kernel
theorem dX8_init_31 : decode cX8_init 31 = .ok (.aload_n 0, 1) := by decide +kernel
theorem dX8_init_32 : decode cX8_init 32 = .ok (.sipush 258, 3) := by decide +kernel
theorem dX8_init_35 : decode cX8_init 35 = .ok (.newarray .int, 2) := by decide +kernel
theorem dX8_init_37 : decode cX8_init 37 = .ok (.putfield 19, 3) := by decide +kernel
theorem dX8_init_40 : decode cX8_init 40 = .ok (.aload_n 0, 1) := by decide +kernel
theorem dX8_init_41 : decode cX8_init 41 = .ok (.sipush 516, 3) := by decide +kernel
theorem dX8_init_44 : decode cX8_init 44 = .ok (.newarray .int, 2) := by decide +kernel
theorem dX8_init_46 : decode cX8_init 46 = .ok (.putfield 22, 3) := by decide +kernel
theorem dX8_init_49 : decode cX8_init 49 = .ok (.aload_n 0, 1) := by decide +kernel
theorem dX8_init_50 : decode cX8_init 50 = .ok (.iconst 2, 1) := by decide +kernel
theorem dX8_init_51 : decode cX8_init 51 = .ok (.newarray .boolean, 2) := by decide +kernel
theorem dX8_init_53 : decode cX8_init 53 = .ok (.putfield 25, 3) := by decide +kernel
theorem dX8_init_56 : decode cX8_init 56 = .ok (.aload_n 0, 1) := by decide +kernel
theorem dX8_init_57 : decode cX8_init 57 = .ok (.bipush 80, 2) := by decide +kernel
theorem dX8_init_59 : decode cX8_init 59 = .ok (.newarray .int, 2) := by decide +kernel
theorem dX8_init_61 : decode cX8_init 61 = .ok (.putfield 29, 3) := by decide +kernel
theorem dX8_init_64 : decode cX8_init 64 = .ok (.aload_n 0, 1) := by decide +kernel
theorem dX8_init_65 : decode cX8_init 65 = .ok (.bipush 8, 2) := by decide +kernel
theorem dX8_init_67 : decode cX8_init 67 = .ok (.newarray .int, 2) := by decide +kernel
theorem dX8_init_69 : decode cX8_init 69 = .ok (.putfield 32, 3) := by decide +kernel
theorem dX8_init_72 : decode cX8_init 72 = .ok (.aload_n 0, 1) := by decide +kernel
theorem dX8_init_73 : decode cX8_init 73 = .ok (.getfield 7, 3) := by decide +kernel
theorem dX8_init_76 : decode cX8_init 76 = .ok (.iconst 0, 1) := by decide +kernel
theorem dX8_init_77 : decode cX8_init 77 = .ok (.bipush 50, 2) := by decide +kernel
theorem dX8_init_79 : decode cX8_init 79 = .ok (.iastore, 1) := by decide +kernel
theorem dX8_init_80 : decode cX8_init 80 = .ok (.aload_n 0, 1) := by decide +kernel
theorem dX8_init_81 : decode cX8_init 81 = .ok (.getfield 7, 3) := by decide +kernel
theorem dX8_init_84 : decode cX8_init 84 = .ok (.iconst 1, 1) := by decide +kernel
theorem dX8_init_85 : decode cX8_init 85 = .ok (.sipush 200, 3) := by decide +kernel
theorem dX8_init_88 : decode cX8_init 88 = .ok (.iastore, 1) := by decide +kernel
theorem dX8_init_89 : decode cX8_init 89 = .ok (.aload_n 0, 1) := by decide +kernel
theorem dX8_init_90 : decode cX8_init 90 = .ok (.getfield 7, 3) := by decide +kernel
theorem dX8_init_93 : decode cX8_init 93 = .ok (.iconst 2, 1) := by decide +kernel
theorem dX8_init_94 : decode cX8_init 94 = .ok (.iconst 4, 1) := by decide +kernel
theorem dX8_init_95 : decode cX8_init 95 = .ok (.iastore, 1) := by decide +kernel
theorem dX8_init_96 : decode cX8_init 96 = .ok (.aload_n 0, 1) := by decide +kernel
theorem dX8_init_97 : decode cX8_init 97 = .ok (.getfield 7, 3) := by decide +kernel
theorem dX8_init_100 : decode cX8_init 100 = .ok (.iconst 3, 1) := by decide +kernel
theorem dX8_init_101 : decode cX8_init 101 = .ok (.iconst 2, 1) := by decide +kernel
theorem dX8_init_102 : decode cX8_init 102 = .ok (.iastore, 1) := by decide +kernel
theorem dX8_init_103 : decode cX8_init 103 = .ok (.aload_n 0, 1) := by decide +kernel
theorem dX8_init_104 : decode cX8_init 104 = .ok (.getfield 7, 3) := by decide +kernel
theorem dX8_init_107 : decode cX8_init 107 = .ok (.iconst 4, 1) := by decide +kernel
theorem dX8_init_108 : decode cX8_init 108 = .ok (.iconst 1, 1) := by decide +kernel
theorem dX8_init_109 : decode cX8_init 109 = .ok (.iastore, 1) := by decide +kernel
theorem dX8_init_110 : decode cX8_init 110 = .ok (.aload_n 0, 1) := by decide +kernel
theorem dX8_init_111 : decode cX8_init 111 = .ok (.getfield 7, 3) := by decide +kernel
theorem dX8_init_114 : decode cX8_init 114 = .ok (.iconst 5, 1) := by decide +kernel
theorem dX8_init_115 : decode cX8_init 115 = .ok (.iconst 2, 1) := by decide +kernel
theorem dX8_init_116 : decode cX8_init 116 = .ok (.iastore, 1) := by decide +kernel
theorem dX8_init_117 : decode cX8_init 117 = .ok (.aload_n 0, 1) := by decide +kernel
theorem dX8_init_118 : decode cX8_init 118 = .ok (.getfield 7, 3) := by decide +kernel
theorem dX8_init_121 : decode cX8_init 121 = .ok (.bipush 16, 2) := by decide +kernel
theorem dX8_init_123 : decode cX8_init 123 = .ok (.iconst 2, 1) := by decide +kernel
theorem dX8_init_124 : decode cX8_init 124 = .ok (.iastore, 1) := by decide +kernel
theorem dX8_init_125 : decode cX8_init 125 = .ok (.return_, 1) := by decide +kernel
theorem dX8_in_0 : decode cX8_in 0 = .ok (.lload_n 0, 1) := by decide +kernel
theorem dX8_in_1 : decode cX8_in 1 = .ok (.iload_n 2, 1) := by decide +kernel
theorem dX8_in_2 : decode cX8_in 2 = .ok (.i2l, 1) := by decide +kernel
theorem dX8_in_3 : decode cX8_in 3 = .ok (.lcmp, 1) := by decide +kernel
theorem dX8_in_4 : decode cX8_in 4 = .ok (.ifCond .lt 14, 3) := by decide +kernel
theorem dX8_in_7 : decode cX8_in 7 = .ok (.lload_n 0, 1) := by decide +kernel
theorem dX8_in_8 : decode cX8_in 8 = .ok (.iload_n 3, 1) := by decide +kernel
theorem dX8_in_9 : decode cX8_in 9 = .ok (.i2l, 1) := by decide +kernel
theorem dX8_in_10 : decode cX8_in 10 = .ok (.lcmp, 1) := by decide +kernel
theorem dX8_in_11 : decode cX8_in 11 = .ok (.ifCond .gt 7, 3) := by decide +kernel
theorem dX8_in_14 : decode cX8_in 14 = .ok (.iconst 1, 1) := by decide +kernel
theorem dX8_in_15 : decode cX8_in 15 = .ok (.goto 4, 3) := by decide +kernel
theorem dX8_in_18 : decode cX8_in 18 = .ok (.iconst 0, 1) := by decide +kernel
theorem dX8_in_19 : decode cX8_in 19 = .ok (.ireturn, 1) := by decide +kernel
theorem dX8_far_0 : decode cX8_far 0 = .ok (.iload_n 0, 1) := by decide +kernel
theorem dX8_far_1 : decode cX8_far 1 = .ok (.iload_n 1, 1) := by decide +kernel
theorem dX8_far_2 : decode cX8_far 2 = .ok (.if_icmp .ge 9, 3) := by decide +kernel
theorem dX8_far_5 : decode cX8_far 5 = .ok (.iload_n 1, 1) := by decide +kernel
theorem dX8_far_6 : decode cX8_far 6 = .ok (.iload_n 0, 1) := by decide +kernel
theorem dX8_far_7 : decode cX8_far 7 = .ok (.isub, 1) := by decide +kernel
theorem dX8_far_8 : decode cX8_far 8 = .ok (.goto 6, 3) := by decide +kernel
theorem dX8_far_11 : decode cX8_far 11 = .ok (.iload_n 0, 1) := by decide +kernel
theorem dX8_far_12 : decode cX8_far 12 = .ok (.iload_n 1, 1) := by decide +kernel
theorem dX8_far_13 : decode cX8_far 13 = .ok (.isub, 1) := by decide +kernel
theorem dX8_far_14 : decode cX8_far 14 = .ok (.ireturn, 1) := by decide +kernel
theorem dX8_its_0 : decode cX8_its 0 = .ok (.aload_n 0, 1) := by decide +kernel
theorem dX8_its_1 : decode cX8_its 1 = .ok (.getfield 7, 3) := by decide +kernel
theorem dX8_its_4 : decode cX8_its 4 = .ok (.bipush 78, 2) := by decide +kernel
theorem dX8_its_6 : decode cX8_its 6 = .ok (.bipush 6, 2) := by decide +kernel
theorem dX8_its_8 : decode cX8_its 8 = .ok (.iload_n 1, 1) := by decide +kernel
theorem dX8_its_9 : decode cX8_its 9 = .ok (.imul, 1) := by decide +kernel
theorem dX8_its_10 : decode cX8_its 10 = .ok (.iadd, 1) := by decide +kernel
theorem dX8_its_11 : decode cX8_its 11 = .ok (.iload_n 2, 1) := by decide +kernel
theorem dX8_its_12 : decode cX8_its 12 = .ok (.iadd, 1) := by decide +kernel
theorem dX8_its_13 : decode cX8_its 13 = .ok (.iaload, 1) := by decide +kernel
theorem dX8_its_14 : decode cX8_its 14 = .ok (.ireturn, 1) := by decide +kernel
set_option maxRecDepth 20000 in
theorem ggX8_lastOf_X8_its : GoodIn wsX8_lastOf wsX8_its := goodIn_r _ [5, 6, 7, 8, 9, 10, 11, 12, 13, 14, 15, 16, 17, 18, 19] (by decide +kernel) (by decide +kernel)
set_option maxRecDepth 20000 in
theorem gX8_lastOf_X8_its : GoodIn wsX8_lastOf (wsV RX8 35 RX8 yX8_its wsX8_its) := goodIn_app (goodIn_of _ (by decide +kernel)) ggX8_lastOf_X8_its
theorem dX8_lastOf_0 : decode cX8_lastOf 0 = .ok (.aload_n 0, 1) := by decide +kernel
theorem dX8_lastOf_1 : decode cX8_lastOf 1 = .ok (.iload_n 1, 1) := by decide +kernel
theorem dX8_lastOf_2 : decode cX8_lastOf 2 = .ok (.iconst 2, 1) := by decide +kernel
theorem dX8_lastOf_3 : decode cX8_lastOf 3 = .ok (.invokevirtual 35, 3) := by decide +kernel
theorem dX8_lastOf_6 : decode cX8_lastOf 6 = .ok (.aload_n 0, 1) := by decide +kernel
theorem dX8_lastOf_7 : decode cX8_lastOf 7 = .ok (.iload_n 1, 1) := by decide +kernel
theorem dX8_lastOf_8 : decode cX8_lastOf 8 = .ok (.iconst 3, 1) := by decide +kernel
theorem dX8_lastOf_9 : decode cX8_lastOf 9 = .ok (.invokevirtual 35, 3) := by decide +kernel
theorem dX8_lastOf_12 : decode cX8_lastOf 12 = .ok (.iadd, 1) := by decide +kernel
theorem dX8_lastOf_13 : decode cX8_lastOf 13 = .ok (.iconst 1, 1) := by decide +kernel
theorem dX8_lastOf_14 : decode cX8_lastOf 14 = .ok (.isub, 1) := by decide +kernel
theorem dX8_lastOf_15 : decode cX8_lastOf 15 = .ok (.ireturn, 1) := by decide +kernel
set_option maxRecDepth 20000 in
theorem ggX8_find_X8_its : GoodIn wsX8_find wsX8_its := goodIn_r _ [6, 1, 7, 8, 9, 10, 11, 12, 13, 14, 15, 16, 17, 18, 19] (by decide +kernel) (by decide +kernel)
set_option maxRecDepth 20000 in
theorem gX8_find_X8_its : GoodIn wsX8_find (wsV RX8 35 RX8 yX8_its wsX8_its) := goodIn_app (goodIn_of _ (by decide +kernel)) ggX8_find_X8_its
theorem dX8_find_0 : decode cX8_find 0 = .ok (.iconst 0, 1) := by decide +kernel
theorem dX8_find_1 : decode cX8_find 1 = .ok (.istore_n 2, 1) := by decide +kernel
theorem dX8_find_2 : decode cX8_find 2 = .ok (.iload_n 2, 1) := by decide +kernel
theorem dX8_find_3 : decode cX8_find 3 = .ok (.aload_n 0, 1) := by decide +kernel
theorem dX8_find_4 : decode cX8_find 4 = .ok (.getfield 7, 3) := by decide +kernel
theorem dX8_find_7 : decode cX8_find 7 = .ok (.bipush 7, 2) := by decide +kernel
theorem dX8_find_9 : decode cX8_find 9 = .ok (.iaload, 1) := by decide +kernel
theorem dX8_find_10 : decode cX8_find 10 = .ok (.if_icmp .ge 21, 3) := by decide +kernel
theorem dX8_find_13 : decode cX8_find 13 = .ok (.aload_n 0, 1) := by decide +kernel
theorem dX8_find_14 : decode cX8_find 14 = .ok (.iload_n 2, 1) := by decide +kernel
theorem dX8_find_15 : decode cX8_find 15 = .ok (.iconst 0, 1) := by decide +kernel
theorem dX8_find_16 : decode cX8_find 16 = .ok (.invokevirtual 35, 3) := by decide +kernel
theorem dX8_find_19 : decode cX8_find 19 = .ok (.iload_n 1, 1) := by decide +kernel
theorem dX8_find_20 : decode cX8_find 20 = .ok (.if_icmp .ne 5, 3) := by decide +kernel
theorem dX8_find_23 : decode cX8_find 23 = .ok (.iload_n 2, 1) := by decide +kernel
theorem dX8_find_24 : decode cX8_find 24 = .ok (.ireturn, 1) := by decide +kernel
theorem dX8_find_25 : decode cX8_find 25 = .ok (.iinc 2 1, 3) := by decide +kernel
theorem dX8_find_28 : decode cX8_find 28 = .ok (.goto (-26), 3) := by decide +kernel
theorem dX8_find_31 : decode cX8_find 31 = .ok (.bipush (-6), 2) := by decide +kernel
theorem dX8_find_33 : decode cX8_find 33 = .ok (.ireturn, 1) := by decide +kernel
set_option maxRecDepth 20000 in
theorem ggX8_many_X8_its : GoodIn wsX8_many wsX8_its := goodIn_r _ [6, 1, 7, 8, 9, 10, 11, 12, 13, 14, 15, 16, 17, 18, 19] (by decide +kernel) (by decide +kernel)
set_option maxRecDepth 20000 in
theorem gX8_many_X8_its : GoodIn wsX8_many (wsV RX8 35 RX8 yX8_its wsX8_its) := goodIn_app (goodIn_of _ (by decide +kernel)) ggX8_many_X8_its
theorem dX8_many_0 : decode cX8_many 0 = .ok (.iconst 0, 1) := by decide +kernel
theorem dX8_many_1 : decode cX8_many 1 = .ok (.istore_n 2, 1) := by decide +kernel
theorem dX8_many_2 : decode cX8_many 2 = .ok (.iconst 0, 1) := by decide +kernel
theorem dX8_many_3 : decode cX8_many 3 = .ok (.istore_n 3, 1) := by decide +kernel
theorem dX8_many_4 : decode cX8_many 4 = .ok (.iload_n 3, 1) := by decide +kernel
theorem dX8_many_5 : decode cX8_many 5 = .ok (.aload_n 0, 1) := by decide +kernel
theorem dX8_many_6 : decode cX8_many 6 = .ok (.getfield 7, 3) := by decide +kernel
theorem dX8_many_9 : decode cX8_many 9 = .ok (.bipush 7, 2) := by decide +kernel
theorem dX8_many_11 : decode cX8_many 11 = .ok (.iaload, 1) := by decide +kernel
theorem dX8_many_12 : decode cX8_many 12 = .ok (.if_icmp .ge 27, 3) := by decide +kernel
theorem dX8_many_15 : decode cX8_many 15 = .ok (.iload_n 2, 1) := by decide +kernel
theorem dX8_many_16 : decode cX8_many 16 = .ok (.aload_n 0, 1) := by decide +kernel
theorem dX8_many_17 : decode cX8_many 17 = .ok (.iload_n 3, 1) := by decide +kernel
theorem dX8_many_18 : decode cX8_many 18 = .ok (.iconst 1, 1) := by decide +kernel
theorem dX8_many_19 : decode cX8_many 19 = .ok (.invokevirtual 35, 3) := by decide +kernel
theorem dX8_many_22 : decode cX8_many 22 = .ok (.iload_n 1, 1) := by decide +kernel
theorem dX8_many_23 : decode cX8_many 23 = .ok (.if_icmp .ne 7, 3) := by decide +kernel
theorem dX8_many_26 : decode cX8_many 26 = .ok (.iconst 1, 1) := by decide +kernel
theorem dX8_many_27 : decode cX8_many 27 = .ok (.goto 4, 3) := by decide +kernel
theorem dX8_many_30 : decode cX8_many 30 = .ok (.iconst 0, 1) := by decide +kernel
theorem dX8_many_31 : decode cX8_many 31 = .ok (.iadd, 1) := by decide +kernel
theorem dX8_many_32 : decode cX8_many 32 = .ok (.istore_n 2, 1) := by decide +kernel
theorem dX8_many_33 : decode cX8_many 33 = .ok (.iinc 3 1, 3) := by decide +kernel
theorem dX8_many_36 : decode cX8_many 36 = .ok (.goto (-32), 3) := by decide +kernel
theorem dX8_many_39 : decode cX8_many 39 = .ok (.iload_n 2, 1) := by decide +kernel
theorem dX8_many_40 : decode cX8_many 40 = .ok (.ireturn, 1) := by decide +kernel
theorem dX8_remember_0 : decode cX8_remember 0 = .ok (.iconst 0, 1) := by decide +kernel
theorem dX8_remember_1 : decode cX8_remember 1 = .ok (.istore_n 1, 1) := by decide +kernel
theorem dX8_remember_2 : decode cX8_remember 2 = .ok (.iload_n 1, 1) := by decide +kernel
theorem dX8_remember_3 : decode cX8_remember 3 = .ok (.sipush 258, 3) := by decide +kernel
theorem dX8_remember_6 : decode cX8_remember 6 = .ok (.if_icmp .ge 21, 3) := by decide +kernel
theorem dX8_remember_9 : decode cX8_remember 9 = .ok (.aload_n 0, 1) := by decide +kernel
theorem dX8_remember_10 : decode cX8_remember 10 = .ok (.getfield 16, 3) := by decide +kernel
theorem dX8_remember_13 : decode cX8_remember 13 = .ok (.iload_n 1, 1) := by decide +kernel
theorem dX8_remember_14 : decode cX8_remember 14 = .ok (.aload_n 0, 1) := by decide +kernel
theorem dX8_remember_15 : decode cX8_remember 15 = .ok (.getfield 7, 3) := by decide +kernel
theorem dX8_remember_18 : decode cX8_remember 18 = .ok (.iload_n 1, 1) := by decide +kernel
theorem dX8_remember_19 : decode cX8_remember 19 = .ok (.iaload, 1) := by decide +kernel
theorem dX8_remember_20 : decode cX8_remember 20 = .ok (.iastore, 1) := by decide +kernel
theorem dX8_remember_21 : decode cX8_remember 21 = .ok (.iinc 1 1, 3) := by decide +kernel
theorem dX8_remember_24 : decode cX8_remember 24 = .ok (.goto (-22), 3) := by decide +kernel
theorem dX8_remember_27 : decode cX8_remember 27 = .ok (.return_, 1) := by decide +kernel
theorem dX8_record_0 : decode cX8_record 0 = .ok (.iload_n 1, 1) := by decide +kernel
theorem dX8_record_1 : decode cX8_record 1 = .ok (.ifCond .ge 5, 3) := by decide +kernel
theorem dX8_record_4 : decode cX8_record 4 = .ok (.iload_n 1, 1) := by decide +kernel
theorem dX8_record_5 : decode cX8_record 5 = .ok (.ireturn, 1) := by decide +kernel
theorem dX8_record_6 : decode cX8_record 6 = .ok (.aload_n 0, 1) := by decide +kernel
theorem dX8_record_7 : decode cX8_record 7 = .ok (.getfield 39, 3) := by decide +kernel
theorem dX8_record_10 : decode cX8_record 10 = .ok (.bipush 6, 2) := by decide +kernel
theorem dX8_record_12 : decode cX8_record 12 = .ok (.if_icmp .ne 44, 3) := by decide +kernel
theorem dX8_record_15 : decode cX8_record 15 = .ok (.iconst 0, 1) := by decide +kernel
theorem dX8_record_16 : decode cX8_record 16 = .ok (.istore_n 2, 1) := by decide +kernel
theorem dX8_record_17 : decode cX8_record 17 = .ok (.iload_n 2, 1) := by decide +kernel
theorem dX8_record_18 : decode cX8_record 18 = .ok (.sipush 1290, 3) := by decide +kernel
theorem dX8_record_21 : decode cX8_record 21 = .ok (.if_icmp .ge 25, 3) := by decide +kernel
theorem dX8_record_24 : decode cX8_record 24 = .ok (.aload_n 0, 1) := by decide +kernel
theorem dX8_record_25 : decode cX8_record 25 = .ok (.getfield 13, 3) := by decide +kernel
theorem dX8_record_28 : decode cX8_record 28 = .ok (.iload_n 2, 1) := by decide +kernel
theorem dX8_record_29 : decode cX8_record 29 = .ok (.aload_n 0, 1) := by decide +kernel
theorem dX8_record_30 : decode cX8_record 30 = .ok (.getfield 13, 3) := by decide +kernel
theorem dX8_record_33 : decode cX8_record 33 = .ok (.sipush 258, 3) := by decide +kernel
theorem dX8_record_36 : decode cX8_record 36 = .ok (.iload_n 2, 1) := by decide +kernel
theorem dX8_record_37 : decode cX8_record 37 = .ok (.iadd, 1) := by decide +kernel
theorem dX8_record_38 : decode cX8_record 38 = .ok (.iaload, 1) := by decide +kernel
theorem dX8_record_39 : decode cX8_record 39 = .ok (.iastore, 1) := by decide +kernel
theorem dX8_record_40 : decode cX8_record 40 = .ok (.iinc 2 1, 3) := by decide +kernel
theorem dX8_record_43 : decode cX8_record 43 = .ok (.goto (-26), 3) := by decide +kernel
theorem dX8_record_46 : decode cX8_record 46 = .ok (.aload_n 0, 1) := by decide +kernel
theorem dX8_record_47 : decode cX8_record 47 = .ok (.dup, 1) := by decide +kernel
theorem dX8_record_48 : decode cX8_record 48 = .ok (.getfield 39, 3) := by decide +kernel
theorem dX8_record_51 : decode cX8_record 51 = .ok (.iconst 1, 1) := by decide +kernel
theorem dX8_record_52 : decode cX8_record 52 = .ok (.isub, 1) := by decide +kernel
theorem dX8_record_53 : decode cX8_record 53 = .ok (.putfield 39, 3) := by decide +kernel
theorem dX8_record_56 : decode cX8_record 56 = .ok (.iconst 0, 1) := by decide +kernel
theorem dX8_record_57 : decode cX8_record 57 = .ok (.istore_n 2, 1) := by decide +kernel
theorem dX8_record_58 : decode cX8_record 58 = .ok (.iload_n 2, 1) := by decide +kernel
theorem dX8_record_59 : decode cX8_record 59 = .ok (.sipush 258, 3) := by decide +kernel
theorem dX8_record_62 : decode cX8_record 62 = .ok (.if_icmp .ge 30, 3) := by decide +kernel
theorem dX8_record_65 : decode cX8_record 65 = .ok (.aload_n 0, 1) := by decide +kernel
theorem dX8_record_66 : decode cX8_record 66 = .ok (.getfield 13, 3) := by decide +kernel
theorem dX8_record_69 : decode cX8_record 69 = .ok (.sipush 258, 3) := by decide +kernel
theorem dX8_record_72 : decode cX8_record 72 = .ok (.aload_n 0, 1) := by decide +kernel
theorem dX8_record_73 : decode cX8_record 73 = .ok (.getfield 39, 3) := by decide +kernel
theorem dX8_record_76 : decode cX8_record 76 = .ok (.imul, 1) := by decide +kernel
theorem dX8_record_77 : decode cX8_record 77 = .ok (.iload_n 2, 1) := by decide +kernel
theorem dX8_record_78 : decode cX8_record 78 = .ok (.iadd, 1) := by decide +kernel
theorem dX8_record_79 : decode cX8_record 79 = .ok (.aload_n 0, 1) := by decide +kernel
theorem dX8_record_80 : decode cX8_record 80 = .ok (.getfield 16, 3) := by decide +kernel
theorem dX8_record_83 : decode cX8_record 83 = .ok (.iload_n 2, 1) := by decide +kernel
theorem dX8_record_84 : decode cX8_record 84 = .ok (.iaload, 1) := by decide +kernel
theorem dX8_record_85 : decode cX8_record 85 = .ok (.iastore, 1) := by decide +kernel
theorem dX8_record_86 : decode cX8_record 86 = .ok (.iinc 2 1, 3) := by decide +kernel
theorem dX8_record_89 : decode cX8_record 89 = .ok (.goto (-31), 3) := by decide +kernel
theorem dX8_record_92 : decode cX8_record 92 = .ok (.aload_n 0, 1) := by decide +kernel
theorem dX8_record_93 : decode cX8_record 93 = .ok (.dup, 1) := by decide +kernel
theorem dX8_record_94 : decode cX8_record 94 = .ok (.getfield 39, 3) := by decide +kernel
theorem dX8_record_97 : decode cX8_record 97 = .ok (.iconst 1, 1) := by decide +kernel
theorem dX8_record_98 : decode cX8_record 98 = .ok (.iadd, 1) := by decide +kernel
theorem dX8_record_99 : decode cX8_record 99 = .ok (.putfield 39, 3) := by decide +kernel
theorem dX8_record_102 : decode cX8_record 102 = .ok (.iload_n 1, 1) := by decide +kernel
theorem dX8_record_103 : decode cX8_record 103 = .ok (.ireturn, 1) := by decide +kernel
theorem dX8_undo_0 : decode cX8_undo 0 = .ok (.aload_n 0, 1) := by decide +kernel
theorem dX8_undo_1 : decode cX8_undo 1 = .ok (.getfield 39, 3) := by decide +kernel
theorem dX8_undo_4 : decode cX8_undo 4 = .ok (.ifCond .ne 6, 3) := by decide +kernel
theorem dX8_undo_7 : decode cX8_undo 7 = .ok (.bipush (-5), 2) := by decide +kernel
theorem dX8_undo_9 : decode cX8_undo 9 = .ok (.ireturn, 1) := by decide +kernel
theorem dX8_undo_10 : decode cX8_undo 10 = .ok (.aload_n 0, 1) := by decide +kernel
theorem dX8_undo_11 : decode cX8_undo 11 = .ok (.dup, 1) := by decide +kernel
theorem dX8_undo_12 : decode cX8_undo 12 = .ok (.getfield 39, 3) := by decide +kernel
theorem dX8_undo_15 : decode cX8_undo 15 = .ok (.iconst 1, 1) := by decide +kernel
theorem dX8_undo_16 : decode cX8_undo 16 = .ok (.isub, 1) := by decide +kernel
theorem dX8_undo_17 : decode cX8_undo 17 = .ok (.putfield 39, 3) := by decide +kernel
theorem dX8_undo_20 : decode cX8_undo 20 = .ok (.iconst 0, 1) := by decide +kernel
theorem dX8_undo_21 : decode cX8_undo 21 = .ok (.istore_n 1, 1) := by decide +kernel
theorem dX8_undo_22 : decode cX8_undo 22 = .ok (.iload_n 1, 1) := by decide +kernel
theorem dX8_undo_23 : decode cX8_undo 23 = .ok (.sipush 258, 3) := by decide +kernel
theorem dX8_undo_26 : decode cX8_undo 26 = .ok (.if_icmp .ge 30, 3) := by decide +kernel
theorem dX8_undo_29 : decode cX8_undo 29 = .ok (.aload_n 0, 1) := by decide +kernel
theorem dX8_undo_30 : decode cX8_undo 30 = .ok (.getfield 7, 3) := by decide +kernel
theorem dX8_undo_33 : decode cX8_undo 33 = .ok (.iload_n 1, 1) := by decide +kernel
theorem dX8_undo_34 : decode cX8_undo 34 = .ok (.aload_n 0, 1) := by decide +kernel
theorem dX8_undo_35 : decode cX8_undo 35 = .ok (.getfield 13, 3) := by decide +kernel
theorem dX8_undo_38 : decode cX8_undo 38 = .ok (.sipush 258, 3) := by decide +kernel
theorem dX8_undo_41 : decode cX8_undo 41 = .ok (.aload_n 0, 1) := by decide +kernel
theorem dX8_undo_42 : decode cX8_undo 42 = .ok (.getfield 39, 3) := by decide +kernel
theorem dX8_undo_45 : decode cX8_undo 45 = .ok (.imul, 1) := by decide +kernel
theorem dX8_undo_46 : decode cX8_undo 46 = .ok (.iload_n 1, 1) := by decide +kernel
theorem dX8_undo_47 : decode cX8_undo 47 = .ok (.iadd, 1) := by decide +kernel
theorem dX8_undo_48 : decode cX8_undo 48 = .ok (.iaload, 1) := by decide +kernel
theorem dX8_undo_49 : decode cX8_undo 49 = .ok (.iastore, 1) := by decide +kernel
theorem dX8_undo_50 : decode cX8_undo 50 = .ok (.iinc 1 1, 3) := by decide +kernel
theorem dX8_undo_53 : decode cX8_undo 53 = .ok (.goto (-31), 3) := by decide +kernel
theorem dX8_undo_56 : decode cX8_undo 56 = .ok (.aload_n 0, 1) := by decide +kernel
theorem dX8_undo_57 : decode cX8_undo 57 = .ok (.getfield 39, 3) := by decide +kernel
theorem dX8_undo_60 : decode cX8_undo 60 = .ok (.ireturn, 1) := by decide +kernel
set_option maxRecDepth 20000 in
theorem ggX8_save_X8_in : GoodIn wsX8_save wsX8_in := goodIn_r _ [7] (by decide +kernel) (by decide +kernel)
set_option maxRecDepth 20000 in
theorem gX8_save_X8_in : GoodIn wsX8_save (va_wsS RX8 43 yX8_in wsX8_in) := goodIn_app (goodIn_of _ (by decide +kernel)) ggX8_save_X8_in
theorem dX8_save_0 : decode cX8_save 0 = .ok (.iload_n 1, 1) := by decide +kernel
theorem dX8_save_1 : decode cX8_save 1 = .ok (.i2l, 1) := by decide +kernel
theorem dX8_save_2 : decode cX8_save 2 = .ok (.iconst 0, 1) := by decide +kernel
theorem dX8_save_3 : decode cX8_save 3 = .ok (.iconst 1, 1) := by decide +kernel
theorem dX8_save_4 : decode cX8_save 4 = .ok (.invokestatic 43, 3) := by decide +kernel
theorem dX8_save_7 : decode cX8_save 7 = .ok (.ifCond .ne 6, 3) := by decide +kernel
theorem dX8_save_10 : decode cX8_save 10 = .ok (.bipush (-2), 2) := by decide +kernel
theorem dX8_save_12 : decode cX8_save 12 = .ok (.ireturn, 1) := by decide +kernel
theorem dX8_save_13 : decode cX8_save 13 = .ok (.iconst 0, 1) := by decide +kernel
theorem dX8_save_14 : decode cX8_save 14 = .ok (.istore_n 2, 1) := by decide +kernel
theorem dX8_save_15 : decode cX8_save 15 = .ok (.iload_n 2, 1) := by decide +kernel
theorem dX8_save_16 : decode cX8_save 16 = .ok (.sipush 258, 3) := by decide +kernel
theorem dX8_save_19 : decode cX8_save 19 = .ok (.if_icmp .ge 27, 3) := by decide +kernel
theorem dX8_save_22 : decode cX8_save 22 = .ok (.aload_n 0, 1) := by decide +kernel
theorem dX8_save_23 : decode cX8_save 23 = .ok (.getfield 22, 3) := by decide +kernel
theorem dX8_save_26 : decode cX8_save 26 = .ok (.sipush 258, 3) := by decide +kernel
theorem dX8_save_29 : decode cX8_save 29 = .ok (.iload_n 1, 1) := by decide +kernel
theorem dX8_save_30 : decode cX8_save 30 = .ok (.imul, 1) := by decide +kernel
theorem dX8_save_31 : decode cX8_save 31 = .ok (.iload_n 2, 1) := by decide +kernel
theorem dX8_save_32 : decode cX8_save 32 = .ok (.iadd, 1) := by decide +kernel
theorem dX8_save_33 : decode cX8_save 33 = .ok (.aload_n 0, 1) := by decide +kernel
theorem dX8_save_34 : decode cX8_save 34 = .ok (.getfield 7, 3) := by decide +kernel
theorem dX8_save_37 : decode cX8_save 37 = .ok (.iload_n 2, 1) := by decide +kernel
theorem dX8_save_38 : decode cX8_save 38 = .ok (.iaload, 1) := by decide +kernel
theorem dX8_save_39 : decode cX8_save 39 = .ok (.iastore, 1) := by decide +kernel
theorem dX8_save_40 : decode cX8_save 40 = .ok (.iinc 2 1, 3) := by decide +kernel
theorem dX8_save_43 : decode cX8_save 43 = .ok (.goto (-28), 3) := by decide +kernel
theorem dX8_save_46 : decode cX8_save 46 = .ok (.aload_n 0, 1) := by decide +kernel
theorem dX8_save_47 : decode cX8_save 47 = .ok (.getfield 25, 3) := by decide +kernel
theorem dX8_save_50 : decode cX8_save 50 = .ok (.iload_n 1, 1) := by decide +kernel
theorem dX8_save_51 : decode cX8_save 51 = .ok (.iconst 1, 1) := by decide +kernel
theorem dX8_save_52 : decode cX8_save 52 = .ok (.bastore, 1) := by decide +kernel
theorem dX8_save_53 : decode cX8_save 53 = .ok (.aload_n 0, 1) := by decide +kernel
theorem dX8_save_54 : decode cX8_save 54 = .ok (.getfield 7, 3) := by decide +kernel
theorem dX8_save_57 : decode cX8_save 57 = .ok (.bipush 7, 2) := by decide +kernel
theorem dX8_save_59 : decode cX8_save 59 = .ok (.iaload, 1) := by decide +kernel
theorem dX8_save_60 : decode cX8_save 60 = .ok (.ireturn, 1) := by decide +kernel
set_option maxRecDepth 20000 in
theorem ggX8_restore_X8_in : GoodIn wsX8_restore wsX8_in := goodIn_r _ [7] (by decide +kernel) (by decide +kernel)
set_option maxRecDepth 20000 in
theorem gX8_restore_X8_in : GoodIn wsX8_restore (va_wsS RX8 43 yX8_in wsX8_in) := goodIn_app (goodIn_of _ (by decide +kernel)) ggX8_restore_X8_in
set_option maxRecDepth 20000 in
theorem ggX8_restore_X8_remember : GoodIn wsX8_restore wsX8_remember := goodIn_r _ [11, 12, 2, 19, 20, 21, 22, 23, 24, 25, 26, 27, 28, 29, 30, 31] (by decide +kernel) (by decide +kernel)
set_option maxRecDepth 20000 in
theorem gX8_restore_X8_remember : GoodIn wsX8_restore (wsV RX8 47 RX8 yX8_remember wsX8_remember) := goodIn_app (goodIn_of _ (by decide +kernel)) ggX8_restore_X8_remember
set_option maxRecDepth 20000 in
theorem ggX8_restore_X8_record : GoodIn wsX8_restore wsX8_record := goodIn_r _ [16, 17, 18, 12, 19, 20, 21, 22, 23, 24, 25, 26, 27, 28, 29, 30, 31] (by decide +kernel) (by decide +kernel)
set_option maxRecDepth 20000 in
theorem gX8_restore_X8_record : GoodIn wsX8_restore (wsV RX8 50 RX8 yX8_record wsX8_record) := goodIn_app (goodIn_of _ (by decide +kernel)) ggX8_restore_X8_record
theorem dX8_restore_0 : decode cX8_restore 0 = .ok (.iload_n 1, 1) := by decide +kernel
theorem dX8_restore_1 : decode cX8_restore 1 = .ok (.i2l, 1) := by decide +kernel
theorem dX8_restore_2 : decode cX8_restore 2 = .ok (.iconst 0, 1) := by decide +kernel
theorem dX8_restore_3 : decode cX8_restore 3 = .ok (.iconst 1, 1) := by decide +kernel
theorem dX8_restore_4 : decode cX8_restore 4 = .ok (.invokestatic 43, 3) := by decide +kernel
theorem dX8_restore_7 : decode cX8_restore 7 = .ok (.ifCond .ne 6, 3) := by decide +kernel
theorem dX8_restore_10 : decode cX8_restore 10 = .ok (.bipush (-2), 2) := by decide +kernel
theorem dX8_restore_12 : decode cX8_restore 12 = .ok (.ireturn, 1) := by decide +kernel
theorem dX8_restore_13 : decode cX8_restore 13 = .ok (.aload_n 0, 1) := by decide +kernel
theorem dX8_restore_14 : decode cX8_restore 14 = .ok (.getfield 25, 3) := by decide +kernel
theorem dX8_restore_17 : decode cX8_restore 17 = .ok (.iload_n 1, 1) := by decide +kernel
theorem dX8_restore_18 : decode cX8_restore 18 = .ok (.baload, 1) := by decide +kernel
theorem dX8_restore_19 : decode cX8_restore 19 = .ok (.ifCond .ne 6, 3) := by decide +kernel
theorem dX8_restore_22 : decode cX8_restore 22 = .ok (.bipush (-5), 2) := by decide +kernel
theorem dX8_restore_24 : decode cX8_restore 24 = .ok (.ireturn, 1) := by decide +kernel
theorem dX8_restore_25 : decode cX8_restore 25 = .ok (.aload_n 0, 1) := by decide +kernel
theorem dX8_restore_26 : decode cX8_restore 26 = .ok (.invokevirtual 47, 3) := by decide +kernel
theorem dX8_restore_29 : decode cX8_restore 29 = .ok (.iconst 0, 1) := by decide +kernel
theorem dX8_restore_30 : decode cX8_restore 30 = .ok (.istore_n 2, 1) := by decide +kernel
theorem dX8_restore_31 : decode cX8_restore 31 = .ok (.iload_n 2, 1) := by decide +kernel
theorem dX8_restore_32 : decode cX8_restore 32 = .ok (.sipush 258, 3) := by decide +kernel
theorem dX8_restore_35 : decode cX8_restore 35 = .ok (.if_icmp .ge 27, 3) := by decide +kernel
theorem dX8_restore_38 : decode cX8_restore 38 = .ok (.aload_n 0, 1) := by decide +kernel
theorem dX8_restore_39 : decode cX8_restore 39 = .ok (.getfield 7, 3) := by decide +kernel
theorem dX8_restore_42 : decode cX8_restore 42 = .ok (.iload_n 2, 1) := by decide +kernel
theorem dX8_restore_43 : decode cX8_restore 43 = .ok (.aload_n 0, 1) := by decide +kernel
theorem dX8_restore_44 : decode cX8_restore 44 = .ok (.getfield 22, 3) := by decide +kernel
theorem dX8_restore_47 : decode cX8_restore 47 = .ok (.sipush 258, 3) := by decide +kernel
theorem dX8_restore_50 : decode cX8_restore 50 = .ok (.iload_n 1, 1) := by decide +kernel
theorem dX8_restore_51 : decode cX8_restore 51 = .ok (.imul, 1) := by decide +kernel
theorem dX8_restore_52 : decode cX8_restore 52 = .ok (.iload_n 2, 1) := by decide +kernel
theorem dX8_restore_53 : decode cX8_restore 53 = .ok (.iadd, 1) := by decide +kernel
theorem dX8_restore_54 : decode cX8_restore 54 = .ok (.iaload, 1) := by decide +kernel
theorem dX8_restore_55 : decode cX8_restore 55 = .ok (.iastore, 1) := by decide +kernel
theorem dX8_restore_56 : decode cX8_restore 56 = .ok (.iinc 2 1, 3) := by decide +kernel
theorem dX8_restore_59 : decode cX8_restore 59 = .ok (.goto (-28), 3) := by decide +kernel
theorem dX8_restore_62 : decode cX8_restore 62 = .ok (.aload_n 0, 1) := by decide +kernel
theorem dX8_restore_63 : decode cX8_restore 63 = .ok (.aload_n 0, 1) := by decide +kernel
theorem dX8_restore_64 : decode cX8_restore 64 = .ok (.getfield 7, 3) := by decide +kernel
theorem dX8_restore_67 : decode cX8_restore 67 = .ok (.bipush 7, 2) := by decide +kernel
theorem dX8_restore_69 : decode cX8_restore 69 = .ok (.iaload, 1) := by decide +kernel
theorem dX8_restore_70 : decode cX8_restore 70 = .ok (.invokevirtual 50, 3) := by decide +kernel
theorem dX8_restore_73 : decode cX8_restore 73 = .ok (.ireturn, 1) := by decide +kernel
theorem dX8_layAside_0 : decode cX8_layAside 0 = .ok (.iconst 0, 1) := by decide +kernel
theorem dX8_layAside_1 : decode cX8_layAside 1 = .ok (.istore_n 1, 1) := by decide +kernel
theorem dX8_layAside_2 : decode cX8_layAside 2 = .ok (.iload_n 1, 1) := by decide +kernel
theorem dX8_layAside_3 : decode cX8_layAside 3 = .ok (.sipush 258, 3) := by decide +kernel
theorem dX8_layAside_6 : decode cX8_layAside 6 = .ok (.if_icmp .ge 21, 3) := by decide +kernel
theorem dX8_layAside_9 : decode cX8_layAside 9 = .ok (.aload_n 0, 1) := by decide +kernel
theorem dX8_layAside_10 : decode cX8_layAside 10 = .ok (.getfield 19, 3) := by decide +kernel
theorem dX8_layAside_13 : decode cX8_layAside 13 = .ok (.iload_n 1, 1) := by decide +kernel
theorem dX8_layAside_14 : decode cX8_layAside 14 = .ok (.aload_n 0, 1) := by decide +kernel
theorem dX8_layAside_15 : decode cX8_layAside 15 = .ok (.getfield 7, 3) := by decide +kernel
theorem dX8_layAside_18 : decode cX8_layAside 18 = .ok (.iload_n 1, 1) := by decide +kernel
theorem dX8_layAside_19 : decode cX8_layAside 19 = .ok (.iaload, 1) := by decide +kernel
theorem dX8_layAside_20 : decode cX8_layAside 20 = .ok (.iastore, 1) := by decide +kernel
theorem dX8_layAside_21 : decode cX8_layAside 21 = .ok (.iinc 1 1, 3) := by decide +kernel
theorem dX8_layAside_24 : decode cX8_layAside 24 = .ok (.goto (-22), 3) := by decide +kernel
theorem dX8_layAside_27 : decode cX8_layAside 27 = .ok (.return_, 1) := by decide +kernel
theorem dX8_putBack_0 : decode cX8_putBack 0 = .ok (.iconst 0, 1) := by decide +kernel
theorem dX8_putBack_1 : decode cX8_putBack 1 = .ok (.istore_n 1, 1) := by decide +kernel
theorem dX8_putBack_2 : decode cX8_putBack 2 = .ok (.iload_n 1, 1) := by decide +kernel
theorem dX8_putBack_3 : decode cX8_putBack 3 = .ok (.sipush 258, 3) := by decide +kernel
theorem dX8_putBack_6 : decode cX8_putBack 6 = .ok (.if_icmp .ge 21, 3) := by decide +kernel
theorem dX8_putBack_9 : decode cX8_putBack 9 = .ok (.aload_n 0, 1) := by decide +kernel
theorem dX8_putBack_10 : decode cX8_putBack 10 = .ok (.getfield 7, 3) := by decide +kernel
theorem dX8_putBack_13 : decode cX8_putBack 13 = .ok (.iload_n 1, 1) := by decide +kernel
theorem dX8_putBack_14 : decode cX8_putBack 14 = .ok (.aload_n 0, 1) := by decide +kernel
theorem dX8_putBack_15 : decode cX8_putBack 15 = .ok (.getfield 19, 3) := by decide +kernel
theorem dX8_putBack_18 : decode cX8_putBack 18 = .ok (.iload_n 1, 1) := by decide +kernel
theorem dX8_putBack_19 : decode cX8_putBack 19 = .ok (.iaload, 1) := by decide +kernel
theorem dX8_putBack_20 : decode cX8_putBack 20 = .ok (.iastore, 1) := by decide +kernel
theorem dX8_putBack_21 : decode cX8_putBack 21 = .ok (.iinc 1 1, 3) := by decide +kernel
theorem dX8_putBack_24 : decode cX8_putBack 24 = .ok (.goto (-22), 3) := by decide +kernel
theorem dX8_putBack_27 : decode cX8_putBack 27 = .ok (.return_, 1) := by decide +kernel
set_option maxRecDepth 20000 in
theorem ggX8_lowest_X8_its : GoodIn wsX8_lowest wsX8_its := goodIn_r _ [6, 1, 7, 8, 9, 10, 11, 12, 13, 14, 15, 16, 17, 18, 19] (by decide +kernel) (by decide +kernel)
set_option maxRecDepth 20000 in
theorem gX8_lowest_X8_its : GoodIn wsX8_lowest (wsV RX8 35 RX8 yX8_its wsX8_its) := goodIn_app (goodIn_of _ (by decide +kernel)) ggX8_lowest_X8_its
theorem dX8_lowest_0 : decode cX8_lowest 0 = .ok (.bipush (-6), 2) := by decide +kernel
theorem dX8_lowest_2 : decode cX8_lowest 2 = .ok (.istore_n 3, 1) := by decide +kernel
theorem dX8_lowest_3 : decode cX8_lowest 3 = .ok (.iconst 0, 1) := by decide +kernel
theorem dX8_lowest_4 : decode cX8_lowest 4 = .ok (.istore 4, 2) := by decide +kernel
theorem dX8_lowest_6 : decode cX8_lowest 6 = .ok (.iload 4, 2) := by decide +kernel
theorem dX8_lowest_8 : decode cX8_lowest 8 = .ok (.aload_n 0, 1) := by decide +kernel
theorem dX8_lowest_9 : decode cX8_lowest 9 = .ok (.getfield 7, 3) := by decide +kernel
theorem dX8_lowest_12 : decode cX8_lowest 12 = .ok (.bipush 7, 2) := by decide +kernel
theorem dX8_lowest_14 : decode cX8_lowest 14 = .ok (.iaload, 1) := by decide +kernel
theorem dX8_lowest_15 : decode cX8_lowest 15 = .ok (.if_icmp .ge 72, 3) := by decide +kernel
theorem dX8_lowest_18 : decode cX8_lowest 18 = .ok (.aload_n 0, 1) := by decide +kernel
theorem dX8_lowest_19 : decode cX8_lowest 19 = .ok (.iload 4, 2) := by decide +kernel
theorem dX8_lowest_21 : decode cX8_lowest 21 = .ok (.iconst 1, 1) := by decide +kernel
theorem dX8_lowest_22 : decode cX8_lowest 22 = .ok (.invokevirtual 35, 3) := by decide +kernel
theorem dX8_lowest_25 : decode cX8_lowest 25 = .ok (.iload_n 1, 1) := by decide +kernel
theorem dX8_lowest_26 : decode cX8_lowest 26 = .ok (.if_icmp .ne 18, 3) := by decide +kernel
theorem dX8_lowest_29 : decode cX8_lowest 29 = .ok (.aload_n 0, 1) := by decide +kernel
theorem dX8_lowest_30 : decode cX8_lowest 30 = .ok (.iload 4, 2) := by decide +kernel
theorem dX8_lowest_32 : decode cX8_lowest 32 = .ok (.iconst 2, 1) := by decide +kernel
theorem dX8_lowest_33 : decode cX8_lowest 33 = .ok (.invokevirtual 35, 3) := by decide +kernel
theorem dX8_lowest_36 : decode cX8_lowest 36 = .ok (.iload_n 2, 1) := by decide +kernel
theorem dX8_lowest_37 : decode cX8_lowest 37 = .ok (.if_icmp .lt 7, 3) := by decide +kernel
theorem dX8_lowest_40 : decode cX8_lowest 40 = .ok (.iconst 1, 1) := by decide +kernel
theorem dX8_lowest_41 : decode cX8_lowest 41 = .ok (.goto 4, 3) := by decide +kernel
theorem dX8_lowest_44 : decode cX8_lowest 44 = .ok (.iconst 0, 1) := by decide +kernel
theorem dX8_lowest_45 : decode cX8_lowest 45 = .ok (.istore 5, 2) := by decide +kernel
theorem dX8_lowest_47 : decode cX8_lowest 47 = .ok (.iload 5, 2) := by decide +kernel
theorem dX8_lowest_49 : decode cX8_lowest 49 = .ok (.ifCond .eq 30, 3) := by decide +kernel
theorem dX8_lowest_52 : decode cX8_lowest 52 = .ok (.iload_n 3, 1) := by decide +kernel
theorem dX8_lowest_53 : decode cX8_lowest 53 = .ok (.bipush (-6), 2) := by decide +kernel
theorem dX8_lowest_55 : decode cX8_lowest 55 = .ok (.if_icmp .eq 19, 3) := by decide +kernel
theorem dX8_lowest_58 : decode cX8_lowest 58 = .ok (.aload_n 0, 1) := by decide +kernel
theorem dX8_lowest_59 : decode cX8_lowest 59 = .ok (.iload 4, 2) := by decide +kernel
theorem dX8_lowest_61 : decode cX8_lowest 61 = .ok (.iconst 2, 1) := by decide +kernel
theorem dX8_lowest_62 : decode cX8_lowest 62 = .ok (.invokevirtual 35, 3) := by decide +kernel
theorem dX8_lowest_65 : decode cX8_lowest 65 = .ok (.aload_n 0, 1) := by decide +kernel
theorem dX8_lowest_66 : decode cX8_lowest 66 = .ok (.iload_n 3, 1) := by decide +kernel
theorem dX8_lowest_67 : decode cX8_lowest 67 = .ok (.iconst 2, 1) := by decide +kernel
theorem dX8_lowest_68 : decode cX8_lowest 68 = .ok (.invokevirtual 35, 3) := by decide +kernel
theorem dX8_lowest_71 : decode cX8_lowest 71 = .ok (.if_icmp .ge 8, 3) := by decide +kernel
theorem dX8_lowest_74 : decode cX8_lowest 74 = .ok (.iload 4, 2) := by decide +kernel
theorem dX8_lowest_76 : decode cX8_lowest 76 = .ok (.goto 4, 3) := by decide +kernel
theorem dX8_lowest_79 : decode cX8_lowest 79 = .ok (.iload_n 3, 1) := by decide +kernel
theorem dX8_lowest_80 : decode cX8_lowest 80 = .ok (.istore_n 3, 1) := by decide +kernel
theorem dX8_lowest_81 : decode cX8_lowest 81 = .ok (.iinc 4 1, 3) := by decide +kernel
theorem dX8_lowest_84 : decode cX8_lowest 84 = .ok (.goto (-78), 3) := by decide +kernel
theorem dX8_lowest_87 : decode cX8_lowest 87 = .ok (.iload_n 3, 1) := by decide +kernel
theorem dX8_lowest_88 : decode cX8_lowest 88 = .ok (.ireturn, 1) := by decide +kernel
set_option maxRecDepth 20000 in
theorem ggX8_oldest_X8_its : GoodIn wsX8_oldest wsX8_its := goodIn_r _ [6, 1, 7, 8, 9, 10, 11, 12, 13, 14, 15, 16, 17, 18, 19] (by decide +kernel) (by decide +kernel)
set_option maxRecDepth 20000 in
theorem gX8_oldest_X8_its : GoodIn wsX8_oldest (wsV RX8 35 RX8 yX8_its wsX8_its) := goodIn_app (goodIn_of _ (by decide +kernel)) ggX8_oldest_X8_its
theorem dX8_oldest_0 : decode cX8_oldest 0 = .ok (.bipush (-6), 2) := by decide +kernel
theorem dX8_oldest_2 : decode cX8_oldest 2 = .ok (.istore_n 2, 1) := by decide +kernel
theorem dX8_oldest_3 : decode cX8_oldest 3 = .ok (.iconst 0, 1) := by decide +kernel
theorem dX8_oldest_4 : decode cX8_oldest 4 = .ok (.istore_n 3, 1) := by decide +kernel
theorem dX8_oldest_5 : decode cX8_oldest 5 = .ok (.iload_n 3, 1) := by decide +kernel
theorem dX8_oldest_6 : decode cX8_oldest 6 = .ok (.aload_n 0, 1) := by decide +kernel
theorem dX8_oldest_7 : decode cX8_oldest 7 = .ok (.getfield 7, 3) := by decide +kernel
theorem dX8_oldest_10 : decode cX8_oldest 10 = .ok (.bipush 7, 2) := by decide +kernel
theorem dX8_oldest_12 : decode cX8_oldest 12 = .ok (.iaload, 1) := by decide +kernel
theorem dX8_oldest_13 : decode cX8_oldest 13 = .ok (.if_icmp .ge 46, 3) := by decide +kernel
theorem dX8_oldest_16 : decode cX8_oldest 16 = .ok (.aload_n 0, 1) := by decide +kernel
theorem dX8_oldest_17 : decode cX8_oldest 17 = .ok (.iload_n 3, 1) := by decide +kernel
theorem dX8_oldest_18 : decode cX8_oldest 18 = .ok (.iconst 1, 1) := by decide +kernel
theorem dX8_oldest_19 : decode cX8_oldest 19 = .ok (.invokevirtual 35, 3) := by decide +kernel
theorem dX8_oldest_22 : decode cX8_oldest 22 = .ok (.iload_n 1, 1) := by decide +kernel
theorem dX8_oldest_23 : decode cX8_oldest 23 = .ok (.if_icmp .ne 28, 3) := by decide +kernel
theorem dX8_oldest_26 : decode cX8_oldest 26 = .ok (.iload_n 2, 1) := by decide +kernel
theorem dX8_oldest_27 : decode cX8_oldest 27 = .ok (.bipush (-6), 2) := by decide +kernel
theorem dX8_oldest_29 : decode cX8_oldest 29 = .ok (.if_icmp .eq 18, 3) := by decide +kernel
theorem dX8_oldest_32 : decode cX8_oldest 32 = .ok (.aload_n 0, 1) := by decide +kernel
theorem dX8_oldest_33 : decode cX8_oldest 33 = .ok (.iload_n 3, 1) := by decide +kernel
theorem dX8_oldest_34 : decode cX8_oldest 34 = .ok (.iconst 4, 1) := by decide +kernel
theorem dX8_oldest_35 : decode cX8_oldest 35 = .ok (.invokevirtual 35, 3) := by decide +kernel
theorem dX8_oldest_38 : decode cX8_oldest 38 = .ok (.aload_n 0, 1) := by decide +kernel
theorem dX8_oldest_39 : decode cX8_oldest 39 = .ok (.iload_n 2, 1) := by decide +kernel
theorem dX8_oldest_40 : decode cX8_oldest 40 = .ok (.iconst 4, 1) := by decide +kernel
theorem dX8_oldest_41 : decode cX8_oldest 41 = .ok (.invokevirtual 35, 3) := by decide +kernel
theorem dX8_oldest_44 : decode cX8_oldest 44 = .ok (.if_icmp .ge 7, 3) := by decide +kernel
theorem dX8_oldest_47 : decode cX8_oldest 47 = .ok (.iload_n 3, 1) := by decide +kernel
theorem dX8_oldest_48 : decode cX8_oldest 48 = .ok (.goto 4, 3) := by decide +kernel
theorem dX8_oldest_51 : decode cX8_oldest 51 = .ok (.iload_n 2, 1) := by decide +kernel
theorem dX8_oldest_52 : decode cX8_oldest 52 = .ok (.istore_n 2, 1) := by decide +kernel
theorem dX8_oldest_53 : decode cX8_oldest 53 = .ok (.iinc 3 1, 3) := by decide +kernel
theorem dX8_oldest_56 : decode cX8_oldest 56 = .ok (.goto (-51), 3) := by decide +kernel
theorem dX8_oldest_59 : decode cX8_oldest 59 = .ok (.iload_n 2, 1) := by decide +kernel
theorem dX8_oldest_60 : decode cX8_oldest 60 = .ok (.ireturn, 1) := by decide +kernel
set_option maxRecDepth 20000 in
theorem ggX8_isOld_X8_its : GoodIn wsX8_isOld wsX8_its := goodIn_r _ [6, 1, 7, 8, 9, 10, 11, 12, 13, 14, 15, 16, 17, 18, 19] (by decide +kernel) (by decide +kernel)
set_option maxRecDepth 20000 in
theorem gX8_isOld_X8_its : GoodIn wsX8_isOld (wsV RX8 35 RX8 yX8_its wsX8_its) := goodIn_app (goodIn_of _ (by decide +kernel)) ggX8_isOld_X8_its
theorem dX8_isOld_0 : decode cX8_isOld 0 = .ok (.aload_n 0, 1) := by decide +kernel
theorem dX8_isOld_1 : decode cX8_isOld 1 = .ok (.getfield 7, 3) := by decide +kernel
theorem dX8_isOld_4 : decode cX8_isOld 4 = .ok (.bipush 6, 2) := by decide +kernel
theorem dX8_isOld_6 : decode cX8_isOld 6 = .ok (.iaload, 1) := by decide +kernel
theorem dX8_isOld_7 : decode cX8_isOld 7 = .ok (.aload_n 0, 1) := by decide +kernel
theorem dX8_isOld_8 : decode cX8_isOld 8 = .ok (.iload_n 1, 1) := by decide +kernel
theorem dX8_isOld_9 : decode cX8_isOld 9 = .ok (.iconst 4, 1) := by decide +kernel
theorem dX8_isOld_10 : decode cX8_isOld 10 = .ok (.invokevirtual 35, 3) := by decide +kernel
theorem dX8_isOld_13 : decode cX8_isOld 13 = .ok (.isub, 1) := by decide +kernel
theorem dX8_isOld_14 : decode cX8_isOld 14 = .ok (.aload_n 0, 1) := by decide +kernel
theorem dX8_isOld_15 : decode cX8_isOld 15 = .ok (.getfield 7, 3) := by decide +kernel
theorem dX8_isOld_18 : decode cX8_isOld 18 = .ok (.aload_n 0, 1) := by decide +kernel
theorem dX8_isOld_19 : decode cX8_isOld 19 = .ok (.iload_n 1, 1) := by decide +kernel
theorem dX8_isOld_20 : decode cX8_isOld 20 = .ok (.iconst 1, 1) := by decide +kernel
theorem dX8_isOld_21 : decode cX8_isOld 21 = .ok (.invokevirtual 35, 3) := by decide +kernel
theorem dX8_isOld_24 : decode cX8_isOld 24 = .ok (.iaload, 1) := by decide +kernel
theorem dX8_isOld_25 : decode cX8_isOld 25 = .ok (.if_icmp .lt 7, 3) := by decide +kernel
theorem dX8_isOld_28 : decode cX8_isOld 28 = .ok (.iconst 1, 1) := by decide +kernel
theorem dX8_isOld_29 : decode cX8_isOld 29 = .ok (.goto 4, 3) := by decide +kernel
theorem dX8_isOld_32 : decode cX8_isOld 32 = .ok (.iconst 0, 1) := by decide +kernel
theorem dX8_isOld_33 : decode cX8_isOld 33 = .ok (.ireturn, 1) := by decide +kernel
set_option maxRecDepth 20000 in
theorem ggX8_nextSort_X8_many : GoodIn wsX8_nextSort wsX8_many := goodIn_r _ [6, 1, 7, 8, 9, 5, 10, 11, 12, 13, 14, 15, 16, 17, 18, 19, 20, 21, 22, 23] (by decide +kernel) (by decide +kernel)
set_option maxRecDepth 20000 in
theorem gX8_nextSort_X8_many : GoodIn wsX8_nextSort (wsV RX8 54 RX8 yX8_many wsX8_many) := goodIn_app (goodIn_of _ (by decide +kernel)) ggX8_nextSort_X8_many
theorem dX8_nextSort_0 : decode cX8_nextSort 0 = .ok (.aload_n 0, 1) := by decide +kernel
theorem dX8_nextSort_1 : decode cX8_nextSort 1 = .ok (.iconst 1, 1) := by decide +kernel
theorem dX8_nextSort_2 : decode cX8_nextSort 2 = .ok (.invokevirtual 54, 3) := by decide +kernel
theorem dX8_nextSort_5 : decode cX8_nextSort 5 = .ok (.istore_n 1, 1) := by decide +kernel
theorem dX8_nextSort_6 : decode cX8_nextSort 6 = .ok (.iload_n 1, 1) := by decide +kernel
theorem dX8_nextSort_7 : decode cX8_nextSort 7 = .ok (.aload_n 0, 1) := by decide +kernel
theorem dX8_nextSort_8 : decode cX8_nextSort 8 = .ok (.getfield 7, 3) := by decide +kernel
theorem dX8_nextSort_11 : decode cX8_nextSort 11 = .ok (.bipush 7, 2) := by decide +kernel
theorem dX8_nextSort_13 : decode cX8_nextSort 13 = .ok (.iaload, 1) := by decide +kernel
theorem dX8_nextSort_14 : decode cX8_nextSort 14 = .ok (.if_icmp .ne 7, 3) := by decide +kernel
theorem dX8_nextSort_17 : decode cX8_nextSort 17 = .ok (.iconst 1, 1) := by decide +kernel
theorem dX8_nextSort_18 : decode cX8_nextSort 18 = .ok (.goto 32, 3) := by decide +kernel
theorem dX8_nextSort_21 : decode cX8_nextSort 21 = .ok (.iload_n 1, 1) := by decide +kernel
theorem dX8_nextSort_22 : decode cX8_nextSort 22 = .ok (.ifCond .ne 7, 3) := by decide +kernel
theorem dX8_nextSort_25 : decode cX8_nextSort 25 = .ok (.iconst 0, 1) := by decide +kernel
theorem dX8_nextSort_26 : decode cX8_nextSort 26 = .ok (.goto 24, 3) := by decide +kernel
theorem dX8_nextSort_29 : decode cX8_nextSort 29 = .ok (.aload_n 0, 1) := by decide +kernel
theorem dX8_nextSort_30 : decode cX8_nextSort 30 = .ok (.getfield 7, 3) := by decide +kernel
theorem dX8_nextSort_33 : decode cX8_nextSort 33 = .ok (.bipush 15, 2) := by decide +kernel
theorem dX8_nextSort_35 : decode cX8_nextSort 35 = .ok (.iaload, 1) := by decide +kernel
theorem dX8_nextSort_36 : decode cX8_nextSort 36 = .ok (.aload_n 0, 1) := by decide +kernel
theorem dX8_nextSort_37 : decode cX8_nextSort 37 = .ok (.getfield 7, 3) := by decide +kernel
theorem dX8_nextSort_40 : decode cX8_nextSort 40 = .ok (.iconst 3, 1) := by decide +kernel
theorem dX8_nextSort_41 : decode cX8_nextSort 41 = .ok (.iaload, 1) := by decide +kernel
theorem dX8_nextSort_42 : decode cX8_nextSort 42 = .ok (.if_icmp .lt 7, 3) := by decide +kernel
theorem dX8_nextSort_45 : decode cX8_nextSort 45 = .ok (.iconst 1, 1) := by decide +kernel
theorem dX8_nextSort_46 : decode cX8_nextSort 46 = .ok (.goto 4, 3) := by decide +kernel
theorem dX8_nextSort_49 : decode cX8_nextSort 49 = .ok (.iconst 0, 1) := by decide +kernel
theorem dX8_nextSort_50 : decode cX8_nextSort 50 = .ok (.ireturn, 1) := by decide +kernel
set_option maxRecDepth 20000 in
theorem ggX8_look_X8_lowest : GoodIn wsX8_look wsX8_lowest := goodIn_r _ [8, 1, 9, 10, 11, 7, 12, 29, 30, 31, 32, 33, 34, 35, 36, 37, 38, 39, 40, 41] (by decide +kernel) (by decide +kernel)
set_option maxRecDepth 20000 in
theorem gX8_look_X8_lowest : GoodIn wsX8_look (wsV RX8 57 RX8 yX8_lowest wsX8_lowest) := goodIn_app (goodIn_of _ (by decide +kernel)) ggX8_look_X8_lowest
set_option maxRecDepth 20000 in
theorem ggX8_look_X8_nextSort : GoodIn wsX8_look wsX8_nextSort := goodIn_r _ [16, 1, 17, 18, 19, 7, 20, 9, 10, 11, 12, 29, 30, 31, 32, 33, 34, 35, 36, 37, 38, 39, 40, 41] (by decide +kernel) (by decide +kernel)
set_option maxRecDepth 20000 in
theorem gX8_look_X8_nextSort : GoodIn wsX8_look (wsV RX8 66 RX8 yX8_nextSort wsX8_nextSort) := goodIn_app (goodIn_of _ (by decide +kernel)) ggX8_look_X8_nextSort
set_option maxRecDepth 20000 in
theorem ggX8_look_X8_oldest : GoodIn wsX8_look wsX8_oldest := goodIn_r _ [24, 1, 9, 10, 11, 7, 12, 29, 30, 31, 32, 33, 34, 35, 36, 37, 38, 39, 40, 41] (by decide +kernel) (by decide +kernel)
set_option maxRecDepth 20000 in
theorem gX8_look_X8_oldest : GoodIn wsX8_look (wsV RX8 70 RX8 yX8_oldest wsX8_oldest) := goodIn_app (goodIn_of _ (by decide +kernel)) ggX8_look_X8_oldest
set_option maxRecDepth 20000 in
theorem ggX8_look_X8_isOld : GoodIn wsX8_look wsX8_isOld := goodIn_r _ [28, 1, 9, 10, 11, 7, 12, 29, 30, 31, 32, 33, 34, 35, 36, 37, 38, 39, 40, 41] (by decide +kernel) (by decide +kernel)
set_option maxRecDepth 20000 in
theorem gX8_look_X8_isOld : GoodIn wsX8_look (wsV RX8 73 RX8 yX8_isOld wsX8_isOld) := goodIn_app (goodIn_of _ (by decide +kernel)) ggX8_look_X8_isOld
theorem dX8_look_0 : decode cX8_look 0 = .ok (.aload_n 0, 1) := by decide +kernel
theorem dX8_look_1 : decode cX8_look 1 = .ok (.aload_n 0, 1) := by decide +kernel
theorem dX8_look_2 : decode cX8_look 2 = .ok (.getfield 7, 3) := by decide +kernel
theorem dX8_look_5 : decode cX8_look 5 = .ok (.bipush 16, 2) := by decide +kernel
theorem dX8_look_7 : decode cX8_look 7 = .ok (.iaload, 1) := by decide +kernel
theorem dX8_look_8 : decode cX8_look 8 = .ok (.iconst 2, 1) := by decide +kernel
theorem dX8_look_9 : decode cX8_look 9 = .ok (.if_icmp .eq 40, 3) := by decide +kernel
theorem dX8_look_12 : decode cX8_look 12 = .ok (.aload_n 0, 1) := by decide +kernel
theorem dX8_look_13 : decode cX8_look 13 = .ok (.getfield 7, 3) := by decide +kernel
theorem dX8_look_16 : decode cX8_look 16 = .ok (.bipush 14, 2) := by decide +kernel
theorem dX8_look_18 : decode cX8_look 18 = .ok (.iaload, 1) := by decide +kernel
theorem dX8_look_19 : decode cX8_look 19 = .ok (.aload_n 0, 1) := by decide +kernel
theorem dX8_look_20 : decode cX8_look 20 = .ok (.getfield 7, 3) := by decide +kernel
theorem dX8_look_23 : decode cX8_look 23 = .ok (.iconst 2, 1) := by decide +kernel
theorem dX8_look_24 : decode cX8_look 24 = .ok (.iaload, 1) := by decide +kernel
theorem dX8_look_25 : decode cX8_look 25 = .ok (.if_icmp .ge 24, 3) := by decide +kernel
theorem dX8_look_28 : decode cX8_look 28 = .ok (.aload_n 0, 1) := by decide +kernel
theorem dX8_look_29 : decode cX8_look 29 = .ok (.aload_n 0, 1) := by decide +kernel
theorem dX8_look_30 : decode cX8_look 30 = .ok (.getfield 7, 3) := by decide +kernel
theorem dX8_look_33 : decode cX8_look 33 = .ok (.bipush 16, 2) := by decide +kernel
theorem dX8_look_35 : decode cX8_look 35 = .ok (.iaload, 1) := by decide +kernel
theorem dX8_look_36 : decode cX8_look 36 = .ok (.aload_n 0, 1) := by decide +kernel
theorem dX8_look_37 : decode cX8_look 37 = .ok (.getfield 7, 3) := by decide +kernel
theorem dX8_look_40 : decode cX8_look 40 = .ok (.bipush 9, 2) := by decide +kernel
theorem dX8_look_42 : decode cX8_look 42 = .ok (.iaload, 1) := by decide +kernel
theorem dX8_look_43 : decode cX8_look 43 = .ok (.invokevirtual 57, 3) := by decide +kernel
theorem dX8_look_46 : decode cX8_look 46 = .ok (.goto 5, 3) := by decide +kernel
theorem dX8_look_49 : decode cX8_look 49 = .ok (.bipush (-6), 2) := by decide +kernel
theorem dX8_look_51 : decode cX8_look 51 = .ok (.putfield 60, 3) := by decide +kernel
theorem dX8_look_54 : decode cX8_look 54 = .ok (.aload_n 0, 1) := by decide +kernel
theorem dX8_look_55 : decode cX8_look 55 = .ok (.iconst 0, 1) := by decide +kernel
theorem dX8_look_56 : decode cX8_look 56 = .ok (.putfield 63, 3) := by decide +kernel
theorem dX8_look_59 : decode cX8_look 59 = .ok (.aload_n 0, 1) := by decide +kernel
theorem dX8_look_60 : decode cX8_look 60 = .ok (.getfield 60, 3) := by decide +kernel
theorem dX8_look_63 : decode cX8_look 63 = .ok (.bipush (-6), 2) := by decide +kernel
theorem dX8_look_65 : decode cX8_look 65 = .ok (.if_icmp .eq 4, 3) := by decide +kernel
theorem dX8_look_68 : decode cX8_look 68 = .ok (.return_, 1) := by decide +kernel
theorem dX8_look_69 : decode cX8_look 69 = .ok (.aload_n 0, 1) := by decide +kernel
theorem dX8_look_70 : decode cX8_look 70 = .ok (.invokevirtual 66, 3) := by decide +kernel
theorem dX8_look_73 : decode cX8_look 73 = .ok (.istore_n 1, 1) := by decide +kernel
theorem dX8_look_74 : decode cX8_look 74 = .ok (.aload_n 0, 1) := by decide +kernel
theorem dX8_look_75 : decode cX8_look 75 = .ok (.aload_n 0, 1) := by decide +kernel
theorem dX8_look_76 : decode cX8_look 76 = .ok (.iload_n 1, 1) := by decide +kernel
theorem dX8_look_77 : decode cX8_look 77 = .ok (.invokevirtual 70, 3) := by decide +kernel
theorem dX8_look_80 : decode cX8_look 80 = .ok (.putfield 60, 3) := by decide +kernel
theorem dX8_look_83 : decode cX8_look 83 = .ok (.aload_n 0, 1) := by decide +kernel
theorem dX8_look_84 : decode cX8_look 84 = .ok (.iconst 1, 1) := by decide +kernel
theorem dX8_look_85 : decode cX8_look 85 = .ok (.putfield 63, 3) := by decide +kernel
theorem dX8_look_88 : decode cX8_look 88 = .ok (.aload_n 0, 1) := by decide +kernel
theorem dX8_look_89 : decode cX8_look 89 = .ok (.aload_n 0, 1) := by decide +kernel
theorem dX8_look_90 : decode cX8_look 90 = .ok (.getfield 60, 3) := by decide +kernel
theorem dX8_look_93 : decode cX8_look 93 = .ok (.invokevirtual 73, 3) := by decide +kernel
theorem dX8_look_96 : decode cX8_look 96 = .ok (.ifCond .ne 24, 3) := by decide +kernel
theorem dX8_look_99 : decode cX8_look 99 = .ok (.aload_n 0, 1) := by decide +kernel
theorem dX8_look_100 : decode cX8_look 100 = .ok (.aload_n 0, 1) := by decide +kernel
theorem dX8_look_101 : decode cX8_look 101 = .ok (.iload_n 1, 1) := by decide +kernel
theorem dX8_look_102 : decode cX8_look 102 = .ok (.aload_n 0, 1) := by decide +kernel
theorem dX8_look_103 : decode cX8_look 103 = .ok (.getfield 7, 3) := by decide +kernel
theorem dX8_look_106 : decode cX8_look 106 = .ok (.bipush 9, 2) := by decide +kernel
theorem dX8_look_108 : decode cX8_look 108 = .ok (.iaload, 1) := by decide +kernel
theorem dX8_look_109 : decode cX8_look 109 = .ok (.invokevirtual 57, 3) := by decide +kernel
theorem dX8_look_112 : decode cX8_look 112 = .ok (.putfield 60, 3) := by decide +kernel
theorem dX8_look_115 : decode cX8_look 115 = .ok (.aload_n 0, 1) := by decide +kernel
theorem dX8_look_116 : decode cX8_look 116 = .ok (.iconst 2, 1) := by decide +kernel
theorem dX8_look_117 : decode cX8_look 117 = .ok (.putfield 63, 3) := by decide +kernel
theorem dX8_look_120 : decode cX8_look 120 = .ok (.aload_n 0, 1) := by decide +kernel
theorem dX8_look_121 : decode cX8_look 121 = .ok (.getfield 60, 3) := by decide +kernel
theorem dX8_look_124 : decode cX8_look 124 = .ok (.bipush (-6), 2) := by decide +kernel
theorem dX8_look_126 : decode cX8_look 126 = .ok (.if_icmp .ne 18, 3) := by decide +kernel
theorem dX8_look_129 : decode cX8_look 129 = .ok (.aload_n 0, 1) := by decide +kernel
theorem dX8_look_130 : decode cX8_look 130 = .ok (.aload_n 0, 1) := by decide +kernel
theorem dX8_look_131 : decode cX8_look 131 = .ok (.iload_n 1, 1) := by decide +kernel
theorem dX8_look_132 : decode cX8_look 132 = .ok (.iconst 0, 1) := by decide +kernel
theorem dX8_look_133 : decode cX8_look 133 = .ok (.invokevirtual 57, 3) := by decide +kernel
theorem dX8_look_136 : decode cX8_look 136 = .ok (.putfield 60, 3) := by decide +kernel
theorem dX8_look_139 : decode cX8_look 139 = .ok (.aload_n 0, 1) := by decide +kernel
theorem dX8_look_140 : decode cX8_look 140 = .ok (.iconst 3, 1) := by decide +kernel
theorem dX8_look_141 : decode cX8_look 141 = .ok (.putfield 63, 3) := by decide +kernel
theorem dX8_look_144 : decode cX8_look 144 = .ok (.return_, 1) := by decide +kernel
set_option maxRecDepth 20000 in
theorem ggX8_minute_X8_its : GoodIn wsX8_minute wsX8_its := goodIn_r _ [7, 1, 11, 12, 13, 14, 15, 16, 17, 18, 19, 20, 21, 22, 23] (by decide +kernel) (by decide +kernel)
set_option maxRecDepth 20000 in
theorem gX8_minute_X8_its : GoodIn wsX8_minute (wsV RX8 35 RX8 yX8_its wsX8_its) := goodIn_app (goodIn_of _ (by decide +kernel)) ggX8_minute_X8_its
set_option maxRecDepth 20000 in
theorem ggX8_minute_X8_far : GoodIn wsX8_minute wsX8_far := goodIn_r _ [10] (by decide +kernel) (by decide +kernel)
set_option maxRecDepth 20000 in
theorem gX8_minute_X8_far : GoodIn wsX8_minute (va_wsS RX8 77 yX8_far wsX8_far) := goodIn_app (goodIn_of _ (by decide +kernel)) ggX8_minute_X8_far
theorem dX8_minute_0 : decode cX8_minute 0 = .ok (.aload_n 0, 1) := by decide +kernel
theorem dX8_minute_1 : decode cX8_minute 1 = .ok (.getfield 7, 3) := by decide +kernel
theorem dX8_minute_4 : decode cX8_minute 4 = .ok (.bipush 6, 2) := by decide +kernel
theorem dX8_minute_6 : decode cX8_minute 6 = .ok (.iaload, 1) := by decide +kernel
theorem dX8_minute_7 : decode cX8_minute 7 = .ok (.aload_n 0, 1) := by decide +kernel
theorem dX8_minute_8 : decode cX8_minute 8 = .ok (.getfield 7, 3) := by decide +kernel
theorem dX8_minute_11 : decode cX8_minute 11 = .ok (.iconst 4, 1) := by decide +kernel
theorem dX8_minute_12 : decode cX8_minute 12 = .ok (.iaload, 1) := by decide +kernel
theorem dX8_minute_13 : decode cX8_minute 13 = .ok (.aload_n 0, 1) := by decide +kernel
theorem dX8_minute_14 : decode cX8_minute 14 = .ok (.aload_n 0, 1) := by decide +kernel
theorem dX8_minute_15 : decode cX8_minute 15 = .ok (.getfield 60, 3) := by decide +kernel
theorem dX8_minute_18 : decode cX8_minute 18 = .ok (.iconst 2, 1) := by decide +kernel
theorem dX8_minute_19 : decode cX8_minute 19 = .ok (.invokevirtual 35, 3) := by decide +kernel
theorem dX8_minute_22 : decode cX8_minute 22 = .ok (.aload_n 0, 1) := by decide +kernel
theorem dX8_minute_23 : decode cX8_minute 23 = .ok (.getfield 7, 3) := by decide +kernel
theorem dX8_minute_26 : decode cX8_minute 26 = .ok (.bipush 9, 2) := by decide +kernel
theorem dX8_minute_28 : decode cX8_minute 28 = .ok (.iaload, 1) := by decide +kernel
theorem dX8_minute_29 : decode cX8_minute 29 = .ok (.invokestatic 77, 3) := by decide +kernel
theorem dX8_minute_32 : decode cX8_minute 32 = .ok (.imul, 1) := by decide +kernel
theorem dX8_minute_33 : decode cX8_minute 33 = .ok (.iadd, 1) := by decide +kernel
theorem dX8_minute_34 : decode cX8_minute 34 = .ok (.aload_n 0, 1) := by decide +kernel
theorem dX8_minute_35 : decode cX8_minute 35 = .ok (.getfield 7, 3) := by decide +kernel
theorem dX8_minute_38 : decode cX8_minute 38 = .ok (.iconst 5, 1) := by decide +kernel
theorem dX8_minute_39 : decode cX8_minute 39 = .ok (.iaload, 1) := by decide +kernel
theorem dX8_minute_40 : decode cX8_minute 40 = .ok (.aload_n 0, 1) := by decide +kernel
theorem dX8_minute_41 : decode cX8_minute 41 = .ok (.aload_n 0, 1) := by decide +kernel
theorem dX8_minute_42 : decode cX8_minute 42 = .ok (.getfield 60, 3) := by decide +kernel
theorem dX8_minute_45 : decode cX8_minute 45 = .ok (.iconst 3, 1) := by decide +kernel
theorem dX8_minute_46 : decode cX8_minute 46 = .ok (.invokevirtual 35, 3) := by decide +kernel
theorem dX8_minute_49 : decode cX8_minute 49 = .ok (.imul, 1) := by decide +kernel
theorem dX8_minute_50 : decode cX8_minute 50 = .ok (.iadd, 1) := by decide +kernel
theorem dX8_minute_51 : decode cX8_minute 51 = .ok (.ireturn, 1) := by decide +kernel
theorem dX8_drop_0 : decode cX8_drop 0 = .ok (.aload_n 0, 1) := by decide +kernel
theorem dX8_drop_1 : decode cX8_drop 1 = .ok (.getfield 7, 3) := by decide +kernel
theorem dX8_drop_4 : decode cX8_drop 4 = .ok (.bipush 7, 2) := by decide +kernel
theorem dX8_drop_6 : decode cX8_drop 6 = .ok (.dup2, 1) := by decide +kernel
theorem dX8_drop_7 : decode cX8_drop 7 = .ok (.iaload, 1) := by decide +kernel
theorem dX8_drop_8 : decode cX8_drop 8 = .ok (.iconst 1, 1) := by decide +kernel
theorem dX8_drop_9 : decode cX8_drop 9 = .ok (.isub, 1) := by decide +kernel
theorem dX8_drop_10 : decode cX8_drop 10 = .ok (.iastore, 1) := by decide +kernel
theorem dX8_drop_11 : decode cX8_drop 11 = .ok (.bipush 78, 2) := by decide +kernel
theorem dX8_drop_13 : decode cX8_drop 13 = .ok (.bipush 6, 2) := by decide +kernel
theorem dX8_drop_15 : decode cX8_drop 15 = .ok (.iload_n 1, 1) := by decide +kernel
theorem dX8_drop_16 : decode cX8_drop 16 = .ok (.imul, 1) := by decide +kernel
theorem dX8_drop_17 : decode cX8_drop 17 = .ok (.iadd, 1) := by decide +kernel
theorem dX8_drop_18 : decode cX8_drop 18 = .ok (.istore_n 2, 1) := by decide +kernel
theorem dX8_drop_19 : decode cX8_drop 19 = .ok (.iload_n 2, 1) := by decide +kernel
theorem dX8_drop_20 : decode cX8_drop 20 = .ok (.bipush 78, 2) := by decide +kernel
theorem dX8_drop_22 : decode cX8_drop 22 = .ok (.bipush 6, 2) := by decide +kernel
theorem dX8_drop_24 : decode cX8_drop 24 = .ok (.aload_n 0, 1) := by decide +kernel
theorem dX8_drop_25 : decode cX8_drop 25 = .ok (.getfield 7, 3) := by decide +kernel
theorem dX8_drop_28 : decode cX8_drop 28 = .ok (.bipush 7, 2) := by decide +kernel
theorem dX8_drop_30 : decode cX8_drop 30 = .ok (.iaload, 1) := by decide +kernel
theorem dX8_drop_31 : decode cX8_drop 31 = .ok (.imul, 1) := by decide +kernel
theorem dX8_drop_32 : decode cX8_drop 32 = .ok (.iadd, 1) := by decide +kernel
theorem dX8_drop_33 : decode cX8_drop 33 = .ok (.if_icmp .ge 24, 3) := by decide +kernel
theorem dX8_drop_36 : decode cX8_drop 36 = .ok (.aload_n 0, 1) := by decide +kernel
theorem dX8_drop_37 : decode cX8_drop 37 = .ok (.getfield 7, 3) := by decide +kernel
theorem dX8_drop_40 : decode cX8_drop 40 = .ok (.iload_n 2, 1) := by decide +kernel
theorem dX8_drop_41 : decode cX8_drop 41 = .ok (.aload_n 0, 1) := by decide +kernel
theorem dX8_drop_42 : decode cX8_drop 42 = .ok (.getfield 7, 3) := by decide +kernel
theorem dX8_drop_45 : decode cX8_drop 45 = .ok (.iload_n 2, 1) := by decide +kernel
theorem dX8_drop_46 : decode cX8_drop 46 = .ok (.bipush 6, 2) := by decide +kernel
theorem dX8_drop_48 : decode cX8_drop 48 = .ok (.iadd, 1) := by decide +kernel
theorem dX8_drop_49 : decode cX8_drop 49 = .ok (.iaload, 1) := by decide +kernel
theorem dX8_drop_50 : decode cX8_drop 50 = .ok (.iastore, 1) := by decide +kernel
theorem dX8_drop_51 : decode cX8_drop 51 = .ok (.iinc 2 1, 3) := by decide +kernel
theorem dX8_drop_54 : decode cX8_drop 54 = .ok (.goto (-35), 3) := by decide +kernel
theorem dX8_drop_57 : decode cX8_drop 57 = .ok (.iconst 0, 1) := by decide +kernel
theorem dX8_drop_58 : decode cX8_drop 58 = .ok (.istore_n 2, 1) := by decide +kernel
theorem dX8_drop_59 : decode cX8_drop 59 = .ok (.iload_n 2, 1) := by decide +kernel
theorem dX8_drop_60 : decode cX8_drop 60 = .ok (.bipush 6, 2) := by decide +kernel
theorem dX8_drop_62 : decode cX8_drop 62 = .ok (.if_icmp .ge 30, 3) := by decide +kernel
theorem dX8_drop_65 : decode cX8_drop 65 = .ok (.aload_n 0, 1) := by decide +kernel
theorem dX8_drop_66 : decode cX8_drop 66 = .ok (.getfield 7, 3) := by decide +kernel
theorem dX8_drop_69 : decode cX8_drop 69 = .ok (.bipush 78, 2) := by decide +kernel
theorem dX8_drop_71 : decode cX8_drop 71 = .ok (.bipush 6, 2) := by decide +kernel
theorem dX8_drop_73 : decode cX8_drop 73 = .ok (.aload_n 0, 1) := by decide +kernel
theorem dX8_drop_74 : decode cX8_drop 74 = .ok (.getfield 7, 3) := by decide +kernel
theorem dX8_drop_77 : decode cX8_drop 77 = .ok (.bipush 7, 2) := by decide +kernel
theorem dX8_drop_79 : decode cX8_drop 79 = .ok (.iaload, 1) := by decide +kernel
theorem dX8_drop_80 : decode cX8_drop 80 = .ok (.imul, 1) := by decide +kernel
theorem dX8_drop_81 : decode cX8_drop 81 = .ok (.iadd, 1) := by decide +kernel
theorem dX8_drop_82 : decode cX8_drop 82 = .ok (.iload_n 2, 1) := by decide +kernel
theorem dX8_drop_83 : decode cX8_drop 83 = .ok (.iadd, 1) := by decide +kernel
theorem dX8_drop_84 : decode cX8_drop 84 = .ok (.iconst 0, 1) := by decide +kernel
theorem dX8_drop_85 : decode cX8_drop 85 = .ok (.iastore, 1) := by decide +kernel
theorem dX8_drop_86 : decode cX8_drop 86 = .ok (.iinc 2 1, 3) := by decide +kernel
theorem dX8_drop_89 : decode cX8_drop 89 = .ok (.goto (-30), 3) := by decide +kernel
theorem dX8_drop_92 : decode cX8_drop 92 = .ok (.return_, 1) := by decide +kernel
theorem dX8_note_0 : decode cX8_note 0 = .ok (.bipush 77, 2) := by decide +kernel
theorem dX8_note_2 : decode cX8_note 2 = .ok (.istore 4, 2) := by decide +kernel
theorem dX8_note_4 : decode cX8_note 4 = .ok (.iload 4, 2) := by decide +kernel
theorem dX8_note_6 : decode cX8_note 6 = .ok (.bipush 21, 2) := by decide +kernel
theorem dX8_note_8 : decode cX8_note 8 = .ok (.if_icmp .lt 25, 3) := by decide +kernel
theorem dX8_note_11 : decode cX8_note 11 = .ok (.aload_n 0, 1) := by decide +kernel
theorem dX8_note_12 : decode cX8_note 12 = .ok (.getfield 7, 3) := by decide +kernel
theorem dX8_note_15 : decode cX8_note 15 = .ok (.iload 4, 2) := by decide +kernel
theorem dX8_note_17 : decode cX8_note 17 = .ok (.aload_n 0, 1) := by decide +kernel
theorem dX8_note_18 : decode cX8_note 18 = .ok (.getfield 7, 3) := by decide +kernel
theorem dX8_note_21 : decode cX8_note 21 = .ok (.iload 4, 2) := by decide +kernel
theorem dX8_note_23 : decode cX8_note 23 = .ok (.iconst 3, 1) := by decide +kernel
theorem dX8_note_24 : decode cX8_note 24 = .ok (.isub, 1) := by decide +kernel
theorem dX8_note_25 : decode cX8_note 25 = .ok (.iaload, 1) := by decide +kernel
theorem dX8_note_26 : decode cX8_note 26 = .ok (.iastore, 1) := by decide +kernel
theorem dX8_note_27 : decode cX8_note 27 = .ok (.iinc 4 (-1), 3) := by decide +kernel
theorem dX8_note_30 : decode cX8_note 30 = .ok (.goto (-26), 3) := by decide +kernel
theorem dX8_note_33 : decode cX8_note 33 = .ok (.aload_n 0, 1) := by decide +kernel
theorem dX8_note_34 : decode cX8_note 34 = .ok (.getfield 7, 3) := by decide +kernel
theorem dX8_note_37 : decode cX8_note 37 = .ok (.bipush 18, 2) := by decide +kernel
theorem dX8_note_39 : decode cX8_note 39 = .ok (.iload_n 1, 1) := by decide +kernel
theorem dX8_note_40 : decode cX8_note 40 = .ok (.iastore, 1) := by decide +kernel
theorem dX8_note_41 : decode cX8_note 41 = .ok (.aload_n 0, 1) := by decide +kernel
theorem dX8_note_42 : decode cX8_note 42 = .ok (.getfield 7, 3) := by decide +kernel
theorem dX8_note_45 : decode cX8_note 45 = .ok (.bipush 19, 2) := by decide +kernel
theorem dX8_note_47 : decode cX8_note 47 = .ok (.iload_n 2, 1) := by decide +kernel
theorem dX8_note_48 : decode cX8_note 48 = .ok (.iastore, 1) := by decide +kernel
theorem dX8_note_49 : decode cX8_note 49 = .ok (.aload_n 0, 1) := by decide +kernel
theorem dX8_note_50 : decode cX8_note 50 = .ok (.getfield 7, 3) := by decide +kernel
theorem dX8_note_53 : decode cX8_note 53 = .ok (.bipush 20, 2) := by decide +kernel
theorem dX8_note_55 : decode cX8_note 55 = .ok (.iload_n 3, 1) := by decide +kernel
theorem dX8_note_56 : decode cX8_note 56 = .ok (.iastore, 1) := by decide +kernel
theorem dX8_note_57 : decode cX8_note 57 = .ok (.aload_n 0, 1) := by decide +kernel
theorem dX8_note_58 : decode cX8_note 58 = .ok (.getfield 7, 3) := by decide +kernel
theorem dX8_note_61 : decode cX8_note 61 = .ok (.bipush 17, 2) := by decide +kernel
theorem dX8_note_63 : decode cX8_note 63 = .ok (.dup2, 1) := by decide +kernel
theorem dX8_note_64 : decode cX8_note 64 = .ok (.iaload, 1) := by decide +kernel
theorem dX8_note_65 : decode cX8_note 65 = .ok (.aload_n 0, 1) := by decide +kernel
theorem dX8_note_66 : decode cX8_note 66 = .ok (.getfield 7, 3) := by decide +kernel
theorem dX8_note_69 : decode cX8_note 69 = .ok (.bipush 17, 2) := by decide +kernel
theorem dX8_note_71 : decode cX8_note 71 = .ok (.iaload, 1) := by decide +kernel
theorem dX8_note_72 : decode cX8_note 72 = .ok (.bipush 20, 2) := by decide +kernel
theorem dX8_note_74 : decode cX8_note 74 = .ok (.if_icmp .ge 7, 3) := by decide +kernel
theorem dX8_note_77 : decode cX8_note 77 = .ok (.iconst 1, 1) := by decide +kernel
theorem dX8_note_78 : decode cX8_note 78 = .ok (.goto 4, 3) := by decide +kernel
theorem dX8_note_81 : decode cX8_note 81 = .ok (.iconst 0, 1) := by decide +kernel
theorem dX8_note_82 : decode cX8_note 82 = .ok (.iadd, 1) := by decide +kernel
theorem dX8_note_83 : decode cX8_note 83 = .ok (.iastore, 1) := by decide +kernel
theorem dX8_note_84 : decode cX8_note 84 = .ok (.return_, 1) := by decide +kernel
set_option maxRecDepth 20000 in
theorem ggX8_serveOne_X8_look : GoodIn wsX8_serveOne wsX8_look := goodIn_r _ [8, 3, 1, 2, 9, 10, 11, 7, 12, 13, 14, 15, 16, 17, 18, 19, 20, 21, 22, 23, 24, 25, 26, 27, 28, 29, 30, 31, 32, 52, 53, 54, 55, 56, 57, 58, 59, 60, 61, 62, 63, 64] (by decide +kernel) (by decide +kernel)
set_option maxRecDepth 20000 in
theorem gX8_serveOne_X8_look : GoodIn wsX8_serveOne (wsV RX8 80 RX8 yX8_look wsX8_look) := goodIn_app (goodIn_of _ (by decide +kernel)) ggX8_serveOne_X8_look
set_option maxRecDepth 20000 in
theorem ggX8_serveOne_X8_its : GoodIn wsX8_serveOne wsX8_its := goodIn_r _ [16, 3, 52, 53, 54, 55, 56, 57, 58, 59, 60, 61, 62, 63, 64] (by decide +kernel) (by decide +kernel)
set_option maxRecDepth 20000 in
theorem gX8_serveOne_X8_its : GoodIn wsX8_serveOne (wsV RX8 35 RX8 yX8_its wsX8_its) := goodIn_app (goodIn_of _ (by decide +kernel)) ggX8_serveOne_X8_its
set_option maxRecDepth 20000 in
theorem ggX8_serveOne_X8_many : GoodIn wsX8_serveOne wsX8_many := goodIn_r _ [24, 3, 13, 14, 15, 7, 16, 52, 53, 54, 55, 56, 57, 58, 59, 60, 61, 62, 63, 64] (by decide +kernel) (by decide +kernel)
set_option maxRecDepth 20000 in
theorem gX8_serveOne_X8_many : GoodIn wsX8_serveOne (wsV RX8 54 RX8 yX8_many wsX8_many) := goodIn_app (goodIn_of _ (by decide +kernel)) ggX8_serveOne_X8_many
set_option maxRecDepth 20000 in
theorem ggX8_serveOne_X8_minute : GoodIn wsX8_serveOne wsX8_minute := goodIn_r _ [36, 3, 1, 13, 14, 15, 7, 16, 37, 38, 39, 52, 53, 54, 55, 56, 57, 58, 59, 60, 61, 62, 63, 64] (by decide +kernel) (by decide +kernel)
set_option maxRecDepth 20000 in
theorem gX8_serveOne_X8_minute : GoodIn wsX8_serveOne (wsV RX8 83 RX8 yX8_minute wsX8_minute) := goodIn_app (goodIn_of _ (by decide +kernel)) ggX8_serveOne_X8_minute
set_option maxRecDepth 20000 in
theorem ggX8_serveOne_X8_far : GoodIn wsX8_serveOne wsX8_far := goodIn_r _ [39] (by decide +kernel) (by decide +kernel)
set_option maxRecDepth 20000 in
theorem gX8_serveOne_X8_far : GoodIn wsX8_serveOne (va_wsS RX8 77 yX8_far wsX8_far) := goodIn_app (goodIn_of _ (by decide +kernel)) ggX8_serveOne_X8_far
set_option maxRecDepth 20000 in
theorem ggX8_serveOne_X8_lastOf : GoodIn wsX8_serveOne wsX8_lastOf := goodIn_r _ [43, 13, 14, 15, 7, 16, 3, 52, 53, 54, 55, 56, 57, 58, 59, 60, 61, 62, 63, 64] (by decide +kernel) (by decide +kernel)
set_option maxRecDepth 20000 in
theorem gX8_serveOne_X8_lastOf : GoodIn wsX8_serveOne (wsV RX8 86 RX8 yX8_lastOf wsX8_lastOf) := goodIn_app (goodIn_of _ (by decide +kernel)) ggX8_serveOne_X8_lastOf
set_option maxRecDepth 20000 in
theorem ggX8_serveOne_X8_note : GoodIn wsX8_serveOne wsX8_note := goodIn_r _ [47, 3, 52, 53, 54, 55, 56, 57, 58, 59, 60, 61, 62, 63, 64] (by decide +kernel) (by decide +kernel)
set_option maxRecDepth 20000 in
theorem gX8_serveOne_X8_note : GoodIn wsX8_serveOne (wsV RX8 89 RX8 yX8_note wsX8_note) := goodIn_app (goodIn_of _ (by decide +kernel)) ggX8_serveOne_X8_note
set_option maxRecDepth 20000 in
theorem ggX8_serveOne_X8_drop : GoodIn wsX8_serveOne wsX8_drop := goodIn_r _ [51, 3, 52, 53, 54, 55, 56, 57, 58, 59, 60, 61, 62, 63, 64] (by decide +kernel) (by decide +kernel)
set_option maxRecDepth 20000 in
theorem gX8_serveOne_X8_drop : GoodIn wsX8_serveOne (wsV RX8 93 RX8 yX8_drop wsX8_drop) := goodIn_app (goodIn_of _ (by decide +kernel)) ggX8_serveOne_X8_drop
theorem dX8_serveOne_0 : decode cX8_serveOne 0 = .ok (.aload_n 0, 1) := by decide +kernel
theorem dX8_serveOne_1 : decode cX8_serveOne 1 = .ok (.invokevirtual 80, 3) := by decide +kernel
theorem dX8_serveOne_4 : decode cX8_serveOne 4 = .ok (.aload_n 0, 1) := by decide +kernel
theorem dX8_serveOne_5 : decode cX8_serveOne 5 = .ok (.aload_n 0, 1) := by decide +kernel
theorem dX8_serveOne_6 : decode cX8_serveOne 6 = .ok (.getfield 60, 3) := by decide +kernel
theorem dX8_serveOne_9 : decode cX8_serveOne 9 = .ok (.iconst 1, 1) := by decide +kernel
theorem dX8_serveOne_10 : decode cX8_serveOne 10 = .ok (.invokevirtual 35, 3) := by decide +kernel
theorem dX8_serveOne_13 : decode cX8_serveOne 13 = .ok (.istore_n 1, 1) := by decide +kernel
theorem dX8_serveOne_14 : decode cX8_serveOne 14 = .ok (.aload_n 0, 1) := by decide +kernel
theorem dX8_serveOne_15 : decode cX8_serveOne 15 = .ok (.getfield 63, 3) := by decide +kernel
theorem dX8_serveOne_18 : decode cX8_serveOne 18 = .ok (.ifCond .le 67, 3) := by decide +kernel
theorem dX8_serveOne_21 : decode cX8_serveOne 21 = .ok (.aload_n 0, 1) := by decide +kernel
theorem dX8_serveOne_22 : decode cX8_serveOne 22 = .ok (.getfield 7, 3) := by decide +kernel
theorem dX8_serveOne_25 : decode cX8_serveOne 25 = .ok (.bipush 15, 2) := by decide +kernel
theorem dX8_serveOne_27 : decode cX8_serveOne 27 = .ok (.iload_n 1, 1) := by decide +kernel
theorem dX8_serveOne_28 : decode cX8_serveOne 28 = .ok (.iconst 1, 1) := by decide +kernel
theorem dX8_serveOne_29 : decode cX8_serveOne 29 = .ok (.if_icmp .ne 7, 3) := by decide +kernel
theorem dX8_serveOne_32 : decode cX8_serveOne 32 = .ok (.iconst 0, 1) := by decide +kernel
theorem dX8_serveOne_33 : decode cX8_serveOne 33 = .ok (.goto 24, 3) := by decide +kernel
theorem dX8_serveOne_36 : decode cX8_serveOne 36 = .ok (.aload_n 0, 1) := by decide +kernel
theorem dX8_serveOne_37 : decode cX8_serveOne 37 = .ok (.getfield 7, 3) := by decide +kernel
theorem dX8_serveOne_40 : decode cX8_serveOne 40 = .ok (.bipush 15, 2) := by decide +kernel
theorem dX8_serveOne_42 : decode cX8_serveOne 42 = .ok (.iaload, 1) := by decide +kernel
theorem dX8_serveOne_43 : decode cX8_serveOne 43 = .ok (.aload_n 0, 1) := by decide +kernel
theorem dX8_serveOne_44 : decode cX8_serveOne 44 = .ok (.iconst 1, 1) := by decide +kernel
theorem dX8_serveOne_45 : decode cX8_serveOne 45 = .ok (.invokevirtual 54, 3) := by decide +kernel
theorem dX8_serveOne_48 : decode cX8_serveOne 48 = .ok (.ifCond .le 7, 3) := by decide +kernel
theorem dX8_serveOne_51 : decode cX8_serveOne 51 = .ok (.iconst 1, 1) := by decide +kernel
theorem dX8_serveOne_52 : decode cX8_serveOne 52 = .ok (.goto 4, 3) := by decide +kernel
theorem dX8_serveOne_55 : decode cX8_serveOne 55 = .ok (.iconst 0, 1) := by decide +kernel
theorem dX8_serveOne_56 : decode cX8_serveOne 56 = .ok (.iadd, 1) := by decide +kernel
theorem dX8_serveOne_57 : decode cX8_serveOne 57 = .ok (.iastore, 1) := by decide +kernel
theorem dX8_serveOne_58 : decode cX8_serveOne 58 = .ok (.aload_n 0, 1) := by decide +kernel
theorem dX8_serveOne_59 : decode cX8_serveOne 59 = .ok (.getfield 7, 3) := by decide +kernel
theorem dX8_serveOne_62 : decode cX8_serveOne 62 = .ok (.bipush 13, 2) := by decide +kernel
theorem dX8_serveOne_64 : decode cX8_serveOne 64 = .ok (.dup2, 1) := by decide +kernel
theorem dX8_serveOne_65 : decode cX8_serveOne 65 = .ok (.iaload, 1) := by decide +kernel
theorem dX8_serveOne_66 : decode cX8_serveOne 66 = .ok (.iconst 1, 1) := by decide +kernel
theorem dX8_serveOne_67 : decode cX8_serveOne 67 = .ok (.iadd, 1) := by decide +kernel
theorem dX8_serveOne_68 : decode cX8_serveOne 68 = .ok (.iastore, 1) := by decide +kernel
theorem dX8_serveOne_69 : decode cX8_serveOne 69 = .ok (.aload_n 0, 1) := by decide +kernel
theorem dX8_serveOne_70 : decode cX8_serveOne 70 = .ok (.getfield 7, 3) := by decide +kernel
theorem dX8_serveOne_73 : decode cX8_serveOne 73 = .ok (.bipush 14, 2) := by decide +kernel
theorem dX8_serveOne_75 : decode cX8_serveOne 75 = .ok (.iconst 0, 1) := by decide +kernel
theorem dX8_serveOne_76 : decode cX8_serveOne 76 = .ok (.iastore, 1) := by decide +kernel
theorem dX8_serveOne_77 : decode cX8_serveOne 77 = .ok (.aload_n 0, 1) := by decide +kernel
theorem dX8_serveOne_78 : decode cX8_serveOne 78 = .ok (.getfield 7, 3) := by decide +kernel
theorem dX8_serveOne_81 : decode cX8_serveOne 81 = .ok (.bipush 16, 2) := by decide +kernel
theorem dX8_serveOne_83 : decode cX8_serveOne 83 = .ok (.iload_n 1, 1) := by decide +kernel
theorem dX8_serveOne_84 : decode cX8_serveOne 84 = .ok (.iastore, 1) := by decide +kernel
theorem dX8_serveOne_85 : decode cX8_serveOne 85 = .ok (.aload_n 0, 1) := by decide +kernel
theorem dX8_serveOne_86 : decode cX8_serveOne 86 = .ok (.getfield 7, 3) := by decide +kernel
theorem dX8_serveOne_89 : decode cX8_serveOne 89 = .ok (.bipush 14, 2) := by decide +kernel
theorem dX8_serveOne_91 : decode cX8_serveOne 91 = .ok (.dup2, 1) := by decide +kernel
theorem dX8_serveOne_92 : decode cX8_serveOne 92 = .ok (.iaload, 1) := by decide +kernel
theorem dX8_serveOne_93 : decode cX8_serveOne 93 = .ok (.iconst 1, 1) := by decide +kernel
theorem dX8_serveOne_94 : decode cX8_serveOne 94 = .ok (.iadd, 1) := by decide +kernel
theorem dX8_serveOne_95 : decode cX8_serveOne 95 = .ok (.iastore, 1) := by decide +kernel
theorem dX8_serveOne_96 : decode cX8_serveOne 96 = .ok (.aload_n 0, 1) := by decide +kernel
theorem dX8_serveOne_97 : decode cX8_serveOne 97 = .ok (.invokevirtual 83, 3) := by decide +kernel
theorem dX8_serveOne_100 : decode cX8_serveOne 100 = .ok (.istore_n 2, 1) := by decide +kernel
theorem dX8_serveOne_101 : decode cX8_serveOne 101 = .ok (.iload_n 2, 1) := by decide +kernel
theorem dX8_serveOne_102 : decode cX8_serveOne 102 = .ok (.aload_n 0, 1) := by decide +kernel
theorem dX8_serveOne_103 : decode cX8_serveOne 103 = .ok (.aload_n 0, 1) := by decide +kernel
theorem dX8_serveOne_104 : decode cX8_serveOne 104 = .ok (.getfield 60, 3) := by decide +kernel
theorem dX8_serveOne_107 : decode cX8_serveOne 107 = .ok (.iconst 4, 1) := by decide +kernel
theorem dX8_serveOne_108 : decode cX8_serveOne 108 = .ok (.invokevirtual 35, 3) := by decide +kernel
theorem dX8_serveOne_111 : decode cX8_serveOne 111 = .ok (.isub, 1) := by decide +kernel
theorem dX8_serveOne_112 : decode cX8_serveOne 112 = .ok (.istore_n 3, 1) := by decide +kernel
theorem dX8_serveOne_113 : decode cX8_serveOne 113 = .ok (.aload_n 0, 1) := by decide +kernel
theorem dX8_serveOne_114 : decode cX8_serveOne 114 = .ok (.getfield 7, 3) := by decide +kernel
theorem dX8_serveOne_117 : decode cX8_serveOne 117 = .ok (.bipush 12, 2) := by decide +kernel
theorem dX8_serveOne_119 : decode cX8_serveOne 119 = .ok (.dup2, 1) := by decide +kernel
theorem dX8_serveOne_120 : decode cX8_serveOne 120 = .ok (.iaload, 1) := by decide +kernel
theorem dX8_serveOne_121 : decode cX8_serveOne 121 = .ok (.aload_n 0, 1) := by decide +kernel
theorem dX8_serveOne_122 : decode cX8_serveOne 122 = .ok (.aload_n 0, 1) := by decide +kernel
theorem dX8_serveOne_123 : decode cX8_serveOne 123 = .ok (.getfield 60, 3) := by decide +kernel
theorem dX8_serveOne_126 : decode cX8_serveOne 126 = .ok (.iconst 2, 1) := by decide +kernel
theorem dX8_serveOne_127 : decode cX8_serveOne 127 = .ok (.invokevirtual 35, 3) := by decide +kernel
theorem dX8_serveOne_130 : decode cX8_serveOne 130 = .ok (.aload_n 0, 1) := by decide +kernel
theorem dX8_serveOne_131 : decode cX8_serveOne 131 = .ok (.getfield 7, 3) := by decide +kernel
theorem dX8_serveOne_134 : decode cX8_serveOne 134 = .ok (.bipush 9, 2) := by decide +kernel
theorem dX8_serveOne_136 : decode cX8_serveOne 136 = .ok (.iaload, 1) := by decide +kernel
theorem dX8_serveOne_137 : decode cX8_serveOne 137 = .ok (.invokestatic 77, 3) := by decide +kernel
theorem dX8_serveOne_140 : decode cX8_serveOne 140 = .ok (.iadd, 1) := by decide +kernel
theorem dX8_serveOne_141 : decode cX8_serveOne 141 = .ok (.iastore, 1) := by decide +kernel
theorem dX8_serveOne_142 : decode cX8_serveOne 142 = .ok (.aload_n 0, 1) := by decide +kernel
theorem dX8_serveOne_143 : decode cX8_serveOne 143 = .ok (.getfield 7, 3) := by decide +kernel
theorem dX8_serveOne_146 : decode cX8_serveOne 146 = .ok (.bipush 9, 2) := by decide +kernel
theorem dX8_serveOne_148 : decode cX8_serveOne 148 = .ok (.aload_n 0, 1) := by decide +kernel
theorem dX8_serveOne_149 : decode cX8_serveOne 149 = .ok (.aload_n 0, 1) := by decide +kernel
theorem dX8_serveOne_150 : decode cX8_serveOne 150 = .ok (.getfield 60, 3) := by decide +kernel
theorem dX8_serveOne_153 : decode cX8_serveOne 153 = .ok (.invokevirtual 86, 3) := by decide +kernel
theorem dX8_serveOne_156 : decode cX8_serveOne 156 = .ok (.bipush 99, 2) := by decide +kernel
theorem dX8_serveOne_158 : decode cX8_serveOne 158 = .ok (.if_icmp .ge 16, 3) := by decide +kernel
theorem dX8_serveOne_161 : decode cX8_serveOne 161 = .ok (.aload_n 0, 1) := by decide +kernel
theorem dX8_serveOne_162 : decode cX8_serveOne 162 = .ok (.aload_n 0, 1) := by decide +kernel
theorem dX8_serveOne_163 : decode cX8_serveOne 163 = .ok (.getfield 60, 3) := by decide +kernel
theorem dX8_serveOne_166 : decode cX8_serveOne 166 = .ok (.invokevirtual 86, 3) := by decide +kernel
theorem dX8_serveOne_169 : decode cX8_serveOne 169 = .ok (.iconst 1, 1) := by decide +kernel
theorem dX8_serveOne_170 : decode cX8_serveOne 170 = .ok (.iadd, 1) := by decide +kernel
theorem dX8_serveOne_171 : decode cX8_serveOne 171 = .ok (.goto 5, 3) := by decide +kernel
theorem dX8_serveOne_174 : decode cX8_serveOne 174 = .ok (.bipush 99, 2) := by decide +kernel
theorem dX8_serveOne_176 : decode cX8_serveOne 176 = .ok (.iastore, 1) := by decide +kernel
theorem dX8_serveOne_177 : decode cX8_serveOne 177 = .ok (.aload_n 0, 1) := by decide +kernel
theorem dX8_serveOne_178 : decode cX8_serveOne 178 = .ok (.getfield 7, 3) := by decide +kernel
theorem dX8_serveOne_181 : decode cX8_serveOne 181 = .ok (.bipush 6, 2) := by decide +kernel
theorem dX8_serveOne_183 : decode cX8_serveOne 183 = .ok (.iload_n 2, 1) := by decide +kernel
theorem dX8_serveOne_184 : decode cX8_serveOne 184 = .ok (.iastore, 1) := by decide +kernel
theorem dX8_serveOne_185 : decode cX8_serveOne 185 = .ok (.aload_n 0, 1) := by decide +kernel
theorem dX8_serveOne_186 : decode cX8_serveOne 186 = .ok (.getfield 7, 3) := by decide +kernel
theorem dX8_serveOne_189 : decode cX8_serveOne 189 = .ok (.bipush 10, 2) := by decide +kernel
theorem dX8_serveOne_191 : decode cX8_serveOne 191 = .ok (.dup2, 1) := by decide +kernel
theorem dX8_serveOne_192 : decode cX8_serveOne 192 = .ok (.iaload, 1) := by decide +kernel
theorem dX8_serveOne_193 : decode cX8_serveOne 193 = .ok (.iconst 1, 1) := by decide +kernel
theorem dX8_serveOne_194 : decode cX8_serveOne 194 = .ok (.iadd, 1) := by decide +kernel
theorem dX8_serveOne_195 : decode cX8_serveOne 195 = .ok (.iastore, 1) := by decide +kernel
theorem dX8_serveOne_196 : decode cX8_serveOne 196 = .ok (.aload_n 0, 1) := by decide +kernel
theorem dX8_serveOne_197 : decode cX8_serveOne 197 = .ok (.getfield 7, 3) := by decide +kernel
theorem dX8_serveOne_200 : decode cX8_serveOne 200 = .ok (.bipush 11, 2) := by decide +kernel
theorem dX8_serveOne_202 : decode cX8_serveOne 202 = .ok (.iload_n 3, 1) := by decide +kernel
theorem dX8_serveOne_203 : decode cX8_serveOne 203 = .ok (.aload_n 0, 1) := by decide +kernel
theorem dX8_serveOne_204 : decode cX8_serveOne 204 = .ok (.getfield 7, 3) := by decide +kernel
theorem dX8_serveOne_207 : decode cX8_serveOne 207 = .ok (.bipush 11, 2) := by decide +kernel
theorem dX8_serveOne_209 : decode cX8_serveOne 209 = .ok (.iaload, 1) := by decide +kernel
theorem dX8_serveOne_210 : decode cX8_serveOne 210 = .ok (.if_icmp .le 7, 3) := by decide +kernel
theorem dX8_serveOne_213 : decode cX8_serveOne 213 = .ok (.iload_n 3, 1) := by decide +kernel
theorem dX8_serveOne_214 : decode cX8_serveOne 214 = .ok (.goto 10, 3) := by decide +kernel
theorem dX8_serveOne_217 : decode cX8_serveOne 217 = .ok (.aload_n 0, 1) := by decide +kernel
theorem dX8_serveOne_218 : decode cX8_serveOne 218 = .ok (.getfield 7, 3) := by decide +kernel
theorem dX8_serveOne_221 : decode cX8_serveOne 221 = .ok (.bipush 11, 2) := by decide +kernel
theorem dX8_serveOne_223 : decode cX8_serveOne 223 = .ok (.iaload, 1) := by decide +kernel
theorem dX8_serveOne_224 : decode cX8_serveOne 224 = .ok (.iastore, 1) := by decide +kernel
theorem dX8_serveOne_225 : decode cX8_serveOne 225 = .ok (.aload_n 0, 1) := by decide +kernel
theorem dX8_serveOne_226 : decode cX8_serveOne 226 = .ok (.aload_n 0, 1) := by decide +kernel
theorem dX8_serveOne_227 : decode cX8_serveOne 227 = .ok (.aload_n 0, 1) := by decide +kernel
theorem dX8_serveOne_228 : decode cX8_serveOne 228 = .ok (.getfield 60, 3) := by decide +kernel
theorem dX8_serveOne_231 : decode cX8_serveOne 231 = .ok (.iconst 0, 1) := by decide +kernel
theorem dX8_serveOne_232 : decode cX8_serveOne 232 = .ok (.invokevirtual 35, 3) := by decide +kernel
theorem dX8_serveOne_235 : decode cX8_serveOne 235 = .ok (.iload_n 3, 1) := by decide +kernel
theorem dX8_serveOne_236 : decode cX8_serveOne 236 = .ok (.iload_n 1, 1) := by decide +kernel
theorem dX8_serveOne_237 : decode cX8_serveOne 237 = .ok (.invokevirtual 89, 3) := by decide +kernel
theorem dX8_serveOne_240 : decode cX8_serveOne 240 = .ok (.aload_n 0, 1) := by decide +kernel
theorem dX8_serveOne_241 : decode cX8_serveOne 241 = .ok (.aload_n 0, 1) := by decide +kernel
theorem dX8_serveOne_242 : decode cX8_serveOne 242 = .ok (.getfield 60, 3) := by decide +kernel
theorem dX8_serveOne_245 : decode cX8_serveOne 245 = .ok (.invokevirtual 93, 3) := by decide +kernel
theorem dX8_serveOne_248 : decode cX8_serveOne 248 = .ok (.return_, 1) := by decide +kernel
set_option maxRecDepth 20000 in
theorem ggX8_isSlip_X8_in : GoodIn wsX8_isSlip wsX8_in := goodIn_r _ [4] (by decide +kernel) (by decide +kernel)
set_option maxRecDepth 20000 in
theorem gX8_isSlip_X8_in : GoodIn wsX8_isSlip (va_wsS RX8 43 yX8_in wsX8_in) := goodIn_app (goodIn_of _ (by decide +kernel)) ggX8_isSlip_X8_in
theorem dX8_isSlip_0 : decode cX8_isSlip 0 = .ok (.iload_n 0, 1) := by decide +kernel
theorem dX8_isSlip_1 : decode cX8_isSlip 1 = .ok (.i2l, 1) := by decide +kernel
theorem dX8_isSlip_2 : decode cX8_isSlip 2 = .ok (.iconst 0, 1) := by decide +kernel
theorem dX8_isSlip_3 : decode cX8_isSlip 3 = .ok (.iconst 1, 1) := by decide +kernel
theorem dX8_isSlip_4 : decode cX8_isSlip 4 = .ok (.invokestatic 43, 3) := by decide +kernel
theorem dX8_isSlip_7 : decode cX8_isSlip 7 = .ok (.ifCond .eq 37, 3) := by decide +kernel
theorem dX8_isSlip_10 : decode cX8_isSlip 10 = .ok (.iload_n 1, 1) := by decide +kernel
theorem dX8_isSlip_11 : decode cX8_isSlip 11 = .ok (.i2l, 1) := by decide +kernel
theorem dX8_isSlip_12 : decode cX8_isSlip 12 = .ok (.iconst 0, 1) := by decide +kernel
theorem dX8_isSlip_13 : decode cX8_isSlip 13 = .ok (.bipush 99, 2) := by decide +kernel
theorem dX8_isSlip_15 : decode cX8_isSlip 15 = .ok (.invokestatic 43, 3) := by decide +kernel
theorem dX8_isSlip_18 : decode cX8_isSlip 18 = .ok (.ifCond .eq 26, 3) := by decide +kernel
theorem dX8_isSlip_21 : decode cX8_isSlip 21 = .ok (.iload_n 2, 1) := by decide +kernel
theorem dX8_isSlip_22 : decode cX8_isSlip 22 = .ok (.i2l, 1) := by decide +kernel
theorem dX8_isSlip_23 : decode cX8_isSlip 23 = .ok (.iconst 1, 1) := by decide +kernel
theorem dX8_isSlip_24 : decode cX8_isSlip 24 = .ok (.bipush 9, 2) := by decide +kernel
theorem dX8_isSlip_26 : decode cX8_isSlip 26 = .ok (.invokestatic 43, 3) := by decide +kernel
theorem dX8_isSlip_29 : decode cX8_isSlip 29 = .ok (.ifCond .eq 15, 3) := by decide +kernel
theorem dX8_isSlip_32 : decode cX8_isSlip 32 = .ok (.iload_n 1, 1) := by decide +kernel
theorem dX8_isSlip_33 : decode cX8_isSlip 33 = .ok (.iload_n 2, 1) := by decide +kernel
theorem dX8_isSlip_34 : decode cX8_isSlip 34 = .ok (.iadd, 1) := by decide +kernel
theorem dX8_isSlip_35 : decode cX8_isSlip 35 = .ok (.bipush 100, 2) := by decide +kernel
theorem dX8_isSlip_37 : decode cX8_isSlip 37 = .ok (.if_icmp .gt 7, 3) := by decide +kernel
theorem dX8_isSlip_40 : decode cX8_isSlip 40 = .ok (.iconst 1, 1) := by decide +kernel
theorem dX8_isSlip_41 : decode cX8_isSlip 41 = .ok (.goto 4, 3) := by decide +kernel
theorem dX8_isSlip_44 : decode cX8_isSlip 44 = .ok (.iconst 0, 1) := by decide +kernel
theorem dX8_isSlip_45 : decode cX8_isSlip 45 = .ok (.ireturn, 1) := by decide +kernel
set_option maxRecDepth 20000 in
theorem ggX8_partner_X8_its : GoodIn wsX8_partner wsX8_its := goodIn_r _ [6, 1, 11, 12, 13, 14, 15, 16, 17, 18, 19, 20, 21, 22, 23] (by decide +kernel) (by decide +kernel)
set_option maxRecDepth 20000 in
theorem gX8_partner_X8_its : GoodIn wsX8_partner (wsV RX8 35 RX8 yX8_its wsX8_its) := goodIn_app (goodIn_of _ (by decide +kernel)) ggX8_partner_X8_its
set_option maxRecDepth 20000 in
theorem ggX8_partner_X8_lastOf : GoodIn wsX8_partner wsX8_lastOf := goodIn_r _ [10, 2, 3, 4, 5, 6, 1, 11, 12, 13, 14, 15, 16, 17, 18, 19, 20, 21, 22, 23] (by decide +kernel) (by decide +kernel)
set_option maxRecDepth 20000 in
theorem gX8_partner_X8_lastOf : GoodIn wsX8_partner (wsV RX8 86 RX8 yX8_lastOf wsX8_lastOf) := goodIn_app (goodIn_of _ (by decide +kernel)) ggX8_partner_X8_lastOf
theorem dX8_partner_0 : decode cX8_partner 0 = .ok (.iconst 0, 1) := by decide +kernel
theorem dX8_partner_1 : decode cX8_partner 1 = .ok (.istore 4, 2) := by decide +kernel
theorem dX8_partner_3 : decode cX8_partner 3 = .ok (.iload 4, 2) := by decide +kernel
theorem dX8_partner_5 : decode cX8_partner 5 = .ok (.aload_n 0, 1) := by decide +kernel
theorem dX8_partner_6 : decode cX8_partner 6 = .ok (.getfield 7, 3) := by decide +kernel
theorem dX8_partner_9 : decode cX8_partner 9 = .ok (.bipush 7, 2) := by decide +kernel
theorem dX8_partner_11 : decode cX8_partner 11 = .ok (.iaload, 1) := by decide +kernel
theorem dX8_partner_12 : decode cX8_partner 12 = .ok (.if_icmp .ge 49, 3) := by decide +kernel
theorem dX8_partner_15 : decode cX8_partner 15 = .ok (.aload_n 0, 1) := by decide +kernel
theorem dX8_partner_16 : decode cX8_partner 16 = .ok (.iload 4, 2) := by decide +kernel
theorem dX8_partner_18 : decode cX8_partner 18 = .ok (.iconst 1, 1) := by decide +kernel
theorem dX8_partner_19 : decode cX8_partner 19 = .ok (.invokevirtual 35, 3) := by decide +kernel
theorem dX8_partner_22 : decode cX8_partner 22 = .ok (.iload_n 1, 1) := by decide +kernel
theorem dX8_partner_23 : decode cX8_partner 23 = .ok (.if_icmp .ne 32, 3) := by decide +kernel
theorem dX8_partner_26 : decode cX8_partner 26 = .ok (.aload_n 0, 1) := by decide +kernel
theorem dX8_partner_27 : decode cX8_partner 27 = .ok (.iload 4, 2) := by decide +kernel
theorem dX8_partner_29 : decode cX8_partner 29 = .ok (.invokevirtual 86, 3) := by decide +kernel
theorem dX8_partner_32 : decode cX8_partner 32 = .ok (.iload_n 2, 1) := by decide +kernel
theorem dX8_partner_33 : decode cX8_partner 33 = .ok (.iconst 1, 1) := by decide +kernel
theorem dX8_partner_34 : decode cX8_partner 34 = .ok (.isub, 1) := by decide +kernel
theorem dX8_partner_35 : decode cX8_partner 35 = .ok (.if_icmp .ne 20, 3) := by decide +kernel
theorem dX8_partner_38 : decode cX8_partner 38 = .ok (.aload_n 0, 1) := by decide +kernel
theorem dX8_partner_39 : decode cX8_partner 39 = .ok (.iload 4, 2) := by decide +kernel
theorem dX8_partner_41 : decode cX8_partner 41 = .ok (.iconst 3, 1) := by decide +kernel
theorem dX8_partner_42 : decode cX8_partner 42 = .ok (.invokevirtual 35, 3) := by decide +kernel
theorem dX8_partner_45 : decode cX8_partner 45 = .ok (.iload_n 3, 1) := by decide +kernel
theorem dX8_partner_46 : decode cX8_partner 46 = .ok (.iadd, 1) := by decide +kernel
theorem dX8_partner_47 : decode cX8_partner 47 = .ok (.bipush 9, 2) := by decide +kernel
theorem dX8_partner_49 : decode cX8_partner 49 = .ok (.if_icmp .gt 6, 3) := by decide +kernel
theorem dX8_partner_52 : decode cX8_partner 52 = .ok (.iload 4, 2) := by decide +kernel
theorem dX8_partner_54 : decode cX8_partner 54 = .ok (.ireturn, 1) := by decide +kernel
theorem dX8_partner_55 : decode cX8_partner 55 = .ok (.iinc 4 1, 3) := by decide +kernel
theorem dX8_partner_58 : decode cX8_partner 58 = .ok (.goto (-55), 3) := by decide +kernel
theorem dX8_partner_61 : decode cX8_partner 61 = .ok (.bipush (-6), 2) := by decide +kernel
theorem dX8_partner_63 : decode cX8_partner 63 = .ok (.ireturn, 1) := by decide +kernel
set_option maxRecDepth 20000 in
theorem ggX8_comes_X8_isSlip : GoodIn wsX8_comes wsX8_isSlip := goodIn_r _ [5, 6, 7, 4, 8] (by decide +kernel) (by decide +kernel)
set_option maxRecDepth 20000 in
theorem gX8_comes_X8_isSlip : GoodIn wsX8_comes (va_wsS RX8 97 yX8_isSlip wsX8_isSlip) := goodIn_app (goodIn_of _ (by decide +kernel)) ggX8_comes_X8_isSlip
set_option maxRecDepth 20000 in
theorem ggX8_comes_X8_partner : GoodIn wsX8_comes wsX8_partner := goodIn_r _ [12, 1, 13, 14, 15, 4, 16, 17, 18, 19, 20, 21, 22, 23, 24, 25, 26, 27, 28, 29, 30, 31, 32, 33] (by decide +kernel) (by decide +kernel)
set_option maxRecDepth 20000 in
theorem gX8_comes_X8_partner : GoodIn wsX8_comes (wsV RX8 101 RX8 yX8_partner wsX8_partner) := goodIn_app (goodIn_of _ (by decide +kernel)) ggX8_comes_X8_partner
set_option maxRecDepth 20000 in
theorem ggX8_comes_X8_its : GoodIn wsX8_comes wsX8_its := goodIn_r _ [16, 1, 21, 22, 23, 24, 25, 26, 27, 28, 29, 30, 31, 32, 33] (by decide +kernel) (by decide +kernel)
set_option maxRecDepth 20000 in
theorem gX8_comes_X8_its : GoodIn wsX8_comes (wsV RX8 35 RX8 yX8_its wsX8_its) := goodIn_app (goodIn_of _ (by decide +kernel)) ggX8_comes_X8_its
theorem dX8_comes_0 : decode cX8_comes 0 = .ok (.iload_n 1, 1) := by decide +kernel
theorem dX8_comes_1 : decode cX8_comes 1 = .ok (.iload_n 2, 1) := by decide +kernel
theorem dX8_comes_2 : decode cX8_comes 2 = .ok (.iload_n 3, 1) := by decide +kernel
theorem dX8_comes_3 : decode cX8_comes 3 = .ok (.invokestatic 97, 3) := by decide +kernel
theorem dX8_comes_6 : decode cX8_comes 6 = .ok (.ifCond .ne 6, 3) := by decide +kernel
theorem dX8_comes_9 : decode cX8_comes 9 = .ok (.bipush (-2), 2) := by decide +kernel
theorem dX8_comes_11 : decode cX8_comes 11 = .ok (.ireturn, 1) := by decide +kernel
theorem dX8_comes_12 : decode cX8_comes 12 = .ok (.aload_n 0, 1) := by decide +kernel
theorem dX8_comes_13 : decode cX8_comes 13 = .ok (.iload_n 1, 1) := by decide +kernel
theorem dX8_comes_14 : decode cX8_comes 14 = .ok (.iload_n 2, 1) := by decide +kernel
theorem dX8_comes_15 : decode cX8_comes 15 = .ok (.iload_n 3, 1) := by decide +kernel
theorem dX8_comes_16 : decode cX8_comes 16 = .ok (.invokevirtual 101, 3) := by decide +kernel
theorem dX8_comes_19 : decode cX8_comes 19 = .ok (.istore 4, 2) := by decide +kernel
theorem dX8_comes_21 : decode cX8_comes 21 = .ok (.iload 4, 2) := by decide +kernel
theorem dX8_comes_23 : decode cX8_comes 23 = .ok (.bipush (-6), 2) := by decide +kernel
theorem dX8_comes_25 : decode cX8_comes 25 = .ok (.if_icmp .eq 49, 3) := by decide +kernel
theorem dX8_comes_28 : decode cX8_comes 28 = .ok (.aload_n 0, 1) := by decide +kernel
theorem dX8_comes_29 : decode cX8_comes 29 = .ok (.getfield 7, 3) := by decide +kernel
theorem dX8_comes_32 : decode cX8_comes 32 = .ok (.bipush 78, 2) := by decide +kernel
theorem dX8_comes_34 : decode cX8_comes 34 = .ok (.bipush 6, 2) := by decide +kernel
theorem dX8_comes_36 : decode cX8_comes 36 = .ok (.iload 4, 2) := by decide +kernel
theorem dX8_comes_38 : decode cX8_comes 38 = .ok (.imul, 1) := by decide +kernel
theorem dX8_comes_39 : decode cX8_comes 39 = .ok (.iadd, 1) := by decide +kernel
theorem dX8_comes_40 : decode cX8_comes 40 = .ok (.iconst 3, 1) := by decide +kernel
theorem dX8_comes_41 : decode cX8_comes 41 = .ok (.iadd, 1) := by decide +kernel
theorem dX8_comes_42 : decode cX8_comes 42 = .ok (.dup2, 1) := by decide +kernel
theorem dX8_comes_43 : decode cX8_comes 43 = .ok (.iaload, 1) := by decide +kernel
theorem dX8_comes_44 : decode cX8_comes 44 = .ok (.iload_n 3, 1) := by decide +kernel
theorem dX8_comes_45 : decode cX8_comes 45 = .ok (.iadd, 1) := by decide +kernel
theorem dX8_comes_46 : decode cX8_comes 46 = .ok (.iastore, 1) := by decide +kernel
theorem dX8_comes_47 : decode cX8_comes 47 = .ok (.aload_n 0, 1) := by decide +kernel
theorem dX8_comes_48 : decode cX8_comes 48 = .ok (.getfield 7, 3) := by decide +kernel
theorem dX8_comes_51 : decode cX8_comes 51 = .ok (.bipush 78, 2) := by decide +kernel
theorem dX8_comes_53 : decode cX8_comes 53 = .ok (.bipush 6, 2) := by decide +kernel
theorem dX8_comes_55 : decode cX8_comes 55 = .ok (.iload 4, 2) := by decide +kernel
theorem dX8_comes_57 : decode cX8_comes 57 = .ok (.imul, 1) := by decide +kernel
theorem dX8_comes_58 : decode cX8_comes 58 = .ok (.iadd, 1) := by decide +kernel
theorem dX8_comes_59 : decode cX8_comes 59 = .ok (.iconst 5, 1) := by decide +kernel
theorem dX8_comes_60 : decode cX8_comes 60 = .ok (.iadd, 1) := by decide +kernel
theorem dX8_comes_61 : decode cX8_comes 61 = .ok (.dup2, 1) := by decide +kernel
theorem dX8_comes_62 : decode cX8_comes 62 = .ok (.iaload, 1) := by decide +kernel
theorem dX8_comes_63 : decode cX8_comes 63 = .ok (.iconst 1, 1) := by decide +kernel
theorem dX8_comes_64 : decode cX8_comes 64 = .ok (.iadd, 1) := by decide +kernel
theorem dX8_comes_65 : decode cX8_comes 65 = .ok (.iastore, 1) := by decide +kernel
theorem dX8_comes_66 : decode cX8_comes 66 = .ok (.aload_n 0, 1) := by decide +kernel
theorem dX8_comes_67 : decode cX8_comes 67 = .ok (.iload 4, 2) := by decide +kernel
theorem dX8_comes_69 : decode cX8_comes 69 = .ok (.iconst 0, 1) := by decide +kernel
theorem dX8_comes_70 : decode cX8_comes 70 = .ok (.invokevirtual 35, 3) := by decide +kernel
theorem dX8_comes_73 : decode cX8_comes 73 = .ok (.ireturn, 1) := by decide +kernel
theorem dX8_comes_74 : decode cX8_comes 74 = .ok (.aload_n 0, 1) := by decide +kernel
theorem dX8_comes_75 : decode cX8_comes 75 = .ok (.getfield 7, 3) := by decide +kernel
theorem dX8_comes_78 : decode cX8_comes 78 = .ok (.bipush 7, 2) := by decide +kernel
theorem dX8_comes_80 : decode cX8_comes 80 = .ok (.iaload, 1) := by decide +kernel
theorem dX8_comes_81 : decode cX8_comes 81 = .ok (.bipush 30, 2) := by decide +kernel
theorem dX8_comes_83 : decode cX8_comes 83 = .ok (.if_icmp .ne 6, 3) := by decide +kernel
theorem dX8_comes_86 : decode cX8_comes 86 = .ok (.bipush (-4), 2) := by decide +kernel
theorem dX8_comes_88 : decode cX8_comes 88 = .ok (.ireturn, 1) := by decide +kernel
theorem dX8_comes_89 : decode cX8_comes 89 = .ok (.bipush 78, 2) := by decide +kernel
theorem dX8_comes_91 : decode cX8_comes 91 = .ok (.bipush 6, 2) := by decide +kernel
theorem dX8_comes_93 : decode cX8_comes 93 = .ok (.aload_n 0, 1) := by decide +kernel
theorem dX8_comes_94 : decode cX8_comes 94 = .ok (.getfield 7, 3) := by decide +kernel
theorem dX8_comes_97 : decode cX8_comes 97 = .ok (.bipush 7, 2) := by decide +kernel
theorem dX8_comes_99 : decode cX8_comes 99 = .ok (.iaload, 1) := by decide +kernel
theorem dX8_comes_100 : decode cX8_comes 100 = .ok (.imul, 1) := by decide +kernel
theorem dX8_comes_101 : decode cX8_comes 101 = .ok (.iadd, 1) := by decide +kernel
theorem dX8_comes_102 : decode cX8_comes 102 = .ok (.istore 5, 2) := by decide +kernel
theorem dX8_comes_104 : decode cX8_comes 104 = .ok (.aload_n 0, 1) := by decide +kernel
theorem dX8_comes_105 : decode cX8_comes 105 = .ok (.getfield 7, 3) := by decide +kernel
theorem dX8_comes_108 : decode cX8_comes 108 = .ok (.iload 5, 2) := by decide +kernel
theorem dX8_comes_110 : decode cX8_comes 110 = .ok (.iconst 0, 1) := by decide +kernel
theorem dX8_comes_111 : decode cX8_comes 111 = .ok (.iadd, 1) := by decide +kernel
theorem dX8_comes_112 : decode cX8_comes 112 = .ok (.aload_n 0, 1) := by decide +kernel
theorem dX8_comes_113 : decode cX8_comes 113 = .ok (.getfield 7, 3) := by decide +kernel
theorem dX8_comes_116 : decode cX8_comes 116 = .ok (.bipush 8, 2) := by decide +kernel
theorem dX8_comes_118 : decode cX8_comes 118 = .ok (.iaload, 1) := by decide +kernel
theorem dX8_comes_119 : decode cX8_comes 119 = .ok (.iastore, 1) := by decide +kernel
theorem dX8_comes_120 : decode cX8_comes 120 = .ok (.aload_n 0, 1) := by decide +kernel
theorem dX8_comes_121 : decode cX8_comes 121 = .ok (.getfield 7, 3) := by decide +kernel
theorem dX8_comes_124 : decode cX8_comes 124 = .ok (.iload 5, 2) := by decide +kernel
theorem dX8_comes_126 : decode cX8_comes 126 = .ok (.iconst 1, 1) := by decide +kernel
theorem dX8_comes_127 : decode cX8_comes 127 = .ok (.iadd, 1) := by decide +kernel
theorem dX8_comes_128 : decode cX8_comes 128 = .ok (.iload_n 1, 1) := by decide +kernel
theorem dX8_comes_129 : decode cX8_comes 129 = .ok (.iastore, 1) := by decide +kernel
theorem dX8_comes_130 : decode cX8_comes 130 = .ok (.aload_n 0, 1) := by decide +kernel
theorem dX8_comes_131 : decode cX8_comes 131 = .ok (.getfield 7, 3) := by decide +kernel
theorem dX8_comes_134 : decode cX8_comes 134 = .ok (.iload 5, 2) := by decide +kernel
theorem dX8_comes_136 : decode cX8_comes 136 = .ok (.iconst 2, 1) := by decide +kernel
theorem dX8_comes_137 : decode cX8_comes 137 = .ok (.iadd, 1) := by decide +kernel
theorem dX8_comes_138 : decode cX8_comes 138 = .ok (.iload_n 2, 1) := by decide +kernel
theorem dX8_comes_139 : decode cX8_comes 139 = .ok (.iastore, 1) := by decide +kernel
theorem dX8_comes_140 : decode cX8_comes 140 = .ok (.aload_n 0, 1) := by decide +kernel
theorem dX8_comes_141 : decode cX8_comes 141 = .ok (.getfield 7, 3) := by decide +kernel
theorem dX8_comes_144 : decode cX8_comes 144 = .ok (.iload 5, 2) := by decide +kernel
theorem dX8_comes_146 : decode cX8_comes 146 = .ok (.iconst 3, 1) := by decide +kernel
theorem dX8_comes_147 : decode cX8_comes 147 = .ok (.iadd, 1) := by decide +kernel
theorem dX8_comes_148 : decode cX8_comes 148 = .ok (.iload_n 3, 1) := by decide +kernel
theorem dX8_comes_149 : decode cX8_comes 149 = .ok (.iastore, 1) := by decide +kernel
theorem dX8_comes_150 : decode cX8_comes 150 = .ok (.aload_n 0, 1) := by decide +kernel
theorem dX8_comes_151 : decode cX8_comes 151 = .ok (.getfield 7, 3) := by decide +kernel
theorem dX8_comes_154 : decode cX8_comes 154 = .ok (.iload 5, 2) := by decide +kernel
theorem dX8_comes_156 : decode cX8_comes 156 = .ok (.iconst 4, 1) := by decide +kernel
theorem dX8_comes_157 : decode cX8_comes 157 = .ok (.iadd, 1) := by decide +kernel
theorem dX8_comes_158 : decode cX8_comes 158 = .ok (.aload_n 0, 1) := by decide +kernel
theorem dX8_comes_159 : decode cX8_comes 159 = .ok (.getfield 7, 3) := by decide +kernel
theorem dX8_comes_162 : decode cX8_comes 162 = .ok (.bipush 6, 2) := by decide +kernel
theorem dX8_comes_164 : decode cX8_comes 164 = .ok (.iaload, 1) := by decide +kernel
theorem dX8_comes_165 : decode cX8_comes 165 = .ok (.iastore, 1) := by decide +kernel
theorem dX8_comes_166 : decode cX8_comes 166 = .ok (.aload_n 0, 1) := by decide +kernel
theorem dX8_comes_167 : decode cX8_comes 167 = .ok (.getfield 7, 3) := by decide +kernel
theorem dX8_comes_170 : decode cX8_comes 170 = .ok (.iload 5, 2) := by decide +kernel
theorem dX8_comes_172 : decode cX8_comes 172 = .ok (.iconst 5, 1) := by decide +kernel
theorem dX8_comes_173 : decode cX8_comes 173 = .ok (.iadd, 1) := by decide +kernel
theorem dX8_comes_174 : decode cX8_comes 174 = .ok (.iconst 0, 1) := by decide +kernel
theorem dX8_comes_175 : decode cX8_comes 175 = .ok (.iastore, 1) := by decide +kernel
theorem dX8_comes_176 : decode cX8_comes 176 = .ok (.aload_n 0, 1) := by decide +kernel
theorem dX8_comes_177 : decode cX8_comes 177 = .ok (.getfield 7, 3) := by decide +kernel
theorem dX8_comes_180 : decode cX8_comes 180 = .ok (.bipush 7, 2) := by decide +kernel
theorem dX8_comes_182 : decode cX8_comes 182 = .ok (.dup2, 1) := by decide +kernel
theorem dX8_comes_183 : decode cX8_comes 183 = .ok (.iaload, 1) := by decide +kernel
theorem dX8_comes_184 : decode cX8_comes 184 = .ok (.iconst 1, 1) := by decide +kernel
theorem dX8_comes_185 : decode cX8_comes 185 = .ok (.iadd, 1) := by decide +kernel
theorem dX8_comes_186 : decode cX8_comes 186 = .ok (.iastore, 1) := by decide +kernel
theorem dX8_comes_187 : decode cX8_comes 187 = .ok (.aload_n 0, 1) := by decide +kernel
theorem dX8_comes_188 : decode cX8_comes 188 = .ok (.getfield 7, 3) := by decide +kernel
theorem dX8_comes_191 : decode cX8_comes 191 = .ok (.bipush 8, 2) := by decide +kernel
theorem dX8_comes_193 : decode cX8_comes 193 = .ok (.dup2, 1) := by decide +kernel
theorem dX8_comes_194 : decode cX8_comes 194 = .ok (.iaload, 1) := by decide +kernel
theorem dX8_comes_195 : decode cX8_comes 195 = .ok (.iconst 1, 1) := by decide +kernel
theorem dX8_comes_196 : decode cX8_comes 196 = .ok (.iadd, 1) := by decide +kernel
theorem dX8_comes_197 : decode cX8_comes 197 = .ok (.iastore, 1) := by decide +kernel
theorem dX8_comes_198 : decode cX8_comes 198 = .ok (.aload_n 0, 1) := by decide +kernel
theorem dX8_comes_199 : decode cX8_comes 199 = .ok (.getfield 7, 3) := by decide +kernel
theorem dX8_comes_202 : decode cX8_comes 202 = .ok (.bipush 8, 2) := by decide +kernel
theorem dX8_comes_204 : decode cX8_comes 204 = .ok (.iaload, 1) := by decide +kernel
theorem dX8_comes_205 : decode cX8_comes 205 = .ok (.iconst 1, 1) := by decide +kernel
theorem dX8_comes_206 : decode cX8_comes 206 = .ok (.isub, 1) := by decide +kernel
theorem dX8_comes_207 : decode cX8_comes 207 = .ok (.ireturn, 1) := by decide +kernel
set_option maxRecDepth 20000 in
theorem ggX8_serves_X8_in : GoodIn wsX8_serves wsX8_in := goodIn_r _ [6] (by decide +kernel) (by decide +kernel)
set_option maxRecDepth 20000 in
theorem gX8_serves_X8_in : GoodIn wsX8_serves (va_wsS RX8 43 yX8_in wsX8_in) := goodIn_app (goodIn_of _ (by decide +kernel)) ggX8_serves_X8_in
set_option maxRecDepth 20000 in
theorem ggX8_serves_X8_layAside : GoodIn wsX8_serves wsX8_layAside := goodIn_r _ [10, 11, 1, 69, 70, 71, 72, 73, 74, 75, 76, 77, 78, 79, 80, 81] (by decide +kernel) (by decide +kernel)
set_option maxRecDepth 20000 in
theorem gX8_serves_X8_layAside : GoodIn wsX8_serves (wsV RX8 105 RX8 yX8_layAside wsX8_layAside) := goodIn_app (goodIn_of _ (by decide +kernel)) ggX8_serves_X8_layAside
set_option maxRecDepth 20000 in
theorem ggX8_serves_X8_serveOne : GoodIn wsX8_serves wsX8_serveOne := goodIn_r _ [15, 16, 17, 1, 18, 19, 20, 5, 21, 22, 23, 24, 25, 26, 27, 28, 29, 30, 31, 32, 33, 34, 35, 36, 37, 38, 39, 40, 41, 42, 43, 44, 45, 46, 47, 48, 49, 50, 51, 52, 53, 54, 55, 56, 57, 58, 59, 60, 61, 62, 63, 64, 69, 70, 71, 72, 73, 74, 75, 76, 77, 78, 79, 80, 81] (by decide +kernel) (by decide +kernel)
set_option maxRecDepth 20000 in
theorem gX8_serves_X8_serveOne : GoodIn wsX8_serves (wsV RX8 108 RX8 yX8_serveOne wsX8_serveOne) := goodIn_app (goodIn_of _ (by decide +kernel)) ggX8_serves_X8_serveOne
set_option maxRecDepth 20000 in
theorem ggX8_serves_X8_putBack : GoodIn wsX8_serves wsX8_putBack := goodIn_r _ [68, 1, 11, 69, 70, 71, 72, 73, 74, 75, 76, 77, 78, 79, 80, 81] (by decide +kernel) (by decide +kernel)
set_option maxRecDepth 20000 in
theorem gX8_serves_X8_putBack : GoodIn wsX8_serves (wsV RX8 112 RX8 yX8_putBack wsX8_putBack) := goodIn_app (goodIn_of _ (by decide +kernel)) ggX8_serves_X8_putBack
theorem dX8_serves_0 : decode cX8_serves 0 = .ok (.iload_n 1, 1) := by decide +kernel
theorem dX8_serves_1 : decode cX8_serves 1 = .ok (.i2l, 1) := by decide +kernel
theorem dX8_serves_2 : decode cX8_serves 2 = .ok (.iconst 1, 1) := by decide +kernel
theorem dX8_serves_3 : decode cX8_serves 3 = .ok (.bipush 30, 2) := by decide +kernel
theorem dX8_serves_5 : decode cX8_serves 5 = .ok (.invokestatic 43, 3) := by decide +kernel
theorem dX8_serves_8 : decode cX8_serves 8 = .ok (.ifCond .ne 6, 3) := by decide +kernel
theorem dX8_serves_11 : decode cX8_serves 11 = .ok (.bipush (-2), 2) := by decide +kernel
theorem dX8_serves_13 : decode cX8_serves 13 = .ok (.ireturn, 1) := by decide +kernel
theorem dX8_serves_14 : decode cX8_serves 14 = .ok (.aload_n 0, 1) := by decide +kernel
theorem dX8_serves_15 : decode cX8_serves 15 = .ok (.getfield 7, 3) := by decide +kernel
theorem dX8_serves_18 : decode cX8_serves 18 = .ok (.bipush 7, 2) := by decide +kernel
theorem dX8_serves_20 : decode cX8_serves 20 = .ok (.iaload, 1) := by decide +kernel
theorem dX8_serves_21 : decode cX8_serves 21 = .ok (.ifCond .ne 6, 3) := by decide +kernel
theorem dX8_serves_24 : decode cX8_serves 24 = .ok (.bipush (-5), 2) := by decide +kernel
theorem dX8_serves_26 : decode cX8_serves 26 = .ok (.ireturn, 1) := by decide +kernel
theorem dX8_serves_27 : decode cX8_serves 27 = .ok (.aload_n 0, 1) := by decide +kernel
theorem dX8_serves_28 : decode cX8_serves 28 = .ok (.invokevirtual 105, 3) := by decide +kernel
theorem dX8_serves_31 : decode cX8_serves 31 = .ok (.iconst 0, 1) := by decide +kernel
theorem dX8_serves_32 : decode cX8_serves 32 = .ok (.istore_n 2, 1) := by decide +kernel
theorem dX8_serves_33 : decode cX8_serves 33 = .ok (.iload_n 2, 1) := by decide +kernel
theorem dX8_serves_34 : decode cX8_serves 34 = .ok (.iload_n 1, 1) := by decide +kernel
theorem dX8_serves_35 : decode cX8_serves 35 = .ok (.if_icmp .ge 23, 3) := by decide +kernel
theorem dX8_serves_38 : decode cX8_serves 38 = .ok (.aload_n 0, 1) := by decide +kernel
theorem dX8_serves_39 : decode cX8_serves 39 = .ok (.getfield 7, 3) := by decide +kernel
theorem dX8_serves_42 : decode cX8_serves 42 = .ok (.bipush 7, 2) := by decide +kernel
theorem dX8_serves_44 : decode cX8_serves 44 = .ok (.iaload, 1) := by decide +kernel
theorem dX8_serves_45 : decode cX8_serves 45 = .ok (.ifCond .le 13, 3) := by decide +kernel
theorem dX8_serves_48 : decode cX8_serves 48 = .ok (.aload_n 0, 1) := by decide +kernel
theorem dX8_serves_49 : decode cX8_serves 49 = .ok (.invokevirtual 108, 3) := by decide +kernel
theorem dX8_serves_52 : decode cX8_serves 52 = .ok (.iinc 2 1, 3) := by decide +kernel
theorem dX8_serves_55 : decode cX8_serves 55 = .ok (.goto (-22), 3) := by decide +kernel
theorem dX8_serves_58 : decode cX8_serves 58 = .ok (.aload_n 0, 1) := by decide +kernel
theorem dX8_serves_59 : decode cX8_serves 59 = .ok (.getfield 7, 3) := by decide +kernel
theorem dX8_serves_62 : decode cX8_serves 62 = .ok (.bipush 6, 2) := by decide +kernel
theorem dX8_serves_64 : decode cX8_serves 64 = .ok (.iaload, 1) := by decide +kernel
theorem dX8_serves_65 : decode cX8_serves 65 = .ok (.ldc 111, 2) := by decide +kernel
theorem dX8_serves_67 : decode cX8_serves 67 = .ok (.if_icmp .le 10, 3) := by decide +kernel
theorem dX8_serves_70 : decode cX8_serves 70 = .ok (.aload_n 0, 1) := by decide +kernel
theorem dX8_serves_71 : decode cX8_serves 71 = .ok (.invokevirtual 112, 3) := by decide +kernel
theorem dX8_serves_74 : decode cX8_serves 74 = .ok (.bipush (-5), 2) := by decide +kernel
theorem dX8_serves_76 : decode cX8_serves 76 = .ok (.ireturn, 1) := by decide +kernel
theorem dX8_serves_77 : decode cX8_serves 77 = .ok (.iload_n 2, 1) := by decide +kernel
theorem dX8_serves_78 : decode cX8_serves 78 = .ok (.ireturn, 1) := by decide +kernel
set_option maxRecDepth 20000 in
theorem ggX8_waits_X8_in : GoodIn wsX8_waits wsX8_in := goodIn_r _ [6] (by decide +kernel) (by decide +kernel)
set_option maxRecDepth 20000 in
theorem gX8_waits_X8_in : GoodIn wsX8_waits (va_wsS RX8 43 yX8_in wsX8_in) := goodIn_app (goodIn_of _ (by decide +kernel)) ggX8_waits_X8_in
theorem dX8_waits_0 : decode cX8_waits 0 = .ok (.iload_n 1, 1) := by decide +kernel
theorem dX8_waits_1 : decode cX8_waits 1 = .ok (.i2l, 1) := by decide +kernel
theorem dX8_waits_2 : decode cX8_waits 2 = .ok (.iconst 1, 1) := by decide +kernel
theorem dX8_waits_3 : decode cX8_waits 3 = .ok (.sipush 999, 3) := by decide +kernel
theorem dX8_waits_6 : decode cX8_waits 6 = .ok (.invokestatic 43, 3) := by decide +kernel
theorem dX8_waits_9 : decode cX8_waits 9 = .ok (.ifCond .ne 6, 3) := by decide +kernel
theorem dX8_waits_12 : decode cX8_waits 12 = .ok (.bipush (-2), 2) := by decide +kernel
theorem dX8_waits_14 : decode cX8_waits 14 = .ok (.ireturn, 1) := by decide +kernel
theorem dX8_waits_15 : decode cX8_waits 15 = .ok (.aload_n 0, 1) := by decide +kernel
theorem dX8_waits_16 : decode cX8_waits 16 = .ok (.getfield 7, 3) := by decide +kernel
theorem dX8_waits_19 : decode cX8_waits 19 = .ok (.bipush 6, 2) := by decide +kernel
theorem dX8_waits_21 : decode cX8_waits 21 = .ok (.iaload, 1) := by decide +kernel
theorem dX8_waits_22 : decode cX8_waits 22 = .ok (.iload_n 1, 1) := by decide +kernel
theorem dX8_waits_23 : decode cX8_waits 23 = .ok (.iadd, 1) := by decide +kernel
theorem dX8_waits_24 : decode cX8_waits 24 = .ok (.ldc 111, 2) := by decide +kernel
theorem dX8_waits_26 : decode cX8_waits 26 = .ok (.if_icmp .le 6, 3) := by decide +kernel
theorem dX8_waits_29 : decode cX8_waits 29 = .ok (.bipush (-5), 2) := by decide +kernel
theorem dX8_waits_31 : decode cX8_waits 31 = .ok (.ireturn, 1) := by decide +kernel
theorem dX8_waits_32 : decode cX8_waits 32 = .ok (.aload_n 0, 1) := by decide +kernel
theorem dX8_waits_33 : decode cX8_waits 33 = .ok (.getfield 7, 3) := by decide +kernel
theorem dX8_waits_36 : decode cX8_waits 36 = .ok (.bipush 6, 2) := by decide +kernel
theorem dX8_waits_38 : decode cX8_waits 38 = .ok (.dup2, 1) := by decide +kernel
theorem dX8_waits_39 : decode cX8_waits 39 = .ok (.iaload, 1) := by decide +kernel
theorem dX8_waits_40 : decode cX8_waits 40 = .ok (.iload_n 1, 1) := by decide +kernel
theorem dX8_waits_41 : decode cX8_waits 41 = .ok (.iadd, 1) := by decide +kernel
theorem dX8_waits_42 : decode cX8_waits 42 = .ok (.iastore, 1) := by decide +kernel
theorem dX8_waits_43 : decode cX8_waits 43 = .ok (.aload_n 0, 1) := by decide +kernel
theorem dX8_waits_44 : decode cX8_waits 44 = .ok (.getfield 7, 3) := by decide +kernel
theorem dX8_waits_47 : decode cX8_waits 47 = .ok (.bipush 6, 2) := by decide +kernel
theorem dX8_waits_49 : decode cX8_waits 49 = .ok (.iaload, 1) := by decide +kernel
theorem dX8_waits_50 : decode cX8_waits 50 = .ok (.ireturn, 1) := by decide +kernel
theorem dX8_leastOf_0 : decode cX8_leastOf 0 = .ok (.iload_n 0, 1) := by decide +kernel
theorem dX8_leastOf_1 : decode cX8_leastOf 1 = .ok (.iconst 4, 1) := by decide +kernel
theorem dX8_leastOf_2 : decode cX8_leastOf 2 = .ok (.if_icmp .ne 7, 3) := by decide +kernel
theorem dX8_leastOf_5 : decode cX8_leastOf 5 = .ok (.iconst 0, 1) := by decide +kernel
theorem dX8_leastOf_6 : decode cX8_leastOf 6 = .ok (.goto 4, 3) := by decide +kernel
theorem dX8_leastOf_9 : decode cX8_leastOf 9 = .ok (.iconst 1, 1) := by decide +kernel
theorem dX8_leastOf_10 : decode cX8_leastOf 10 = .ok (.ireturn, 1) := by decide +kernel
theorem dX8_mostOf_0 : decode cX8_mostOf 0 = .ok (.iload_n 0, 1) := by decide +kernel
theorem dX8_mostOf_1 : decode cX8_mostOf 1 = .ok (.iconst 2, 1) := by decide +kernel
theorem dX8_mostOf_2 : decode cX8_mostOf 2 = .ok (.if_icmp .ge 9, 3) := by decide +kernel
theorem dX8_mostOf_5 : decode cX8_mostOf 5 = .ok (.sipush 999, 3) := by decide +kernel
theorem dX8_mostOf_8 : decode cX8_mostOf 8 = .ok (.goto 25, 3) := by decide +kernel
theorem dX8_mostOf_11 : decode cX8_mostOf 11 = .ok (.iload_n 0, 1) := by decide +kernel
theorem dX8_mostOf_12 : decode cX8_mostOf 12 = .ok (.iconst 2, 1) := by decide +kernel
theorem dX8_mostOf_13 : decode cX8_mostOf 13 = .ok (.if_icmp .ne 8, 3) := by decide +kernel
theorem dX8_mostOf_16 : decode cX8_mostOf 16 = .ok (.bipush 16, 2) := by decide +kernel
theorem dX8_mostOf_18 : decode cX8_mostOf 18 = .ok (.goto 15, 3) := by decide +kernel
theorem dX8_mostOf_21 : decode cX8_mostOf 21 = .ok (.iload_n 0, 1) := by decide +kernel
theorem dX8_mostOf_22 : decode cX8_mostOf 22 = .ok (.iconst 5, 1) := by decide +kernel
theorem dX8_mostOf_23 : decode cX8_mostOf 23 = .ok (.if_icmp .ne 8, 3) := by decide +kernel
theorem dX8_mostOf_26 : decode cX8_mostOf 26 = .ok (.bipush 20, 2) := by decide +kernel
theorem dX8_mostOf_28 : decode cX8_mostOf 28 = .ok (.goto 5, 3) := by decide +kernel
theorem dX8_mostOf_31 : decode cX8_mostOf 31 = .ok (.bipush 9, 2) := by decide +kernel
theorem dX8_mostOf_33 : decode cX8_mostOf 33 = .ok (.ireturn, 1) := by decide +kernel
set_option maxRecDepth 20000 in
theorem ggX8_set_X8_in : GoodIn wsX8_set wsX8_in := goodIn_r _ [5] (by decide +kernel) (by decide +kernel)
set_option maxRecDepth 20000 in
theorem gX8_set_X8_in : GoodIn wsX8_set (va_wsS RX8 43 yX8_in wsX8_in) := goodIn_app (goodIn_of _ (by decide +kernel)) ggX8_set_X8_in
set_option maxRecDepth 20000 in
theorem ggX8_set_X8_leastOf : GoodIn wsX8_set wsX8_leastOf := goodIn_r _ [8] (by decide +kernel) (by decide +kernel)
set_option maxRecDepth 20000 in
theorem gX8_set_X8_leastOf : GoodIn wsX8_set (va_wsS RX8 115 yX8_leastOf wsX8_leastOf) := goodIn_app (goodIn_of _ (by decide +kernel)) ggX8_set_X8_leastOf
set_option maxRecDepth 20000 in
theorem ggX8_set_X8_mostOf : GoodIn wsX8_set wsX8_mostOf := goodIn_r _ [11] (by decide +kernel) (by decide +kernel)
set_option maxRecDepth 20000 in
theorem gX8_set_X8_mostOf : GoodIn wsX8_set (va_wsS RX8 118 yX8_mostOf wsX8_mostOf) := goodIn_app (goodIn_of _ (by decide +kernel)) ggX8_set_X8_mostOf
set_option maxRecDepth 20000 in
theorem ggX8_set_X8_remember : GoodIn wsX8_set wsX8_remember := goodIn_r _ [15, 16, 1, 23, 24, 25, 26, 27, 28, 29, 30, 31, 32, 33, 34, 35] (by decide +kernel) (by decide +kernel)
set_option maxRecDepth 20000 in
theorem gX8_set_X8_remember : GoodIn wsX8_set (wsV RX8 47 RX8 yX8_remember wsX8_remember) := goodIn_app (goodIn_of _ (by decide +kernel)) ggX8_set_X8_remember
set_option maxRecDepth 20000 in
theorem ggX8_set_X8_record : GoodIn wsX8_set wsX8_record := goodIn_r _ [20, 21, 22, 16, 23, 24, 25, 26, 27, 28, 29, 30, 31, 32, 33, 34, 35] (by decide +kernel) (by decide +kernel)
set_option maxRecDepth 20000 in
theorem gX8_set_X8_record : GoodIn wsX8_set (wsV RX8 50 RX8 yX8_record wsX8_record) := goodIn_app (goodIn_of _ (by decide +kernel)) ggX8_set_X8_record
theorem dX8_set_0 : decode cX8_set 0 = .ok (.iload_n 1, 1) := by decide +kernel
theorem dX8_set_1 : decode cX8_set 1 = .ok (.i2l, 1) := by decide +kernel
theorem dX8_set_2 : decode cX8_set 2 = .ok (.iconst 0, 1) := by decide +kernel
theorem dX8_set_3 : decode cX8_set 3 = .ok (.iconst 5, 1) := by decide +kernel
theorem dX8_set_4 : decode cX8_set 4 = .ok (.invokestatic 43, 3) := by decide +kernel
theorem dX8_set_7 : decode cX8_set 7 = .ok (.ifCond .eq 19, 3) := by decide +kernel
theorem dX8_set_10 : decode cX8_set 10 = .ok (.iload_n 2, 1) := by decide +kernel
theorem dX8_set_11 : decode cX8_set 11 = .ok (.i2l, 1) := by decide +kernel
theorem dX8_set_12 : decode cX8_set 12 = .ok (.iload_n 1, 1) := by decide +kernel
theorem dX8_set_13 : decode cX8_set 13 = .ok (.invokestatic 115, 3) := by decide +kernel
theorem dX8_set_16 : decode cX8_set 16 = .ok (.iload_n 1, 1) := by decide +kernel
theorem dX8_set_17 : decode cX8_set 17 = .ok (.invokestatic 118, 3) := by decide +kernel
theorem dX8_set_20 : decode cX8_set 20 = .ok (.invokestatic 43, 3) := by decide +kernel
theorem dX8_set_23 : decode cX8_set 23 = .ok (.ifCond .ne 6, 3) := by decide +kernel
theorem dX8_set_26 : decode cX8_set 26 = .ok (.bipush (-2), 2) := by decide +kernel
theorem dX8_set_28 : decode cX8_set 28 = .ok (.ireturn, 1) := by decide +kernel
theorem dX8_set_29 : decode cX8_set 29 = .ok (.aload_n 0, 1) := by decide +kernel
theorem dX8_set_30 : decode cX8_set 30 = .ok (.invokevirtual 47, 3) := by decide +kernel
theorem dX8_set_33 : decode cX8_set 33 = .ok (.aload_n 0, 1) := by decide +kernel
theorem dX8_set_34 : decode cX8_set 34 = .ok (.getfield 7, 3) := by decide +kernel
theorem dX8_set_37 : decode cX8_set 37 = .ok (.iload_n 1, 1) := by decide +kernel
theorem dX8_set_38 : decode cX8_set 38 = .ok (.iaload, 1) := by decide +kernel
theorem dX8_set_39 : decode cX8_set 39 = .ok (.istore_n 3, 1) := by decide +kernel
theorem dX8_set_40 : decode cX8_set 40 = .ok (.aload_n 0, 1) := by decide +kernel
theorem dX8_set_41 : decode cX8_set 41 = .ok (.getfield 7, 3) := by decide +kernel
theorem dX8_set_44 : decode cX8_set 44 = .ok (.iload_n 1, 1) := by decide +kernel
theorem dX8_set_45 : decode cX8_set 45 = .ok (.iload_n 2, 1) := by decide +kernel
theorem dX8_set_46 : decode cX8_set 46 = .ok (.iastore, 1) := by decide +kernel
theorem dX8_set_47 : decode cX8_set 47 = .ok (.aload_n 0, 1) := by decide +kernel
theorem dX8_set_48 : decode cX8_set 48 = .ok (.iload_n 3, 1) := by decide +kernel
theorem dX8_set_49 : decode cX8_set 49 = .ok (.invokevirtual 50, 3) := by decide +kernel
theorem dX8_set_52 : decode cX8_set 52 = .ok (.ireturn, 1) := by decide +kernel
set_option maxRecDepth 20000 in
theorem ggX8_slip_X8_remember : GoodIn wsX8_slip wsX8_remember := goodIn_r _ [5, 6, 7, 36, 37, 38, 39, 40, 41, 42, 43, 44, 45, 46, 47, 48] (by decide +kernel) (by decide +kernel)
set_option maxRecDepth 20000 in
theorem gX8_slip_X8_remember : GoodIn wsX8_slip (wsV RX8 47 RX8 yX8_remember wsX8_remember) := goodIn_app (goodIn_of _ (by decide +kernel)) ggX8_slip_X8_remember
set_option maxRecDepth 20000 in
theorem ggX8_slip_X8_comes : GoodIn wsX8_slip wsX8_comes := goodIn_r _ [11, 7, 12, 13, 4, 14, 15, 16, 17, 18, 19, 20, 21, 22, 23, 24, 25, 26, 27, 28, 29, 36, 37, 38, 39, 40, 41, 42, 43, 44, 45, 46, 47, 48] (by decide +kernel) (by decide +kernel)
set_option maxRecDepth 20000 in
theorem gX8_slip_X8_comes : GoodIn wsX8_slip (wsV RX8 121 RX8 yX8_comes wsX8_comes) := goodIn_app (goodIn_of _ (by decide +kernel)) ggX8_slip_X8_comes
set_option maxRecDepth 20000 in
theorem ggX8_slip_X8_record : GoodIn wsX8_slip wsX8_record := goodIn_r _ [33, 34, 35, 6, 36, 37, 38, 39, 40, 41, 42, 43, 44, 45, 46, 47, 48] (by decide +kernel) (by decide +kernel)
set_option maxRecDepth 20000 in
theorem gX8_slip_X8_record : GoodIn wsX8_slip (wsV RX8 50 RX8 yX8_record wsX8_record) := goodIn_app (goodIn_of _ (by decide +kernel)) ggX8_slip_X8_record
theorem dX8_slip_0 : decode cX8_slip 0 = .ok (.aload_n 0, 1) := by decide +kernel
theorem dX8_slip_1 : decode cX8_slip 1 = .ok (.invokevirtual 47, 3) := by decide +kernel
theorem dX8_slip_4 : decode cX8_slip 4 = .ok (.aload_n 0, 1) := by decide +kernel
theorem dX8_slip_5 : decode cX8_slip 5 = .ok (.aload_n 0, 1) := by decide +kernel
theorem dX8_slip_6 : decode cX8_slip 6 = .ok (.iload_n 1, 1) := by decide +kernel
theorem dX8_slip_7 : decode cX8_slip 7 = .ok (.iload_n 2, 1) := by decide +kernel
theorem dX8_slip_8 : decode cX8_slip 8 = .ok (.iload_n 3, 1) := by decide +kernel
theorem dX8_slip_9 : decode cX8_slip 9 = .ok (.invokevirtual 121, 3) := by decide +kernel
theorem dX8_slip_12 : decode cX8_slip 12 = .ok (.invokevirtual 50, 3) := by decide +kernel
theorem dX8_slip_15 : decode cX8_slip 15 = .ok (.ireturn, 1) := by decide +kernel
set_option maxRecDepth 20000 in
theorem ggX8_tear_X8_find : GoodIn wsX8_tear wsX8_find := goodIn_r _ [6, 1, 7, 8, 9, 5, 10, 26, 27, 28, 29, 30, 31, 32, 33, 34, 35, 36, 37, 38] (by decide +kernel) (by decide +kernel)
set_option maxRecDepth 20000 in
theorem gX8_tear_X8_find : GoodIn wsX8_tear (wsV RX8 124 RX8 yX8_find wsX8_find) := goodIn_app (goodIn_of _ (by decide +kernel)) ggX8_tear_X8_find
set_option maxRecDepth 20000 in
theorem ggX8_tear_X8_remember : GoodIn wsX8_tear wsX8_remember := goodIn_r _ [14, 15, 1, 26, 27, 28, 29, 30, 31, 32, 33, 34, 35, 36, 37, 38] (by decide +kernel) (by decide +kernel)
set_option maxRecDepth 20000 in
theorem gX8_tear_X8_remember : GoodIn wsX8_tear (wsV RX8 47 RX8 yX8_remember wsX8_remember) := goodIn_app (goodIn_of _ (by decide +kernel)) ggX8_tear_X8_remember
set_option maxRecDepth 20000 in
theorem ggX8_tear_X8_its : GoodIn wsX8_tear wsX8_its := goodIn_r _ [10, 1, 26, 27, 28, 29, 30, 31, 32, 33, 34, 35, 36, 37, 38] (by decide +kernel) (by decide +kernel)
set_option maxRecDepth 20000 in
theorem gX8_tear_X8_its : GoodIn wsX8_tear (wsV RX8 35 RX8 yX8_its wsX8_its) := goodIn_app (goodIn_of _ (by decide +kernel)) ggX8_tear_X8_its
set_option maxRecDepth 20000 in
theorem ggX8_tear_X8_drop : GoodIn wsX8_tear wsX8_drop := goodIn_r _ [19, 1, 26, 27, 28, 29, 30, 31, 32, 33, 34, 35, 36, 37, 38] (by decide +kernel) (by decide +kernel)
set_option maxRecDepth 20000 in
theorem gX8_tear_X8_drop : GoodIn wsX8_tear (wsV RX8 93 RX8 yX8_drop wsX8_drop) := goodIn_app (goodIn_of _ (by decide +kernel)) ggX8_tear_X8_drop
set_option maxRecDepth 20000 in
theorem ggX8_tear_X8_record : GoodIn wsX8_tear wsX8_record := goodIn_r _ [23, 24, 25, 15, 26, 27, 28, 29, 30, 31, 32, 33, 34, 35, 36, 37, 38] (by decide +kernel) (by decide +kernel)
set_option maxRecDepth 20000 in
theorem gX8_tear_X8_record : GoodIn wsX8_tear (wsV RX8 50 RX8 yX8_record wsX8_record) := goodIn_app (goodIn_of _ (by decide +kernel)) ggX8_tear_X8_record
theorem dX8_tear_0 : decode cX8_tear 0 = .ok (.aload_n 0, 1) := by decide +kernel
theorem dX8_tear_1 : decode cX8_tear 1 = .ok (.iload_n 1, 1) := by decide +kernel
theorem dX8_tear_2 : decode cX8_tear 2 = .ok (.invokevirtual 124, 3) := by decide +kernel
theorem dX8_tear_5 : decode cX8_tear 5 = .ok (.istore_n 2, 1) := by decide +kernel
theorem dX8_tear_6 : decode cX8_tear 6 = .ok (.iload_n 2, 1) := by decide +kernel
theorem dX8_tear_7 : decode cX8_tear 7 = .ok (.bipush (-6), 2) := by decide +kernel
theorem dX8_tear_9 : decode cX8_tear 9 = .ok (.if_icmp .ne 5, 3) := by decide +kernel
theorem dX8_tear_12 : decode cX8_tear 12 = .ok (.iconst (-1), 1) := by decide +kernel
theorem dX8_tear_13 : decode cX8_tear 13 = .ok (.ireturn, 1) := by decide +kernel
theorem dX8_tear_14 : decode cX8_tear 14 = .ok (.aload_n 0, 1) := by decide +kernel
theorem dX8_tear_15 : decode cX8_tear 15 = .ok (.invokevirtual 47, 3) := by decide +kernel
theorem dX8_tear_18 : decode cX8_tear 18 = .ok (.aload_n 0, 1) := by decide +kernel
theorem dX8_tear_19 : decode cX8_tear 19 = .ok (.getfield 7, 3) := by decide +kernel
theorem dX8_tear_22 : decode cX8_tear 22 = .ok (.bipush 6, 2) := by decide +kernel
theorem dX8_tear_24 : decode cX8_tear 24 = .ok (.iaload, 1) := by decide +kernel
theorem dX8_tear_25 : decode cX8_tear 25 = .ok (.aload_n 0, 1) := by decide +kernel
theorem dX8_tear_26 : decode cX8_tear 26 = .ok (.iload_n 2, 1) := by decide +kernel
theorem dX8_tear_27 : decode cX8_tear 27 = .ok (.iconst 4, 1) := by decide +kernel
theorem dX8_tear_28 : decode cX8_tear 28 = .ok (.invokevirtual 35, 3) := by decide +kernel
theorem dX8_tear_31 : decode cX8_tear 31 = .ok (.isub, 1) := by decide +kernel
theorem dX8_tear_32 : decode cX8_tear 32 = .ok (.istore_n 3, 1) := by decide +kernel
theorem dX8_tear_33 : decode cX8_tear 33 = .ok (.aload_n 0, 1) := by decide +kernel
theorem dX8_tear_34 : decode cX8_tear 34 = .ok (.iload_n 2, 1) := by decide +kernel
theorem dX8_tear_35 : decode cX8_tear 35 = .ok (.invokevirtual 93, 3) := by decide +kernel
theorem dX8_tear_38 : decode cX8_tear 38 = .ok (.aload_n 0, 1) := by decide +kernel
theorem dX8_tear_39 : decode cX8_tear 39 = .ok (.iload_n 3, 1) := by decide +kernel
theorem dX8_tear_40 : decode cX8_tear 40 = .ok (.invokevirtual 50, 3) := by decide +kernel
theorem dX8_tear_43 : decode cX8_tear 43 = .ok (.ireturn, 1) := by decide +kernel
set_option maxRecDepth 20000 in
theorem ggX8_serve_X8_remember : GoodIn wsX8_serve wsX8_remember := goodIn_r _ [5, 6, 7, 84, 85, 86, 87, 88, 89, 90, 91, 92, 93, 94, 95, 96] (by decide +kernel) (by decide +kernel)
set_option maxRecDepth 20000 in
theorem gX8_serve_X8_remember : GoodIn wsX8_serve (wsV RX8 47 RX8 yX8_remember wsX8_remember) := goodIn_app (goodIn_of _ (by decide +kernel)) ggX8_serve_X8_remember
set_option maxRecDepth 20000 in
theorem ggX8_serve_X8_serves : GoodIn wsX8_serve wsX8_serves := goodIn_r _ [11, 7, 12, 13, 14, 4, 15, 16, 17, 18, 19, 20, 21, 22, 23, 24, 25, 26, 27, 28, 29, 30, 31, 32, 33, 34, 35, 36, 37, 38, 39, 40, 41, 42, 43, 44, 45, 46, 47, 48, 49, 50, 51, 52, 53, 54, 55, 56, 57, 58, 59, 60, 61, 62, 63, 64, 65, 66, 67, 68, 69, 70, 71, 72, 73, 74, 75, 76, 77, 84, 85, 86, 87, 88, 89, 90, 91, 92, 93, 94, 95, 96] (by decide +kernel) (by decide +kernel)
set_option maxRecDepth 20000 in
theorem gX8_serve_X8_serves : GoodIn wsX8_serve (wsV RX8 127 RX8 yX8_serves wsX8_serves) := goodIn_app (goodIn_of _ (by decide +kernel)) ggX8_serve_X8_serves
set_option maxRecDepth 20000 in
theorem ggX8_serve_X8_record : GoodIn wsX8_serve wsX8_record := goodIn_r _ [81, 82, 83, 6, 84, 85, 86, 87, 88, 89, 90, 91, 92, 93, 94, 95, 96] (by decide +kernel) (by decide +kernel)
set_option maxRecDepth 20000 in
theorem gX8_serve_X8_record : GoodIn wsX8_serve (wsV RX8 50 RX8 yX8_record wsX8_record) := goodIn_app (goodIn_of _ (by decide +kernel)) ggX8_serve_X8_record
theorem dX8_serve_0 : decode cX8_serve 0 = .ok (.aload_n 0, 1) := by decide +kernel
theorem dX8_serve_1 : decode cX8_serve 1 = .ok (.invokevirtual 47, 3) := by decide +kernel
theorem dX8_serve_4 : decode cX8_serve 4 = .ok (.aload_n 0, 1) := by decide +kernel
theorem dX8_serve_5 : decode cX8_serve 5 = .ok (.aload_n 0, 1) := by decide +kernel
theorem dX8_serve_6 : decode cX8_serve 6 = .ok (.iload_n 1, 1) := by decide +kernel
theorem dX8_serve_7 : decode cX8_serve 7 = .ok (.invokevirtual 127, 3) := by decide +kernel
theorem dX8_serve_10 : decode cX8_serve 10 = .ok (.invokevirtual 50, 3) := by decide +kernel
theorem dX8_serve_13 : decode cX8_serve 13 = .ok (.ireturn, 1) := by decide +kernel
set_option maxRecDepth 20000 in
theorem ggX8_pass_X8_remember : GoodIn wsX8_pass wsX8_remember := goodIn_r _ [5, 6, 7, 22, 23, 24, 25, 26, 27, 28, 29, 30, 31, 32, 33, 34] (by decide +kernel) (by decide +kernel)
set_option maxRecDepth 20000 in
theorem gX8_pass_X8_remember : GoodIn wsX8_pass (wsV RX8 47 RX8 yX8_remember wsX8_remember) := goodIn_app (goodIn_of _ (by decide +kernel)) ggX8_pass_X8_remember
set_option maxRecDepth 20000 in
theorem ggX8_pass_X8_waits : GoodIn wsX8_pass wsX8_waits := goodIn_r _ [11, 7, 12, 13, 14, 4, 15, 22, 23, 24, 25, 26, 27, 28, 29, 30, 31, 32, 33, 34] (by decide +kernel) (by decide +kernel)
set_option maxRecDepth 20000 in
theorem gX8_pass_X8_waits : GoodIn wsX8_pass (wsV RX8 130 RX8 yX8_waits wsX8_waits) := goodIn_app (goodIn_of _ (by decide +kernel)) ggX8_pass_X8_waits
set_option maxRecDepth 20000 in
theorem ggX8_pass_X8_record : GoodIn wsX8_pass wsX8_record := goodIn_r _ [19, 20, 21, 6, 22, 23, 24, 25, 26, 27, 28, 29, 30, 31, 32, 33, 34] (by decide +kernel) (by decide +kernel)
set_option maxRecDepth 20000 in
theorem gX8_pass_X8_record : GoodIn wsX8_pass (wsV RX8 50 RX8 yX8_record wsX8_record) := goodIn_app (goodIn_of _ (by decide +kernel)) ggX8_pass_X8_record
theorem dX8_pass_0 : decode cX8_pass 0 = .ok (.aload_n 0, 1) := by decide +kernel
theorem dX8_pass_1 : decode cX8_pass 1 = .ok (.invokevirtual 47, 3) := by decide +kernel
theorem dX8_pass_4 : decode cX8_pass 4 = .ok (.aload_n 0, 1) := by decide +kernel
theorem dX8_pass_5 : decode cX8_pass 5 = .ok (.aload_n 0, 1) := by decide +kernel
theorem dX8_pass_6 : decode cX8_pass 6 = .ok (.iload_n 1, 1) := by decide +kernel
theorem dX8_pass_7 : decode cX8_pass 7 = .ok (.invokevirtual 130, 3) := by decide +kernel
theorem dX8_pass_10 : decode cX8_pass 10 = .ok (.invokevirtual 50, 3) := by decide +kernel
theorem dX8_pass_13 : decode cX8_pass 13 = .ok (.ireturn, 1) := by decide +kernel
set_option maxRecDepth 20000 in
theorem ggX8_of_X8_find : GoodIn wsX8_of wsX8_find := goodIn_r _ [6, 1, 7, 8, 9, 5, 10, 19, 20, 21, 22, 23, 24, 25, 26, 27, 28, 29, 30, 31] (by decide +kernel) (by decide +kernel)
set_option maxRecDepth 20000 in
theorem gX8_of_X8_find : GoodIn wsX8_of (wsV RX8 124 RX8 yX8_find wsX8_find) := goodIn_app (goodIn_of _ (by decide +kernel)) ggX8_of_X8_find
set_option maxRecDepth 20000 in
theorem ggX8_of_X8_its : GoodIn wsX8_of wsX8_its := goodIn_r _ [10, 1, 19, 20, 21, 22, 23, 24, 25, 26, 27, 28, 29, 30, 31] (by decide +kernel) (by decide +kernel)
set_option maxRecDepth 20000 in
theorem gX8_of_X8_its : GoodIn wsX8_of (wsV RX8 35 RX8 yX8_its wsX8_its) := goodIn_app (goodIn_of _ (by decide +kernel)) ggX8_of_X8_its
set_option maxRecDepth 20000 in
theorem ggX8_of_X8_lastOf : GoodIn wsX8_of wsX8_lastOf := goodIn_r _ [14, 7, 8, 9, 5, 10, 1, 19, 20, 21, 22, 23, 24, 25, 26, 27, 28, 29, 30, 31] (by decide +kernel) (by decide +kernel)
set_option maxRecDepth 20000 in
theorem gX8_of_X8_lastOf : GoodIn wsX8_of (wsV RX8 86 RX8 yX8_lastOf wsX8_lastOf) := goodIn_app (goodIn_of _ (by decide +kernel)) ggX8_of_X8_lastOf
set_option maxRecDepth 20000 in
theorem ggX8_of_X8_isOld : GoodIn wsX8_of wsX8_isOld := goodIn_r _ [18, 1, 7, 8, 9, 5, 10, 19, 20, 21, 22, 23, 24, 25, 26, 27, 28, 29, 30, 31] (by decide +kernel) (by decide +kernel)
set_option maxRecDepth 20000 in
theorem gX8_of_X8_isOld : GoodIn wsX8_of (wsV RX8 73 RX8 yX8_isOld wsX8_isOld) := goodIn_app (goodIn_of _ (by decide +kernel)) ggX8_of_X8_isOld
theorem dX8_of_0 : decode cX8_of 0 = .ok (.aload_n 0, 1) := by decide +kernel
theorem dX8_of_1 : decode cX8_of 1 = .ok (.iload_n 1, 1) := by decide +kernel
theorem dX8_of_2 : decode cX8_of 2 = .ok (.invokevirtual 124, 3) := by decide +kernel
theorem dX8_of_5 : decode cX8_of 5 = .ok (.istore_n 3, 1) := by decide +kernel
theorem dX8_of_6 : decode cX8_of 6 = .ok (.iload_n 3, 1) := by decide +kernel
theorem dX8_of_7 : decode cX8_of 7 = .ok (.bipush (-6), 2) := by decide +kernel
theorem dX8_of_9 : decode cX8_of 9 = .ok (.if_icmp .ne 5, 3) := by decide +kernel
theorem dX8_of_12 : decode cX8_of 12 = .ok (.iconst (-1), 1) := by decide +kernel
theorem dX8_of_13 : decode cX8_of 13 = .ok (.ireturn, 1) := by decide +kernel
theorem dX8_of_14 : decode cX8_of 14 = .ok (.iload_n 2, 1) := by decide +kernel
theorem dX8_of_15 : decode cX8_of 15 = .ok (.tableswitch 93 0 5 #[37, 44, 51, 57, 72, 86], 37) := by decide +kernel
theorem dX8_of_52 : decode cX8_of 52 = .ok (.aload_n 0, 1) := by decide +kernel
theorem dX8_of_53 : decode cX8_of 53 = .ok (.iload_n 3, 1) := by decide +kernel
theorem dX8_of_54 : decode cX8_of 54 = .ok (.iconst 1, 1) := by decide +kernel
theorem dX8_of_55 : decode cX8_of 55 = .ok (.invokevirtual 35, 3) := by decide +kernel
theorem dX8_of_58 : decode cX8_of 58 = .ok (.ireturn, 1) := by decide +kernel
theorem dX8_of_59 : decode cX8_of 59 = .ok (.aload_n 0, 1) := by decide +kernel
theorem dX8_of_60 : decode cX8_of 60 = .ok (.iload_n 3, 1) := by decide +kernel
theorem dX8_of_61 : decode cX8_of 61 = .ok (.iconst 2, 1) := by decide +kernel
theorem dX8_of_62 : decode cX8_of 62 = .ok (.invokevirtual 35, 3) := by decide +kernel
theorem dX8_of_65 : decode cX8_of 65 = .ok (.ireturn, 1) := by decide +kernel
theorem dX8_of_66 : decode cX8_of 66 = .ok (.aload_n 0, 1) := by decide +kernel
theorem dX8_of_67 : decode cX8_of 67 = .ok (.iload_n 3, 1) := by decide +kernel
theorem dX8_of_68 : decode cX8_of 68 = .ok (.invokevirtual 86, 3) := by decide +kernel
theorem dX8_of_71 : decode cX8_of 71 = .ok (.ireturn, 1) := by decide +kernel
theorem dX8_of_72 : decode cX8_of 72 = .ok (.aload_n 0, 1) := by decide +kernel
theorem dX8_of_73 : decode cX8_of 73 = .ok (.getfield 7, 3) := by decide +kernel
theorem dX8_of_76 : decode cX8_of 76 = .ok (.bipush 6, 2) := by decide +kernel
theorem dX8_of_78 : decode cX8_of 78 = .ok (.iaload, 1) := by decide +kernel
theorem dX8_of_79 : decode cX8_of 79 = .ok (.aload_n 0, 1) := by decide +kernel
theorem dX8_of_80 : decode cX8_of 80 = .ok (.iload_n 3, 1) := by decide +kernel
theorem dX8_of_81 : decode cX8_of 81 = .ok (.iconst 4, 1) := by decide +kernel
theorem dX8_of_82 : decode cX8_of 82 = .ok (.invokevirtual 35, 3) := by decide +kernel
theorem dX8_of_85 : decode cX8_of 85 = .ok (.isub, 1) := by decide +kernel
theorem dX8_of_86 : decode cX8_of 86 = .ok (.ireturn, 1) := by decide +kernel
theorem dX8_of_87 : decode cX8_of 87 = .ok (.aload_n 0, 1) := by decide +kernel
theorem dX8_of_88 : decode cX8_of 88 = .ok (.iload_n 3, 1) := by decide +kernel
theorem dX8_of_89 : decode cX8_of 89 = .ok (.invokevirtual 73, 3) := by decide +kernel
theorem dX8_of_92 : decode cX8_of 92 = .ok (.ifCond .eq 7, 3) := by decide +kernel
theorem dX8_of_95 : decode cX8_of 95 = .ok (.iconst 1, 1) := by decide +kernel
theorem dX8_of_96 : decode cX8_of 96 = .ok (.goto 4, 3) := by decide +kernel
theorem dX8_of_99 : decode cX8_of 99 = .ok (.iconst 0, 1) := by decide +kernel
theorem dX8_of_100 : decode cX8_of 100 = .ok (.ireturn, 1) := by decide +kernel
theorem dX8_of_101 : decode cX8_of 101 = .ok (.aload_n 0, 1) := by decide +kernel
theorem dX8_of_102 : decode cX8_of 102 = .ok (.iload_n 3, 1) := by decide +kernel
theorem dX8_of_103 : decode cX8_of 103 = .ok (.iconst 5, 1) := by decide +kernel
theorem dX8_of_104 : decode cX8_of 104 = .ok (.invokevirtual 35, 3) := by decide +kernel
theorem dX8_of_107 : decode cX8_of 107 = .ok (.ireturn, 1) := by decide +kernel
theorem dX8_of_108 : decode cX8_of 108 = .ok (.bipush (-2), 2) := by decide +kernel
theorem dX8_of_110 : decode cX8_of 110 = .ok (.ireturn, 1) := by decide +kernel
set_option maxRecDepth 20000 in
theorem ggX8_rank_X8_its : GoodIn wsX8_rank wsX8_its := goodIn_r _ [6, 1, 7, 8, 9, 10, 11, 12, 13, 14, 15, 16, 17, 18, 19] (by decide +kernel) (by decide +kernel)
set_option maxRecDepth 20000 in
theorem gX8_rank_X8_its : GoodIn wsX8_rank (wsV RX8 35 RX8 yX8_its wsX8_its) := goodIn_app (goodIn_of _ (by decide +kernel)) ggX8_rank_X8_its
theorem dX8_rank_0 : decode cX8_rank 0 = .ok (.iconst 0, 1) := by decide +kernel
theorem dX8_rank_1 : decode cX8_rank 1 = .ok (.istore_n 2, 1) := by decide +kernel
theorem dX8_rank_2 : decode cX8_rank 2 = .ok (.iconst 0, 1) := by decide +kernel
theorem dX8_rank_3 : decode cX8_rank 3 = .ok (.istore_n 3, 1) := by decide +kernel
theorem dX8_rank_4 : decode cX8_rank 4 = .ok (.iload_n 3, 1) := by decide +kernel
theorem dX8_rank_5 : decode cX8_rank 5 = .ok (.aload_n 0, 1) := by decide +kernel
theorem dX8_rank_6 : decode cX8_rank 6 = .ok (.getfield 7, 3) := by decide +kernel
theorem dX8_rank_9 : decode cX8_rank 9 = .ok (.bipush 7, 2) := by decide +kernel
theorem dX8_rank_11 : decode cX8_rank 11 = .ok (.iaload, 1) := by decide +kernel
theorem dX8_rank_12 : decode cX8_rank 12 = .ok (.if_icmp .ge 79, 3) := by decide +kernel
theorem dX8_rank_15 : decode cX8_rank 15 = .ok (.aload_n 0, 1) := by decide +kernel
theorem dX8_rank_16 : decode cX8_rank 16 = .ok (.iload_n 3, 1) := by decide +kernel
theorem dX8_rank_17 : decode cX8_rank 17 = .ok (.iconst 2, 1) := by decide +kernel
theorem dX8_rank_18 : decode cX8_rank 18 = .ok (.invokevirtual 35, 3) := by decide +kernel
theorem dX8_rank_21 : decode cX8_rank 21 = .ok (.aload_n 0, 1) := by decide +kernel
theorem dX8_rank_22 : decode cX8_rank 22 = .ok (.iload_n 1, 1) := by decide +kernel
theorem dX8_rank_23 : decode cX8_rank 23 = .ok (.iconst 2, 1) := by decide +kernel
theorem dX8_rank_24 : decode cX8_rank 24 = .ok (.invokevirtual 35, 3) := by decide +kernel
theorem dX8_rank_27 : decode cX8_rank 27 = .ok (.if_icmp .lt 23, 3) := by decide +kernel
theorem dX8_rank_30 : decode cX8_rank 30 = .ok (.aload_n 0, 1) := by decide +kernel
theorem dX8_rank_31 : decode cX8_rank 31 = .ok (.iload_n 3, 1) := by decide +kernel
theorem dX8_rank_32 : decode cX8_rank 32 = .ok (.iconst 2, 1) := by decide +kernel
theorem dX8_rank_33 : decode cX8_rank 33 = .ok (.invokevirtual 35, 3) := by decide +kernel
theorem dX8_rank_36 : decode cX8_rank 36 = .ok (.aload_n 0, 1) := by decide +kernel
theorem dX8_rank_37 : decode cX8_rank 37 = .ok (.iload_n 1, 1) := by decide +kernel
theorem dX8_rank_38 : decode cX8_rank 38 = .ok (.iconst 2, 1) := by decide +kernel
theorem dX8_rank_39 : decode cX8_rank 39 = .ok (.invokevirtual 35, 3) := by decide +kernel
theorem dX8_rank_42 : decode cX8_rank 42 = .ok (.if_icmp .ne 12, 3) := by decide +kernel
theorem dX8_rank_45 : decode cX8_rank 45 = .ok (.iload_n 3, 1) := by decide +kernel
theorem dX8_rank_46 : decode cX8_rank 46 = .ok (.iload_n 1, 1) := by decide +kernel
theorem dX8_rank_47 : decode cX8_rank 47 = .ok (.if_icmp .ge 7, 3) := by decide +kernel
theorem dX8_rank_50 : decode cX8_rank 50 = .ok (.iconst 1, 1) := by decide +kernel
theorem dX8_rank_51 : decode cX8_rank 51 = .ok (.goto 4, 3) := by decide +kernel
theorem dX8_rank_54 : decode cX8_rank 54 = .ok (.iconst 0, 1) := by decide +kernel
theorem dX8_rank_55 : decode cX8_rank 55 = .ok (.istore 4, 2) := by decide +kernel
theorem dX8_rank_57 : decode cX8_rank 57 = .ok (.iload_n 2, 1) := by decide +kernel
theorem dX8_rank_58 : decode cX8_rank 58 = .ok (.aload_n 0, 1) := by decide +kernel
theorem dX8_rank_59 : decode cX8_rank 59 = .ok (.iload_n 3, 1) := by decide +kernel
theorem dX8_rank_60 : decode cX8_rank 60 = .ok (.iconst 1, 1) := by decide +kernel
theorem dX8_rank_61 : decode cX8_rank 61 = .ok (.invokevirtual 35, 3) := by decide +kernel
theorem dX8_rank_64 : decode cX8_rank 64 = .ok (.aload_n 0, 1) := by decide +kernel
theorem dX8_rank_65 : decode cX8_rank 65 = .ok (.iload_n 1, 1) := by decide +kernel
theorem dX8_rank_66 : decode cX8_rank 66 = .ok (.iconst 1, 1) := by decide +kernel
theorem dX8_rank_67 : decode cX8_rank 67 = .ok (.invokevirtual 35, 3) := by decide +kernel
theorem dX8_rank_70 : decode cX8_rank 70 = .ok (.if_icmp .ne 12, 3) := by decide +kernel
theorem dX8_rank_73 : decode cX8_rank 73 = .ok (.iload 4, 2) := by decide +kernel
theorem dX8_rank_75 : decode cX8_rank 75 = .ok (.ifCond .eq 7, 3) := by decide +kernel
theorem dX8_rank_78 : decode cX8_rank 78 = .ok (.iconst 1, 1) := by decide +kernel
theorem dX8_rank_79 : decode cX8_rank 79 = .ok (.goto 4, 3) := by decide +kernel
theorem dX8_rank_82 : decode cX8_rank 82 = .ok (.iconst 0, 1) := by decide +kernel
theorem dX8_rank_83 : decode cX8_rank 83 = .ok (.iadd, 1) := by decide +kernel
theorem dX8_rank_84 : decode cX8_rank 84 = .ok (.istore_n 2, 1) := by decide +kernel
theorem dX8_rank_85 : decode cX8_rank 85 = .ok (.iinc 3 1, 3) := by decide +kernel
theorem dX8_rank_88 : decode cX8_rank 88 = .ok (.goto (-84), 3) := by decide +kernel
theorem dX8_rank_91 : decode cX8_rank 91 = .ok (.iload_n 2, 1) := by decide +kernel
theorem dX8_rank_92 : decode cX8_rank 92 = .ok (.ireturn, 1) := by decide +kernel
set_option maxRecDepth 20000 in
theorem ggX8_waiting_X8_in : GoodIn wsX8_waiting wsX8_in := goodIn_r _ [5] (by decide +kernel) (by decide +kernel)
set_option maxRecDepth 20000 in
theorem gX8_waiting_X8_in : GoodIn wsX8_waiting (va_wsS RX8 43 yX8_in wsX8_in) := goodIn_app (goodIn_of _ (by decide +kernel)) ggX8_waiting_X8_in
set_option maxRecDepth 20000 in
theorem ggX8_waiting_X8_its : GoodIn wsX8_waiting wsX8_its := goodIn_r _ [9, 1, 14, 15, 16, 17, 18, 19, 20, 21, 22, 23, 24, 25, 26] (by decide +kernel) (by decide +kernel)
set_option maxRecDepth 20000 in
theorem gX8_waiting_X8_its : GoodIn wsX8_waiting (wsV RX8 35 RX8 yX8_its wsX8_its) := goodIn_app (goodIn_of _ (by decide +kernel)) ggX8_waiting_X8_its
set_option maxRecDepth 20000 in
theorem ggX8_waiting_X8_rank : GoodIn wsX8_waiting wsX8_rank := goodIn_r _ [13, 1, 6, 7, 8, 4, 9, 14, 15, 16, 17, 18, 19, 20, 21, 22, 23, 24, 25, 26] (by decide +kernel) (by decide +kernel)
set_option maxRecDepth 20000 in
theorem gX8_waiting_X8_rank : GoodIn wsX8_waiting (wsV RX8 133 RX8 yX8_rank wsX8_rank) := goodIn_app (goodIn_of _ (by decide +kernel)) ggX8_waiting_X8_rank
theorem dX8_waiting_0 : decode cX8_waiting 0 = .ok (.iload_n 1, 1) := by decide +kernel
theorem dX8_waiting_1 : decode cX8_waiting 1 = .ok (.i2l, 1) := by decide +kernel
theorem dX8_waiting_2 : decode cX8_waiting 2 = .ok (.iconst 0, 1) := by decide +kernel
theorem dX8_waiting_3 : decode cX8_waiting 3 = .ok (.iconst 1, 1) := by decide +kernel
theorem dX8_waiting_4 : decode cX8_waiting 4 = .ok (.invokestatic 43, 3) := by decide +kernel
theorem dX8_waiting_7 : decode cX8_waiting 7 = .ok (.ifCond .ne 6, 3) := by decide +kernel
theorem dX8_waiting_10 : decode cX8_waiting 10 = .ok (.bipush (-2), 2) := by decide +kernel
theorem dX8_waiting_12 : decode cX8_waiting 12 = .ok (.ireturn, 1) := by decide +kernel
theorem dX8_waiting_13 : decode cX8_waiting 13 = .ok (.iconst 0, 1) := by decide +kernel
theorem dX8_waiting_14 : decode cX8_waiting 14 = .ok (.istore_n 3, 1) := by decide +kernel
theorem dX8_waiting_15 : decode cX8_waiting 15 = .ok (.iload_n 3, 1) := by decide +kernel
theorem dX8_waiting_16 : decode cX8_waiting 16 = .ok (.aload_n 0, 1) := by decide +kernel
theorem dX8_waiting_17 : decode cX8_waiting 17 = .ok (.getfield 7, 3) := by decide +kernel
theorem dX8_waiting_20 : decode cX8_waiting 20 = .ok (.bipush 7, 2) := by decide +kernel
theorem dX8_waiting_22 : decode cX8_waiting 22 = .ok (.iaload, 1) := by decide +kernel
theorem dX8_waiting_23 : decode cX8_waiting 23 = .ok (.if_icmp .ge 35, 3) := by decide +kernel
theorem dX8_waiting_26 : decode cX8_waiting 26 = .ok (.aload_n 0, 1) := by decide +kernel
theorem dX8_waiting_27 : decode cX8_waiting 27 = .ok (.iload_n 3, 1) := by decide +kernel
theorem dX8_waiting_28 : decode cX8_waiting 28 = .ok (.iconst 1, 1) := by decide +kernel
theorem dX8_waiting_29 : decode cX8_waiting 29 = .ok (.invokevirtual 35, 3) := by decide +kernel
theorem dX8_waiting_32 : decode cX8_waiting 32 = .ok (.iload_n 1, 1) := by decide +kernel
theorem dX8_waiting_33 : decode cX8_waiting 33 = .ok (.if_icmp .ne 19, 3) := by decide +kernel
theorem dX8_waiting_36 : decode cX8_waiting 36 = .ok (.aload_n 0, 1) := by decide +kernel
theorem dX8_waiting_37 : decode cX8_waiting 37 = .ok (.iload_n 3, 1) := by decide +kernel
theorem dX8_waiting_38 : decode cX8_waiting 38 = .ok (.invokevirtual 133, 3) := by decide +kernel
theorem dX8_waiting_41 : decode cX8_waiting 41 = .ok (.iload_n 2, 1) := by decide +kernel
theorem dX8_waiting_42 : decode cX8_waiting 42 = .ok (.if_icmp .ne 10, 3) := by decide +kernel
theorem dX8_waiting_45 : decode cX8_waiting 45 = .ok (.aload_n 0, 1) := by decide +kernel
theorem dX8_waiting_46 : decode cX8_waiting 46 = .ok (.iload_n 3, 1) := by decide +kernel
theorem dX8_waiting_47 : decode cX8_waiting 47 = .ok (.iconst 0, 1) := by decide +kernel
theorem dX8_waiting_48 : decode cX8_waiting 48 = .ok (.invokevirtual 35, 3) := by decide +kernel
theorem dX8_waiting_51 : decode cX8_waiting 51 = .ok (.ireturn, 1) := by decide +kernel
theorem dX8_waiting_52 : decode cX8_waiting 52 = .ok (.iinc 3 1, 3) := by decide +kernel
theorem dX8_waiting_55 : decode cX8_waiting 55 = .ok (.goto (-40), 3) := by decide +kernel
theorem dX8_waiting_58 : decode cX8_waiting 58 = .ok (.iconst (-1), 1) := by decide +kernel
theorem dX8_waiting_59 : decode cX8_waiting 59 = .ok (.ireturn, 1) := by decide +kernel
set_option maxRecDepth 20000 in
theorem ggX8_log_X8_in : GoodIn wsX8_log wsX8_in := goodIn_r _ [5] (by decide +kernel) (by decide +kernel)
set_option maxRecDepth 20000 in
theorem gX8_log_X8_in : GoodIn wsX8_log (va_wsS RX8 43 yX8_in wsX8_in) := goodIn_app (goodIn_of _ (by decide +kernel)) ggX8_log_X8_in
theorem dX8_log_0 : decode cX8_log 0 = .ok (.iload_n 1, 1) := by decide +kernel
theorem dX8_log_1 : decode cX8_log 1 = .ok (.i2l, 1) := by decide +kernel
theorem dX8_log_2 : decode cX8_log 2 = .ok (.iconst 0, 1) := by decide +kernel
theorem dX8_log_3 : decode cX8_log 3 = .ok (.aload_n 0, 1) := by decide +kernel
theorem dX8_log_4 : decode cX8_log 4 = .ok (.getfield 7, 3) := by decide +kernel
theorem dX8_log_7 : decode cX8_log 7 = .ok (.bipush 17, 2) := by decide +kernel
theorem dX8_log_9 : decode cX8_log 9 = .ok (.iaload, 1) := by decide +kernel
theorem dX8_log_10 : decode cX8_log 10 = .ok (.iconst 1, 1) := by decide +kernel
theorem dX8_log_11 : decode cX8_log 11 = .ok (.isub, 1) := by decide +kernel
theorem dX8_log_12 : decode cX8_log 12 = .ok (.invokestatic 43, 3) := by decide +kernel
theorem dX8_log_15 : decode cX8_log 15 = .ok (.ifCond .ne 7, 3) := by decide +kernel
theorem dX8_log_18 : decode cX8_log 18 = .ok (.iconst (-1), 1) := by decide +kernel
theorem dX8_log_19 : decode cX8_log 19 = .ok (.goto 31, 3) := by decide +kernel
theorem dX8_log_22 : decode cX8_log 22 = .ok (.iload_n 2, 1) := by decide +kernel
theorem dX8_log_23 : decode cX8_log 23 = .ok (.i2l, 1) := by decide +kernel
theorem dX8_log_24 : decode cX8_log 24 = .ok (.iconst 0, 1) := by decide +kernel
theorem dX8_log_25 : decode cX8_log 25 = .ok (.iconst 2, 1) := by decide +kernel
theorem dX8_log_26 : decode cX8_log 26 = .ok (.invokestatic 43, 3) := by decide +kernel
theorem dX8_log_29 : decode cX8_log 29 = .ok (.ifCond .eq 19, 3) := by decide +kernel
theorem dX8_log_32 : decode cX8_log 32 = .ok (.aload_n 0, 1) := by decide +kernel
theorem dX8_log_33 : decode cX8_log 33 = .ok (.getfield 7, 3) := by decide +kernel
theorem dX8_log_36 : decode cX8_log 36 = .ok (.bipush 18, 2) := by decide +kernel
theorem dX8_log_38 : decode cX8_log 38 = .ok (.iconst 3, 1) := by decide +kernel
theorem dX8_log_39 : decode cX8_log 39 = .ok (.iload_n 1, 1) := by decide +kernel
theorem dX8_log_40 : decode cX8_log 40 = .ok (.imul, 1) := by decide +kernel
theorem dX8_log_41 : decode cX8_log 41 = .ok (.iadd, 1) := by decide +kernel
theorem dX8_log_42 : decode cX8_log 42 = .ok (.iload_n 2, 1) := by decide +kernel
theorem dX8_log_43 : decode cX8_log 43 = .ok (.iadd, 1) := by decide +kernel
theorem dX8_log_44 : decode cX8_log 44 = .ok (.iaload, 1) := by decide +kernel
theorem dX8_log_45 : decode cX8_log 45 = .ok (.goto 5, 3) := by decide +kernel
theorem dX8_log_48 : decode cX8_log 48 = .ok (.bipush (-2), 2) := by decide +kernel
theorem dX8_log_50 : decode cX8_log 50 = .ok (.ireturn, 1) := by decide +kernel
set_option maxRecDepth 20000 in
theorem ggX8_count_X8_in : GoodIn wsX8_count wsX8_in := goodIn_r _ [7] (by decide +kernel) (by decide +kernel)
set_option maxRecDepth 20000 in
theorem gX8_count_X8_in : GoodIn wsX8_count (va_wsS RX8 43 yX8_in wsX8_in) := goodIn_app (goodIn_of _ (by decide +kernel)) ggX8_count_X8_in
set_option maxRecDepth 20000 in
theorem ggX8_count_X8_many : GoodIn wsX8_count wsX8_many := goodIn_r _ [11, 1, 12, 13, 14, 6, 15, 16, 17, 18, 19, 20, 21, 22, 23, 24, 25, 26, 27, 28] (by decide +kernel) (by decide +kernel)
set_option maxRecDepth 20000 in
theorem gX8_count_X8_many : GoodIn wsX8_count (wsV RX8 54 RX8 yX8_many wsX8_many) := goodIn_app (goodIn_of _ (by decide +kernel)) ggX8_count_X8_many
theorem dX8_count_0 : decode cX8_count 0 = .ok (.iload_n 1, 1) := by decide +kernel
theorem dX8_count_1 : decode cX8_count 1 = .ok (.i2l, 1) := by decide +kernel
theorem dX8_count_2 : decode cX8_count 2 = .ok (.bipush 10, 2) := by decide +kernel
theorem dX8_count_4 : decode cX8_count 4 = .ok (.bipush 15, 2) := by decide +kernel
theorem dX8_count_6 : decode cX8_count 6 = .ok (.invokestatic 43, 3) := by decide +kernel
theorem dX8_count_9 : decode cX8_count 9 = .ok (.ifCond .eq 13, 3) := by decide +kernel
theorem dX8_count_12 : decode cX8_count 12 = .ok (.aload_n 0, 1) := by decide +kernel
theorem dX8_count_13 : decode cX8_count 13 = .ok (.getfield 7, 3) := by decide +kernel
theorem dX8_count_16 : decode cX8_count 16 = .ok (.iload_n 1, 1) := by decide +kernel
theorem dX8_count_17 : decode cX8_count 17 = .ok (.bipush 10, 2) := by decide +kernel
theorem dX8_count_19 : decode cX8_count 19 = .ok (.isub, 1) := by decide +kernel
theorem dX8_count_20 : decode cX8_count 20 = .ok (.iaload, 1) := by decide +kernel
theorem dX8_count_21 : decode cX8_count 21 = .ok (.ireturn, 1) := by decide +kernel
theorem dX8_count_22 : decode cX8_count 22 = .ok (.iload_n 1, 1) := by decide +kernel
theorem dX8_count_23 : decode cX8_count 23 = .ok (.tableswitch 167 0 17 #[85, 93, 93, 101, 109, 117, 125, 133, 141, 149, 167, 167, 167, 167, 167, 167, 157, 162], 85) := by decide +kernel
theorem dX8_count_108 : decode cX8_count 108 = .ok (.aload_n 0, 1) := by decide +kernel
theorem dX8_count_109 : decode cX8_count 109 = .ok (.getfield 7, 3) := by decide +kernel
theorem dX8_count_112 : decode cX8_count 112 = .ok (.bipush 6, 2) := by decide +kernel
theorem dX8_count_114 : decode cX8_count 114 = .ok (.iaload, 1) := by decide +kernel
theorem dX8_count_115 : decode cX8_count 115 = .ok (.ireturn, 1) := by decide +kernel
theorem dX8_count_116 : decode cX8_count 116 = .ok (.aload_n 0, 1) := by decide +kernel
theorem dX8_count_117 : decode cX8_count 117 = .ok (.iload_n 1, 1) := by decide +kernel
theorem dX8_count_118 : decode cX8_count 118 = .ok (.iconst 1, 1) := by decide +kernel
theorem dX8_count_119 : decode cX8_count 119 = .ok (.isub, 1) := by decide +kernel
theorem dX8_count_120 : decode cX8_count 120 = .ok (.invokevirtual 54, 3) := by decide +kernel
theorem dX8_count_123 : decode cX8_count 123 = .ok (.ireturn, 1) := by decide +kernel
theorem dX8_count_124 : decode cX8_count 124 = .ok (.aload_n 0, 1) := by decide +kernel
theorem dX8_count_125 : decode cX8_count 125 = .ok (.getfield 7, 3) := by decide +kernel
theorem dX8_count_128 : decode cX8_count 128 = .ok (.bipush 9, 2) := by decide +kernel
theorem dX8_count_130 : decode cX8_count 130 = .ok (.iaload, 1) := by decide +kernel
theorem dX8_count_131 : decode cX8_count 131 = .ok (.ireturn, 1) := by decide +kernel
theorem dX8_count_132 : decode cX8_count 132 = .ok (.aload_n 0, 1) := by decide +kernel
theorem dX8_count_133 : decode cX8_count 133 = .ok (.getfield 7, 3) := by decide +kernel
theorem dX8_count_136 : decode cX8_count 136 = .ok (.bipush 10, 2) := by decide +kernel
theorem dX8_count_138 : decode cX8_count 138 = .ok (.iaload, 1) := by decide +kernel
theorem dX8_count_139 : decode cX8_count 139 = .ok (.ireturn, 1) := by decide +kernel
theorem dX8_count_140 : decode cX8_count 140 = .ok (.aload_n 0, 1) := by decide +kernel
theorem dX8_count_141 : decode cX8_count 141 = .ok (.getfield 7, 3) := by decide +kernel
theorem dX8_count_144 : decode cX8_count 144 = .ok (.bipush 11, 2) := by decide +kernel
theorem dX8_count_146 : decode cX8_count 146 = .ok (.iaload, 1) := by decide +kernel
theorem dX8_count_147 : decode cX8_count 147 = .ok (.ireturn, 1) := by decide +kernel
theorem dX8_count_148 : decode cX8_count 148 = .ok (.aload_n 0, 1) := by decide +kernel
theorem dX8_count_149 : decode cX8_count 149 = .ok (.getfield 7, 3) := by decide +kernel
theorem dX8_count_152 : decode cX8_count 152 = .ok (.bipush 12, 2) := by decide +kernel
theorem dX8_count_154 : decode cX8_count 154 = .ok (.iaload, 1) := by decide +kernel
theorem dX8_count_155 : decode cX8_count 155 = .ok (.ireturn, 1) := by decide +kernel
theorem dX8_count_156 : decode cX8_count 156 = .ok (.aload_n 0, 1) := by decide +kernel
theorem dX8_count_157 : decode cX8_count 157 = .ok (.getfield 7, 3) := by decide +kernel
theorem dX8_count_160 : decode cX8_count 160 = .ok (.bipush 13, 2) := by decide +kernel
theorem dX8_count_162 : decode cX8_count 162 = .ok (.iaload, 1) := by decide +kernel
theorem dX8_count_163 : decode cX8_count 163 = .ok (.ireturn, 1) := by decide +kernel
theorem dX8_count_164 : decode cX8_count 164 = .ok (.aload_n 0, 1) := by decide +kernel
theorem dX8_count_165 : decode cX8_count 165 = .ok (.getfield 7, 3) := by decide +kernel
theorem dX8_count_168 : decode cX8_count 168 = .ok (.bipush 14, 2) := by decide +kernel
theorem dX8_count_170 : decode cX8_count 170 = .ok (.iaload, 1) := by decide +kernel
theorem dX8_count_171 : decode cX8_count 171 = .ok (.ireturn, 1) := by decide +kernel
theorem dX8_count_172 : decode cX8_count 172 = .ok (.aload_n 0, 1) := by decide +kernel
theorem dX8_count_173 : decode cX8_count 173 = .ok (.getfield 7, 3) := by decide +kernel
theorem dX8_count_176 : decode cX8_count 176 = .ok (.bipush 15, 2) := by decide +kernel
theorem dX8_count_178 : decode cX8_count 178 = .ok (.iaload, 1) := by decide +kernel
theorem dX8_count_179 : decode cX8_count 179 = .ok (.ireturn, 1) := by decide +kernel
theorem dX8_count_180 : decode cX8_count 180 = .ok (.aload_n 0, 1) := by decide +kernel
theorem dX8_count_181 : decode cX8_count 181 = .ok (.getfield 136, 3) := by decide +kernel
theorem dX8_count_184 : decode cX8_count 184 = .ok (.ireturn, 1) := by decide +kernel
theorem dX8_count_185 : decode cX8_count 185 = .ok (.aload_n 0, 1) := by decide +kernel
theorem dX8_count_186 : decode cX8_count 186 = .ok (.getfield 39, 3) := by decide +kernel
theorem dX8_count_189 : decode cX8_count 189 = .ok (.ireturn, 1) := by decide +kernel
theorem dX8_count_190 : decode cX8_count 190 = .ok (.bipush (-2), 2) := by decide +kernel
theorem dX8_count_192 : decode cX8_count 192 = .ok (.ireturn, 1) := by decide +kernel
set_option maxRecDepth 20000 in
theorem ggX8_next_X8_in : GoodIn wsX8_next wsX8_in := goodIn_r _ [7] (by decide +kernel) (by decide +kernel)
set_option maxRecDepth 20000 in
theorem gX8_next_X8_in : GoodIn wsX8_next (va_wsS RX8 43 yX8_in wsX8_in) := goodIn_app (goodIn_of _ (by decide +kernel)) ggX8_next_X8_in
set_option maxRecDepth 20000 in
theorem ggX8_next_X8_look : GoodIn wsX8_next wsX8_look := goodIn_r _ [11, 1, 2, 3, 12, 13, 14, 6, 15, 16, 17, 18, 19, 20, 21, 22, 23, 24, 25, 26, 27, 28, 29, 30, 31, 32, 33, 34, 35, 43, 44, 45, 46, 47, 48, 49, 50, 51, 52, 53, 54, 55] (by decide +kernel) (by decide +kernel)
set_option maxRecDepth 20000 in
theorem gX8_next_X8_look : GoodIn wsX8_next (wsV RX8 80 RX8 yX8_look wsX8_look) := goodIn_app (goodIn_of _ (by decide +kernel)) ggX8_next_X8_look
set_option maxRecDepth 20000 in
theorem ggX8_next_X8_its : GoodIn wsX8_next wsX8_its := goodIn_r _ [19, 1, 43, 44, 45, 46, 47, 48, 49, 50, 51, 52, 53, 54, 55] (by decide +kernel) (by decide +kernel)
set_option maxRecDepth 20000 in
theorem gX8_next_X8_its : GoodIn wsX8_next (wsV RX8 35 RX8 yX8_its wsX8_its) := goodIn_app (goodIn_of _ (by decide +kernel)) ggX8_next_X8_its
set_option maxRecDepth 20000 in
theorem ggX8_next_X8_minute : GoodIn wsX8_next wsX8_minute := goodIn_r _ [39, 1, 2, 16, 17, 18, 6, 19, 40, 41, 42, 43, 44, 45, 46, 47, 48, 49, 50, 51, 52, 53, 54, 55] (by decide +kernel) (by decide +kernel)
set_option maxRecDepth 20000 in
theorem gX8_next_X8_minute : GoodIn wsX8_next (wsV RX8 83 RX8 yX8_minute wsX8_minute) := goodIn_app (goodIn_of _ (by decide +kernel)) ggX8_next_X8_minute
theorem dX8_next_0 : decode cX8_next 0 = .ok (.iload_n 1, 1) := by decide +kernel
theorem dX8_next_1 : decode cX8_next 1 = .ok (.i2l, 1) := by decide +kernel
theorem dX8_next_2 : decode cX8_next 2 = .ok (.iconst 0, 1) := by decide +kernel
theorem dX8_next_3 : decode cX8_next 3 = .ok (.iconst 2, 1) := by decide +kernel
theorem dX8_next_4 : decode cX8_next 4 = .ok (.invokestatic 43, 3) := by decide +kernel
theorem dX8_next_7 : decode cX8_next 7 = .ok (.ifCond .ne 6, 3) := by decide +kernel
theorem dX8_next_10 : decode cX8_next 10 = .ok (.bipush (-2), 2) := by decide +kernel
theorem dX8_next_12 : decode cX8_next 12 = .ok (.ireturn, 1) := by decide +kernel
theorem dX8_next_13 : decode cX8_next 13 = .ok (.aload_n 0, 1) := by decide +kernel
theorem dX8_next_14 : decode cX8_next 14 = .ok (.getfield 7, 3) := by decide +kernel
theorem dX8_next_17 : decode cX8_next 17 = .ok (.bipush 7, 2) := by decide +kernel
theorem dX8_next_19 : decode cX8_next 19 = .ok (.iaload, 1) := by decide +kernel
theorem dX8_next_20 : decode cX8_next 20 = .ok (.ifCond .ne 6, 3) := by decide +kernel
theorem dX8_next_23 : decode cX8_next 23 = .ok (.bipush (-6), 2) := by decide +kernel
theorem dX8_next_25 : decode cX8_next 25 = .ok (.ireturn, 1) := by decide +kernel
theorem dX8_next_26 : decode cX8_next 26 = .ok (.aload_n 0, 1) := by decide +kernel
theorem dX8_next_27 : decode cX8_next 27 = .ok (.invokevirtual 80, 3) := by decide +kernel
theorem dX8_next_30 : decode cX8_next 30 = .ok (.iload_n 1, 1) := by decide +kernel
theorem dX8_next_31 : decode cX8_next 31 = .ok (.ifCond .ne 15, 3) := by decide +kernel
theorem dX8_next_34 : decode cX8_next 34 = .ok (.aload_n 0, 1) := by decide +kernel
theorem dX8_next_35 : decode cX8_next 35 = .ok (.aload_n 0, 1) := by decide +kernel
theorem dX8_next_36 : decode cX8_next 36 = .ok (.getfield 60, 3) := by decide +kernel
theorem dX8_next_39 : decode cX8_next 39 = .ok (.iconst 0, 1) := by decide +kernel
theorem dX8_next_40 : decode cX8_next 40 = .ok (.invokevirtual 35, 3) := by decide +kernel
theorem dX8_next_43 : decode cX8_next 43 = .ok (.goto 19, 3) := by decide +kernel
theorem dX8_next_46 : decode cX8_next 46 = .ok (.iload_n 1, 1) := by decide +kernel
theorem dX8_next_47 : decode cX8_next 47 = .ok (.iconst 1, 1) := by decide +kernel
theorem dX8_next_48 : decode cX8_next 48 = .ok (.if_icmp .ne 10, 3) := by decide +kernel
theorem dX8_next_51 : decode cX8_next 51 = .ok (.aload_n 0, 1) := by decide +kernel
theorem dX8_next_52 : decode cX8_next 52 = .ok (.getfield 63, 3) := by decide +kernel
theorem dX8_next_55 : decode cX8_next 55 = .ok (.goto 7, 3) := by decide +kernel
theorem dX8_next_58 : decode cX8_next 58 = .ok (.aload_n 0, 1) := by decide +kernel
theorem dX8_next_59 : decode cX8_next 59 = .ok (.invokevirtual 83, 3) := by decide +kernel
theorem dX8_next_62 : decode cX8_next 62 = .ok (.ireturn, 1) := by decide +kernel
set_option maxRecDepth 20000 in
theorem ggX8_servedIn_X8_find : GoodIn wsX8_servedIn wsX8_find := goodIn_r _ [6, 1, 7, 8, 9, 5, 10, 69, 70, 71, 72, 73, 74, 75, 76, 77, 78, 79, 80, 81] (by decide +kernel) (by decide +kernel)
set_option maxRecDepth 20000 in
theorem gX8_servedIn_X8_find : GoodIn wsX8_servedIn (wsV RX8 124 RX8 yX8_find wsX8_find) := goodIn_app (goodIn_of _ (by decide +kernel)) ggX8_servedIn_X8_find
set_option maxRecDepth 20000 in
theorem ggX8_servedIn_X8_layAside : GoodIn wsX8_servedIn wsX8_layAside := goodIn_r _ [14, 15, 1, 69, 70, 71, 72, 73, 74, 75, 76, 77, 78, 79, 80, 81] (by decide +kernel) (by decide +kernel)
set_option maxRecDepth 20000 in
theorem gX8_servedIn_X8_layAside : GoodIn wsX8_servedIn (wsV RX8 105 RX8 yX8_layAside wsX8_layAside) := goodIn_app (goodIn_of _ (by decide +kernel)) ggX8_servedIn_X8_layAside
set_option maxRecDepth 20000 in
theorem ggX8_servedIn_X8_serveOne : GoodIn wsX8_servedIn wsX8_serveOne := goodIn_r _ [19, 20, 21, 1, 22, 23, 24, 5, 25, 26, 27, 28, 29, 7, 8, 9, 10, 30, 31, 32, 33, 34, 35, 36, 37, 38, 39, 40, 41, 42, 43, 44, 45, 46, 47, 48, 49, 50, 51, 52, 53, 54, 55, 56, 57, 58, 59, 60, 61, 62, 63, 64, 69, 70, 71, 72, 73, 74, 75, 76, 77, 78, 79, 80, 81] (by decide +kernel) (by decide +kernel)
set_option maxRecDepth 20000 in
theorem gX8_servedIn_X8_serveOne : GoodIn wsX8_servedIn (wsV RX8 108 RX8 yX8_serveOne wsX8_serveOne) := goodIn_app (goodIn_of _ (by decide +kernel)) ggX8_servedIn_X8_serveOne
set_option maxRecDepth 20000 in
theorem ggX8_servedIn_X8_putBack : GoodIn wsX8_servedIn wsX8_putBack := goodIn_r _ [68, 1, 15, 69, 70, 71, 72, 73, 74, 75, 76, 77, 78, 79, 80, 81] (by decide +kernel) (by decide +kernel)
set_option maxRecDepth 20000 in
theorem gX8_servedIn_X8_putBack : GoodIn wsX8_servedIn (wsV RX8 112 RX8 yX8_putBack wsX8_putBack) := goodIn_app (goodIn_of _ (by decide +kernel)) ggX8_servedIn_X8_putBack
theorem dX8_servedIn_0 : decode cX8_servedIn 0 = .ok (.aload_n 0, 1) := by decide +kernel
theorem dX8_servedIn_1 : decode cX8_servedIn 1 = .ok (.iload_n 1, 1) := by decide +kernel
theorem dX8_servedIn_2 : decode cX8_servedIn 2 = .ok (.invokevirtual 124, 3) := by decide +kernel
theorem dX8_servedIn_5 : decode cX8_servedIn 5 = .ok (.bipush (-6), 2) := by decide +kernel
theorem dX8_servedIn_7 : decode cX8_servedIn 7 = .ok (.if_icmp .ne 5, 3) := by decide +kernel
theorem dX8_servedIn_10 : decode cX8_servedIn 10 = .ok (.iconst (-1), 1) := by decide +kernel
theorem dX8_servedIn_11 : decode cX8_servedIn 11 = .ok (.ireturn, 1) := by decide +kernel
theorem dX8_servedIn_12 : decode cX8_servedIn 12 = .ok (.aload_n 0, 1) := by decide +kernel
theorem dX8_servedIn_13 : decode cX8_servedIn 13 = .ok (.invokevirtual 105, 3) := by decide +kernel
theorem dX8_servedIn_16 : decode cX8_servedIn 16 = .ok (.aload_n 0, 1) := by decide +kernel
theorem dX8_servedIn_17 : decode cX8_servedIn 17 = .ok (.getfield 7, 3) := by decide +kernel
theorem dX8_servedIn_20 : decode cX8_servedIn 20 = .ok (.bipush 6, 2) := by decide +kernel
theorem dX8_servedIn_22 : decode cX8_servedIn 22 = .ok (.iaload, 1) := by decide +kernel
theorem dX8_servedIn_23 : decode cX8_servedIn 23 = .ok (.istore_n 2, 1) := by decide +kernel
theorem dX8_servedIn_24 : decode cX8_servedIn 24 = .ok (.aload_n 0, 1) := by decide +kernel
theorem dX8_servedIn_25 : decode cX8_servedIn 25 = .ok (.iload_n 1, 1) := by decide +kernel
theorem dX8_servedIn_26 : decode cX8_servedIn 26 = .ok (.invokevirtual 124, 3) := by decide +kernel
theorem dX8_servedIn_29 : decode cX8_servedIn 29 = .ok (.bipush (-6), 2) := by decide +kernel
theorem dX8_servedIn_31 : decode cX8_servedIn 31 = .ok (.if_icmp .eq 10, 3) := by decide +kernel
theorem dX8_servedIn_34 : decode cX8_servedIn 34 = .ok (.aload_n 0, 1) := by decide +kernel
theorem dX8_servedIn_35 : decode cX8_servedIn 35 = .ok (.invokevirtual 108, 3) := by decide +kernel
theorem dX8_servedIn_38 : decode cX8_servedIn 38 = .ok (.goto (-14), 3) := by decide +kernel
theorem dX8_servedIn_41 : decode cX8_servedIn 41 = .ok (.aload_n 0, 1) := by decide +kernel
theorem dX8_servedIn_42 : decode cX8_servedIn 42 = .ok (.getfield 7, 3) := by decide +kernel
theorem dX8_servedIn_45 : decode cX8_servedIn 45 = .ok (.bipush 6, 2) := by decide +kernel
theorem dX8_servedIn_47 : decode cX8_servedIn 47 = .ok (.iaload, 1) := by decide +kernel
theorem dX8_servedIn_48 : decode cX8_servedIn 48 = .ok (.iload_n 2, 1) := by decide +kernel
theorem dX8_servedIn_49 : decode cX8_servedIn 49 = .ok (.isub, 1) := by decide +kernel
theorem dX8_servedIn_50 : decode cX8_servedIn 50 = .ok (.istore_n 3, 1) := by decide +kernel
theorem dX8_servedIn_51 : decode cX8_servedIn 51 = .ok (.aload_n 0, 1) := by decide +kernel
theorem dX8_servedIn_52 : decode cX8_servedIn 52 = .ok (.invokevirtual 112, 3) := by decide +kernel
theorem dX8_servedIn_55 : decode cX8_servedIn 55 = .ok (.iload_n 3, 1) := by decide +kernel
theorem dX8_servedIn_56 : decode cX8_servedIn 56 = .ok (.ireturn, 1) := by decide +kernel
set_option maxRecDepth 20000 in
theorem ggX8_all_X8_in : GoodIn wsX8_all wsX8_in := goodIn_r _ [5] (by decide +kernel) (by decide +kernel)
set_option maxRecDepth 20000 in
theorem gX8_all_X8_in : GoodIn wsX8_all (va_wsS RX8 43 yX8_in wsX8_in) := goodIn_app (goodIn_of _ (by decide +kernel)) ggX8_all_X8_in
set_option maxRecDepth 20000 in
theorem ggX8_all_X8_layAside : GoodIn wsX8_all wsX8_layAside := goodIn_r _ [9, 10, 1, 68, 69, 70, 71, 72, 73, 74, 75, 76, 77, 78, 79, 80] (by decide +kernel) (by decide +kernel)
set_option maxRecDepth 20000 in
theorem gX8_all_X8_layAside : GoodIn wsX8_all (wsV RX8 105 RX8 yX8_layAside wsX8_layAside) := goodIn_app (goodIn_of _ (by decide +kernel)) ggX8_all_X8_layAside
set_option maxRecDepth 20000 in
theorem ggX8_all_X8_serveOne : GoodIn wsX8_all wsX8_serveOne := goodIn_r _ [14, 15, 16, 1, 17, 18, 19, 4, 20, 21, 22, 23, 24, 25, 26, 27, 28, 29, 30, 31, 32, 33, 34, 35, 36, 37, 38, 39, 40, 41, 42, 43, 44, 45, 46, 47, 48, 49, 50, 51, 52, 53, 54, 55, 56, 57, 58, 59, 60, 61, 62, 63, 68, 69, 70, 71, 72, 73, 74, 75, 76, 77, 78, 79, 80] (by decide +kernel) (by decide +kernel)
set_option maxRecDepth 20000 in
theorem gX8_all_X8_serveOne : GoodIn wsX8_all (wsV RX8 108 RX8 yX8_serveOne wsX8_serveOne) := goodIn_app (goodIn_of _ (by decide +kernel)) ggX8_all_X8_serveOne
set_option maxRecDepth 20000 in
theorem ggX8_all_X8_putBack : GoodIn wsX8_all wsX8_putBack := goodIn_r _ [67, 1, 10, 68, 69, 70, 71, 72, 73, 74, 75, 76, 77, 78, 79, 80] (by decide +kernel) (by decide +kernel)
set_option maxRecDepth 20000 in
theorem gX8_all_X8_putBack : GoodIn wsX8_all (wsV RX8 112 RX8 yX8_putBack wsX8_putBack) := goodIn_app (goodIn_of _ (by decide +kernel)) ggX8_all_X8_putBack
theorem dX8_all_0 : decode cX8_all 0 = .ok (.iload_n 1, 1) := by decide +kernel
theorem dX8_all_1 : decode cX8_all 1 = .ok (.i2l, 1) := by decide +kernel
theorem dX8_all_2 : decode cX8_all 2 = .ok (.iconst 0, 1) := by decide +kernel
theorem dX8_all_3 : decode cX8_all 3 = .ok (.iconst 2, 1) := by decide +kernel
theorem dX8_all_4 : decode cX8_all 4 = .ok (.invokestatic 43, 3) := by decide +kernel
theorem dX8_all_7 : decode cX8_all 7 = .ok (.ifCond .ne 6, 3) := by decide +kernel
theorem dX8_all_10 : decode cX8_all 10 = .ok (.bipush (-2), 2) := by decide +kernel
theorem dX8_all_12 : decode cX8_all 12 = .ok (.ireturn, 1) := by decide +kernel
theorem dX8_all_13 : decode cX8_all 13 = .ok (.aload_n 0, 1) := by decide +kernel
theorem dX8_all_14 : decode cX8_all 14 = .ok (.getfield 7, 3) := by decide +kernel
theorem dX8_all_17 : decode cX8_all 17 = .ok (.bipush 7, 2) := by decide +kernel
theorem dX8_all_19 : decode cX8_all 19 = .ok (.iaload, 1) := by decide +kernel
theorem dX8_all_20 : decode cX8_all 20 = .ok (.ifCond .ne 6, 3) := by decide +kernel
theorem dX8_all_23 : decode cX8_all 23 = .ok (.bipush (-6), 2) := by decide +kernel
theorem dX8_all_25 : decode cX8_all 25 = .ok (.ireturn, 1) := by decide +kernel
theorem dX8_all_26 : decode cX8_all 26 = .ok (.aload_n 0, 1) := by decide +kernel
theorem dX8_all_27 : decode cX8_all 27 = .ok (.invokevirtual 105, 3) := by decide +kernel
theorem dX8_all_30 : decode cX8_all 30 = .ok (.aload_n 0, 1) := by decide +kernel
theorem dX8_all_31 : decode cX8_all 31 = .ok (.getfield 7, 3) := by decide +kernel
theorem dX8_all_34 : decode cX8_all 34 = .ok (.bipush 6, 2) := by decide +kernel
theorem dX8_all_36 : decode cX8_all 36 = .ok (.iaload, 1) := by decide +kernel
theorem dX8_all_37 : decode cX8_all 37 = .ok (.istore_n 2, 1) := by decide +kernel
theorem dX8_all_38 : decode cX8_all 38 = .ok (.aload_n 0, 1) := by decide +kernel
theorem dX8_all_39 : decode cX8_all 39 = .ok (.getfield 7, 3) := by decide +kernel
theorem dX8_all_42 : decode cX8_all 42 = .ok (.bipush 12, 2) := by decide +kernel
theorem dX8_all_44 : decode cX8_all 44 = .ok (.iaload, 1) := by decide +kernel
theorem dX8_all_45 : decode cX8_all 45 = .ok (.istore_n 3, 1) := by decide +kernel
theorem dX8_all_46 : decode cX8_all 46 = .ok (.aload_n 0, 1) := by decide +kernel
theorem dX8_all_47 : decode cX8_all 47 = .ok (.getfield 7, 3) := by decide +kernel
theorem dX8_all_50 : decode cX8_all 50 = .ok (.bipush 11, 2) := by decide +kernel
theorem dX8_all_52 : decode cX8_all 52 = .ok (.iconst 0, 1) := by decide +kernel
theorem dX8_all_53 : decode cX8_all 53 = .ok (.iastore, 1) := by decide +kernel
theorem dX8_all_54 : decode cX8_all 54 = .ok (.aload_n 0, 1) := by decide +kernel
theorem dX8_all_55 : decode cX8_all 55 = .ok (.getfield 7, 3) := by decide +kernel
theorem dX8_all_58 : decode cX8_all 58 = .ok (.bipush 7, 2) := by decide +kernel
theorem dX8_all_60 : decode cX8_all 60 = .ok (.iaload, 1) := by decide +kernel
theorem dX8_all_61 : decode cX8_all 61 = .ok (.ifCond .le 10, 3) := by decide +kernel
theorem dX8_all_64 : decode cX8_all 64 = .ok (.aload_n 0, 1) := by decide +kernel
theorem dX8_all_65 : decode cX8_all 65 = .ok (.invokevirtual 108, 3) := by decide +kernel
theorem dX8_all_68 : decode cX8_all 68 = .ok (.goto (-14), 3) := by decide +kernel
theorem dX8_all_71 : decode cX8_all 71 = .ok (.iload_n 1, 1) := by decide +kernel
theorem dX8_all_72 : decode cX8_all 72 = .ok (.ifCond .ne 15, 3) := by decide +kernel
theorem dX8_all_75 : decode cX8_all 75 = .ok (.aload_n 0, 1) := by decide +kernel
theorem dX8_all_76 : decode cX8_all 76 = .ok (.getfield 7, 3) := by decide +kernel
theorem dX8_all_79 : decode cX8_all 79 = .ok (.bipush 6, 2) := by decide +kernel
theorem dX8_all_81 : decode cX8_all 81 = .ok (.iaload, 1) := by decide +kernel
theorem dX8_all_82 : decode cX8_all 82 = .ok (.iload_n 2, 1) := by decide +kernel
theorem dX8_all_83 : decode cX8_all 83 = .ok (.isub, 1) := by decide +kernel
theorem dX8_all_84 : decode cX8_all 84 = .ok (.goto 27, 3) := by decide +kernel
theorem dX8_all_87 : decode cX8_all 87 = .ok (.iload_n 1, 1) := by decide +kernel
theorem dX8_all_88 : decode cX8_all 88 = .ok (.iconst 1, 1) := by decide +kernel
theorem dX8_all_89 : decode cX8_all 89 = .ok (.if_icmp .ne 15, 3) := by decide +kernel
theorem dX8_all_92 : decode cX8_all 92 = .ok (.aload_n 0, 1) := by decide +kernel
theorem dX8_all_93 : decode cX8_all 93 = .ok (.getfield 7, 3) := by decide +kernel
theorem dX8_all_96 : decode cX8_all 96 = .ok (.bipush 12, 2) := by decide +kernel
theorem dX8_all_98 : decode cX8_all 98 = .ok (.iaload, 1) := by decide +kernel
theorem dX8_all_99 : decode cX8_all 99 = .ok (.iload_n 3, 1) := by decide +kernel
theorem dX8_all_100 : decode cX8_all 100 = .ok (.isub, 1) := by decide +kernel
theorem dX8_all_101 : decode cX8_all 101 = .ok (.goto 10, 3) := by decide +kernel
theorem dX8_all_104 : decode cX8_all 104 = .ok (.aload_n 0, 1) := by decide +kernel
theorem dX8_all_105 : decode cX8_all 105 = .ok (.getfield 7, 3) := by decide +kernel
theorem dX8_all_108 : decode cX8_all 108 = .ok (.bipush 11, 2) := by decide +kernel
theorem dX8_all_110 : decode cX8_all 110 = .ok (.iaload, 1) := by decide +kernel
theorem dX8_all_111 : decode cX8_all 111 = .ok (.istore 4, 2) := by decide +kernel
theorem dX8_all_113 : decode cX8_all 113 = .ok (.aload_n 0, 1) := by decide +kernel
theorem dX8_all_114 : decode cX8_all 114 = .ok (.invokevirtual 112, 3) := by decide +kernel
theorem dX8_all_117 : decode cX8_all 117 = .ok (.iload 4, 2) := by decide +kernel
theorem dX8_all_119 : decode cX8_all 119 = .ok (.ireturn, 1) := by decide +kernel
set_option maxRecDepth 20000 in
theorem ggX8_joined_X8_isSlip : GoodIn wsX8_joined wsX8_isSlip := goodIn_r _ [4, 5, 6, 3, 7] (by decide +kernel) (by decide +kernel)
set_option maxRecDepth 20000 in
theorem gX8_joined_X8_isSlip : GoodIn wsX8_joined (va_wsS RX8 97 yX8_isSlip wsX8_isSlip) := goodIn_app (goodIn_of _ (by decide +kernel)) ggX8_joined_X8_isSlip
set_option maxRecDepth 20000 in
theorem ggX8_joined_X8_partner : GoodIn wsX8_joined wsX8_partner := goodIn_r _ [11, 12, 13, 14, 15, 3, 16, 17, 18, 19, 20, 21, 22, 23, 24, 25, 26, 27, 28, 29, 30, 31, 32, 33] (by decide +kernel) (by decide +kernel)
set_option maxRecDepth 20000 in
theorem gX8_joined_X8_partner : GoodIn wsX8_joined (wsV RX8 101 RX8 yX8_partner wsX8_partner) := goodIn_app (goodIn_of _ (by decide +kernel)) ggX8_joined_X8_partner
set_option maxRecDepth 20000 in
theorem ggX8_joined_X8_its : GoodIn wsX8_joined wsX8_its := goodIn_r _ [16, 12, 21, 22, 23, 24, 25, 26, 27, 28, 29, 30, 31, 32, 33] (by decide +kernel) (by decide +kernel)
set_option maxRecDepth 20000 in
theorem gX8_joined_X8_its : GoodIn wsX8_joined (wsV RX8 35 RX8 yX8_its wsX8_its) := goodIn_app (goodIn_of _ (by decide +kernel)) ggX8_joined_X8_its
theorem dX8_joined_0 : decode cX8_joined 0 = .ok (.iload_n 1, 1) := by decide +kernel
theorem dX8_joined_1 : decode cX8_joined 1 = .ok (.iload_n 2, 1) := by decide +kernel
theorem dX8_joined_2 : decode cX8_joined 2 = .ok (.iload_n 3, 1) := by decide +kernel
theorem dX8_joined_3 : decode cX8_joined 3 = .ok (.invokestatic 97, 3) := by decide +kernel
theorem dX8_joined_6 : decode cX8_joined 6 = .ok (.ifCond .ne 6, 3) := by decide +kernel
theorem dX8_joined_9 : decode cX8_joined 9 = .ok (.bipush (-2), 2) := by decide +kernel
theorem dX8_joined_11 : decode cX8_joined 11 = .ok (.ireturn, 1) := by decide +kernel
theorem dX8_joined_12 : decode cX8_joined 12 = .ok (.aload_n 0, 1) := by decide +kernel
theorem dX8_joined_13 : decode cX8_joined 13 = .ok (.iload_n 1, 1) := by decide +kernel
theorem dX8_joined_14 : decode cX8_joined 14 = .ok (.iload_n 2, 1) := by decide +kernel
theorem dX8_joined_15 : decode cX8_joined 15 = .ok (.iload_n 3, 1) := by decide +kernel
theorem dX8_joined_16 : decode cX8_joined 16 = .ok (.invokevirtual 101, 3) := by decide +kernel
theorem dX8_joined_19 : decode cX8_joined 19 = .ok (.istore 4, 2) := by decide +kernel
theorem dX8_joined_21 : decode cX8_joined 21 = .ok (.iload 4, 2) := by decide +kernel
theorem dX8_joined_23 : decode cX8_joined 23 = .ok (.bipush (-6), 2) := by decide +kernel
theorem dX8_joined_25 : decode cX8_joined 25 = .ok (.if_icmp .ne 8, 3) := by decide +kernel
theorem dX8_joined_28 : decode cX8_joined 28 = .ok (.bipush (-6), 2) := by decide +kernel
theorem dX8_joined_30 : decode cX8_joined 30 = .ok (.goto 10, 3) := by decide +kernel
theorem dX8_joined_33 : decode cX8_joined 33 = .ok (.aload_n 0, 1) := by decide +kernel
theorem dX8_joined_34 : decode cX8_joined 34 = .ok (.iload 4, 2) := by decide +kernel
theorem dX8_joined_36 : decode cX8_joined 36 = .ok (.iconst 0, 1) := by decide +kernel
theorem dX8_joined_37 : decode cX8_joined 37 = .ok (.invokevirtual 35, 3) := by decide +kernel
theorem dX8_joined_40 : decode cX8_joined 40 = .ok (.ireturn, 1) := by decide +kernel
set_option maxRecDepth 20000 in
theorem ggX8_put_X8_in : GoodIn wsX8_put wsX8_in := goodIn_r _ [8] (by decide +kernel) (by decide +kernel)
set_option maxRecDepth 20000 in
theorem gX8_put_X8_in : GoodIn wsX8_put (va_wsS RX8 43 yX8_in wsX8_in) := goodIn_app (goodIn_of _ (by decide +kernel)) ggX8_put_X8_in
theorem dX8_put_0 : decode cX8_put 0 = .ok (.lload_n 1, 1) := by decide +kernel
theorem dX8_put_1 : decode cX8_put 1 = .ok (.lstore_n 3, 1) := by decide +kernel
theorem dX8_put_2 : decode cX8_put 2 = .ok (.iconst 0, 1) := by decide +kernel
theorem dX8_put_3 : decode cX8_put 3 = .ok (.istore 5, 2) := by decide +kernel
theorem dX8_put_5 : decode cX8_put 5 = .ok (.lload_n 3, 1) := by decide +kernel
theorem dX8_put_6 : decode cX8_put 6 = .ok (.lconst 0, 1) := by decide +kernel
theorem dX8_put_7 : decode cX8_put 7 = .ok (.lcmp, 1) := by decide +kernel
theorem dX8_put_8 : decode cX8_put 8 = .ok (.ifCond .eq 55, 3) := by decide +kernel
theorem dX8_put_11 : decode cX8_put 11 = .ok (.iload 5, 2) := by decide +kernel
theorem dX8_put_13 : decode cX8_put 13 = .ok (.bipush 8, 2) := by decide +kernel
theorem dX8_put_15 : decode cX8_put 15 = .ok (.if_icmp .ge 48, 3) := by decide +kernel
theorem dX8_put_18 : decode cX8_put 18 = .ok (.aload_n 0, 1) := by decide +kernel
theorem dX8_put_19 : decode cX8_put 19 = .ok (.getfield 32, 3) := by decide +kernel
theorem dX8_put_22 : decode cX8_put 22 = .ok (.iload 5, 2) := by decide +kernel
theorem dX8_put_24 : decode cX8_put 24 = .ok (.lload_n 3, 1) := by decide +kernel
theorem dX8_put_25 : decode cX8_put 25 = .ok (.ldc2_w 139, 3) := by decide +kernel
theorem dX8_put_28 : decode cX8_put 28 = .ok (.land, 1) := by decide +kernel
theorem dX8_put_29 : decode cX8_put 29 = .ok (.l2i, 1) := by decide +kernel
theorem dX8_put_30 : decode cX8_put 30 = .ok (.iastore, 1) := by decide +kernel
theorem dX8_put_31 : decode cX8_put 31 = .ok (.aload_n 0, 1) := by decide +kernel
theorem dX8_put_32 : decode cX8_put 32 = .ok (.getfield 32, 3) := by decide +kernel
theorem dX8_put_35 : decode cX8_put 35 = .ok (.iload 5, 2) := by decide +kernel
theorem dX8_put_37 : decode cX8_put 37 = .ok (.iaload, 1) := by decide +kernel
theorem dX8_put_38 : decode cX8_put 38 = .ok (.i2l, 1) := by decide +kernel
theorem dX8_put_39 : decode cX8_put 39 = .ok (.bipush 33, 2) := by decide +kernel
theorem dX8_put_41 : decode cX8_put 41 = .ok (.bipush 126, 2) := by decide +kernel
theorem dX8_put_43 : decode cX8_put 43 = .ok (.invokestatic 43, 3) := by decide +kernel
theorem dX8_put_46 : decode cX8_put 46 = .ok (.ifCond .ne 6, 3) := by decide +kernel
theorem dX8_put_49 : decode cX8_put 49 = .ok (.bipush (-2), 2) := by decide +kernel
theorem dX8_put_51 : decode cX8_put 51 = .ok (.ireturn, 1) := by decide +kernel
theorem dX8_put_52 : decode cX8_put 52 = .ok (.lload_n 3, 1) := by decide +kernel
theorem dX8_put_53 : decode cX8_put 53 = .ok (.bipush 8, 2) := by decide +kernel
theorem dX8_put_55 : decode cX8_put 55 = .ok (.lushr, 1) := by decide +kernel
theorem dX8_put_56 : decode cX8_put 56 = .ok (.lstore_n 3, 1) := by decide +kernel
theorem dX8_put_57 : decode cX8_put 57 = .ok (.iinc 5 1, 3) := by decide +kernel
theorem dX8_put_60 : decode cX8_put 60 = .ok (.goto (-55), 3) := by decide +kernel
theorem dX8_put_63 : decode cX8_put 63 = .ok (.iload 5, 2) := by decide +kernel
theorem dX8_put_65 : decode cX8_put 65 = .ok (.ifCond .ne 6, 3) := by decide +kernel
theorem dX8_put_68 : decode cX8_put 68 = .ok (.bipush (-2), 2) := by decide +kernel
theorem dX8_put_70 : decode cX8_put 70 = .ok (.ireturn, 1) := by decide +kernel
theorem dX8_put_71 : decode cX8_put 71 = .ok (.aload_n 0, 1) := by decide +kernel
theorem dX8_put_72 : decode cX8_put 72 = .ok (.getfield 136, 3) := by decide +kernel
theorem dX8_put_75 : decode cX8_put 75 = .ok (.iload 5, 2) := by decide +kernel
theorem dX8_put_77 : decode cX8_put 77 = .ok (.iadd, 1) := by decide +kernel
theorem dX8_put_78 : decode cX8_put 78 = .ok (.bipush 80, 2) := by decide +kernel
theorem dX8_put_80 : decode cX8_put 80 = .ok (.if_icmp .le 6, 3) := by decide +kernel
theorem dX8_put_83 : decode cX8_put 83 = .ok (.bipush (-4), 2) := by decide +kernel
theorem dX8_put_85 : decode cX8_put 85 = .ok (.ireturn, 1) := by decide +kernel
theorem dX8_put_86 : decode cX8_put 86 = .ok (.iload 5, 2) := by decide +kernel
theorem dX8_put_88 : decode cX8_put 88 = .ok (.iconst 1, 1) := by decide +kernel
theorem dX8_put_89 : decode cX8_put 89 = .ok (.isub, 1) := by decide +kernel
theorem dX8_put_90 : decode cX8_put 90 = .ok (.istore 6, 2) := by decide +kernel
theorem dX8_put_92 : decode cX8_put 92 = .ok (.iload 6, 2) := by decide +kernel
theorem dX8_put_94 : decode cX8_put 94 = .ok (.ifCond .lt 35, 3) := by decide +kernel
theorem dX8_put_97 : decode cX8_put 97 = .ok (.aload_n 0, 1) := by decide +kernel
theorem dX8_put_98 : decode cX8_put 98 = .ok (.getfield 29, 3) := by decide +kernel
theorem dX8_put_101 : decode cX8_put 101 = .ok (.aload_n 0, 1) := by decide +kernel
theorem dX8_put_102 : decode cX8_put 102 = .ok (.getfield 136, 3) := by decide +kernel
theorem dX8_put_105 : decode cX8_put 105 = .ok (.aload_n 0, 1) := by decide +kernel
theorem dX8_put_106 : decode cX8_put 106 = .ok (.getfield 32, 3) := by decide +kernel
theorem dX8_put_109 : decode cX8_put 109 = .ok (.iload 6, 2) := by decide +kernel
theorem dX8_put_111 : decode cX8_put 111 = .ok (.iaload, 1) := by decide +kernel
theorem dX8_put_112 : decode cX8_put 112 = .ok (.iastore, 1) := by decide +kernel
theorem dX8_put_113 : decode cX8_put 113 = .ok (.aload_n 0, 1) := by decide +kernel
theorem dX8_put_114 : decode cX8_put 114 = .ok (.dup, 1) := by decide +kernel
theorem dX8_put_115 : decode cX8_put 115 = .ok (.getfield 136, 3) := by decide +kernel
theorem dX8_put_118 : decode cX8_put 118 = .ok (.iconst 1, 1) := by decide +kernel
theorem dX8_put_119 : decode cX8_put 119 = .ok (.iadd, 1) := by decide +kernel
theorem dX8_put_120 : decode cX8_put 120 = .ok (.putfield 136, 3) := by decide +kernel
theorem dX8_put_123 : decode cX8_put 123 = .ok (.iinc 6 (-1), 3) := by decide +kernel
theorem dX8_put_126 : decode cX8_put 126 = .ok (.goto (-34), 3) := by decide +kernel
theorem dX8_put_129 : decode cX8_put 129 = .ok (.aload_n 0, 1) := by decide +kernel
theorem dX8_put_130 : decode cX8_put 130 = .ok (.getfield 136, 3) := by decide +kernel
theorem dX8_put_133 : decode cX8_put 133 = .ok (.ireturn, 1) := by decide +kernel
theorem dX8_wipe_0 : decode cX8_wipe 0 = .ok (.aload_n 0, 1) := by decide +kernel
theorem dX8_wipe_1 : decode cX8_wipe 1 = .ok (.getfield 136, 3) := by decide +kernel
theorem dX8_wipe_4 : decode cX8_wipe 4 = .ok (.istore_n 1, 1) := by decide +kernel
theorem dX8_wipe_5 : decode cX8_wipe 5 = .ok (.aload_n 0, 1) := by decide +kernel
theorem dX8_wipe_6 : decode cX8_wipe 6 = .ok (.iconst 0, 1) := by decide +kernel
theorem dX8_wipe_7 : decode cX8_wipe 7 = .ok (.putfield 136, 3) := by decide +kernel
theorem dX8_wipe_10 : decode cX8_wipe 10 = .ok (.iload_n 1, 1) := by decide +kernel
theorem dX8_wipe_11 : decode cX8_wipe 11 = .ok (.ireturn, 1) := by decide +kernel
set_option maxRecDepth 20000 in
theorem ggX8_sees_X8_in : GoodIn wsX8_sees wsX8_in := goodIn_r _ [7] (by decide +kernel) (by decide +kernel)
set_option maxRecDepth 20000 in
theorem gX8_sees_X8_in : GoodIn wsX8_sees (va_wsS RX8 43 yX8_in wsX8_in) := goodIn_app (goodIn_of _ (by decide +kernel)) ggX8_sees_X8_in
theorem dX8_sees_0 : decode cX8_sees 0 = .ok (.aload_n 0, 1) := by decide +kernel
theorem dX8_sees_1 : decode cX8_sees 1 = .ok (.getfield 141, 3) := by decide +kernel
theorem dX8_sees_4 : decode cX8_sees 4 = .ok (.aload_n 0, 1) := by decide +kernel
theorem dX8_sees_5 : decode cX8_sees 5 = .ok (.getfield 136, 3) := by decide +kernel
theorem dX8_sees_8 : decode cX8_sees 8 = .ok (.if_icmp .ge 25, 3) := by decide +kernel
theorem dX8_sees_11 : decode cX8_sees 11 = .ok (.aload_n 0, 1) := by decide +kernel
theorem dX8_sees_12 : decode cX8_sees 12 = .ok (.getfield 29, 3) := by decide +kernel
theorem dX8_sees_15 : decode cX8_sees 15 = .ok (.aload_n 0, 1) := by decide +kernel
theorem dX8_sees_16 : decode cX8_sees 16 = .ok (.getfield 141, 3) := by decide +kernel
theorem dX8_sees_19 : decode cX8_sees 19 = .ok (.iaload, 1) := by decide +kernel
theorem dX8_sees_20 : decode cX8_sees 20 = .ok (.i2l, 1) := by decide +kernel
theorem dX8_sees_21 : decode cX8_sees 21 = .ok (.iload_n 1, 1) := by decide +kernel
theorem dX8_sees_22 : decode cX8_sees 22 = .ok (.iload_n 2, 1) := by decide +kernel
theorem dX8_sees_23 : decode cX8_sees 23 = .ok (.invokestatic 43, 3) := by decide +kernel
theorem dX8_sees_26 : decode cX8_sees 26 = .ok (.ifCond .eq 7, 3) := by decide +kernel
theorem dX8_sees_29 : decode cX8_sees 29 = .ok (.iconst 1, 1) := by decide +kernel
theorem dX8_sees_30 : decode cX8_sees 30 = .ok (.goto 4, 3) := by decide +kernel
theorem dX8_sees_33 : decode cX8_sees 33 = .ok (.iconst 0, 1) := by decide +kernel
theorem dX8_sees_34 : decode cX8_sees 34 = .ok (.ireturn, 1) := by decide +kernel
set_option maxRecDepth 20000 in
theorem ggX8_number_X8_sees : GoodIn wsX8_number wsX8_sees := goodIn_r _ [7, 2, 8, 1, 9, 10, 6, 11, 12, 13, 14, 15, 16, 17, 18, 19, 20, 21, 22, 23, 24] (by decide +kernel) (by decide +kernel)
set_option maxRecDepth 20000 in
theorem gX8_number_X8_sees : GoodIn wsX8_number (wsV RX8 144 RX8 yX8_sees wsX8_sees) := goodIn_app (goodIn_of _ (by decide +kernel)) ggX8_number_X8_sees
theorem dX8_number_0 : decode cX8_number 0 = .ok (.aload_n 0, 1) := by decide +kernel
theorem dX8_number_1 : decode cX8_number 1 = .ok (.getfield 29, 3) := by decide +kernel
theorem dX8_number_4 : decode cX8_number 4 = .ok (.aload_n 0, 1) := by decide +kernel
theorem dX8_number_5 : decode cX8_number 5 = .ok (.getfield 141, 3) := by decide +kernel
theorem dX8_number_8 : decode cX8_number 8 = .ok (.iaload, 1) := by decide +kernel
theorem dX8_number_9 : decode cX8_number 9 = .ok (.bipush 48, 2) := by decide +kernel
theorem dX8_number_11 : decode cX8_number 11 = .ok (.isub, 1) := by decide +kernel
theorem dX8_number_12 : decode cX8_number 12 = .ok (.istore_n 1, 1) := by decide +kernel
theorem dX8_number_13 : decode cX8_number 13 = .ok (.aload_n 0, 1) := by decide +kernel
theorem dX8_number_14 : decode cX8_number 14 = .ok (.dup, 1) := by decide +kernel
theorem dX8_number_15 : decode cX8_number 15 = .ok (.getfield 141, 3) := by decide +kernel
theorem dX8_number_18 : decode cX8_number 18 = .ok (.iconst 1, 1) := by decide +kernel
theorem dX8_number_19 : decode cX8_number 19 = .ok (.iadd, 1) := by decide +kernel
theorem dX8_number_20 : decode cX8_number 20 = .ok (.putfield 141, 3) := by decide +kernel
theorem dX8_number_23 : decode cX8_number 23 = .ok (.iload_n 1, 1) := by decide +kernel
theorem dX8_number_24 : decode cX8_number 24 = .ok (.ifCond .le 42, 3) := by decide +kernel
theorem dX8_number_27 : decode cX8_number 27 = .ok (.aload_n 0, 1) := by decide +kernel
theorem dX8_number_28 : decode cX8_number 28 = .ok (.bipush 48, 2) := by decide +kernel
theorem dX8_number_30 : decode cX8_number 30 = .ok (.bipush 57, 2) := by decide +kernel
theorem dX8_number_32 : decode cX8_number 32 = .ok (.invokevirtual 144, 3) := by decide +kernel
theorem dX8_number_35 : decode cX8_number 35 = .ok (.ifCond .eq 31, 3) := by decide +kernel
theorem dX8_number_38 : decode cX8_number 38 = .ok (.bipush 10, 2) := by decide +kernel
theorem dX8_number_40 : decode cX8_number 40 = .ok (.iload_n 1, 1) := by decide +kernel
theorem dX8_number_41 : decode cX8_number 41 = .ok (.imul, 1) := by decide +kernel
theorem dX8_number_42 : decode cX8_number 42 = .ok (.aload_n 0, 1) := by decide +kernel
theorem dX8_number_43 : decode cX8_number 43 = .ok (.getfield 29, 3) := by decide +kernel
theorem dX8_number_46 : decode cX8_number 46 = .ok (.aload_n 0, 1) := by decide +kernel
theorem dX8_number_47 : decode cX8_number 47 = .ok (.getfield 141, 3) := by decide +kernel
theorem dX8_number_50 : decode cX8_number 50 = .ok (.iaload, 1) := by decide +kernel
theorem dX8_number_51 : decode cX8_number 51 = .ok (.iadd, 1) := by decide +kernel
theorem dX8_number_52 : decode cX8_number 52 = .ok (.bipush 48, 2) := by decide +kernel
theorem dX8_number_54 : decode cX8_number 54 = .ok (.isub, 1) := by decide +kernel
theorem dX8_number_55 : decode cX8_number 55 = .ok (.istore_n 1, 1) := by decide +kernel
theorem dX8_number_56 : decode cX8_number 56 = .ok (.aload_n 0, 1) := by decide +kernel
theorem dX8_number_57 : decode cX8_number 57 = .ok (.dup, 1) := by decide +kernel
theorem dX8_number_58 : decode cX8_number 58 = .ok (.getfield 141, 3) := by decide +kernel
theorem dX8_number_61 : decode cX8_number 61 = .ok (.iconst 1, 1) := by decide +kernel
theorem dX8_number_62 : decode cX8_number 62 = .ok (.iadd, 1) := by decide +kernel
theorem dX8_number_63 : decode cX8_number 63 = .ok (.putfield 141, 3) := by decide +kernel
theorem dX8_number_66 : decode cX8_number 66 = .ok (.iload_n 1, 1) := by decide +kernel
theorem dX8_number_67 : decode cX8_number 67 = .ok (.ireturn, 1) := by decide +kernel
set_option maxRecDepth 20000 in
theorem ggX8_order_X8_sees : GoodIn wsX8_order wsX8_sees := goodIn_r _ [8, 1, 2, 3, 9, 10, 7, 11, 99, 100, 101, 102, 103, 104, 105, 106, 107, 108, 109, 110, 111] (by decide +kernel) (by decide +kernel)
set_option maxRecDepth 20000 in
theorem gX8_order_X8_sees : GoodIn wsX8_order (wsV RX8 144 RX8 yX8_sees wsX8_sees) := goodIn_app (goodIn_of _ (by decide +kernel)) ggX8_order_X8_sees
set_option maxRecDepth 20000 in
theorem ggX8_order_X8_number : GoodIn wsX8_order wsX8_number := goodIn_r _ [15, 3, 1, 4, 5, 6, 7, 8, 2, 9, 10, 11, 99, 100, 101, 102, 103, 104, 105, 106, 107, 108, 109, 110, 111] (by decide +kernel) (by decide +kernel)
set_option maxRecDepth 20000 in
theorem gX8_order_X8_number : GoodIn wsX8_order (wsV RX8 148 RX8 yX8_number wsX8_number) := goodIn_app (goodIn_of _ (by decide +kernel)) ggX8_order_X8_number
set_option maxRecDepth 20000 in
theorem ggX8_order_X8_comes : GoodIn wsX8_order wsX8_comes := goodIn_r _ [19, 20, 21, 22, 7, 23, 9, 10, 11, 24, 25, 26, 27, 28, 29, 30, 31, 32, 33, 34, 35, 99, 100, 101, 102, 103, 104, 105, 106, 107, 108, 109, 110, 111] (by decide +kernel) (by decide +kernel)
set_option maxRecDepth 20000 in
theorem gX8_order_X8_comes : GoodIn wsX8_order (wsV RX8 121 RX8 yX8_comes wsX8_comes) := goodIn_app (goodIn_of _ (by decide +kernel)) ggX8_order_X8_comes
set_option maxRecDepth 20000 in
theorem ggX8_order_X8_serves : GoodIn wsX8_order wsX8_serves := goodIn_r _ [39, 20, 40, 9, 10, 7, 11, 41, 42, 43, 44, 45, 46, 47, 48, 49, 50, 51, 52, 53, 54, 55, 56, 57, 58, 59, 28, 29, 30, 31, 60, 61, 62, 63, 64, 65, 66, 67, 68, 69, 70, 71, 72, 73, 74, 75, 76, 77, 78, 79, 80, 81, 82, 32, 33, 34, 35, 83, 84, 85, 86, 87, 88, 89, 90, 91, 92, 93, 94, 99, 100, 101, 102, 103, 104, 105, 106, 107, 108, 109, 110, 111] (by decide +kernel) (by decide +kernel)
set_option maxRecDepth 20000 in
theorem gX8_order_X8_serves : GoodIn wsX8_order (wsV RX8 127 RX8 yX8_serves wsX8_serves) := goodIn_app (goodIn_of _ (by decide +kernel)) ggX8_order_X8_serves
set_option maxRecDepth 20000 in
theorem ggX8_order_X8_waits : GoodIn wsX8_order wsX8_waits := goodIn_r _ [98, 20, 40, 9, 10, 7, 11, 99, 100, 101, 102, 103, 104, 105, 106, 107, 108, 109, 110, 111] (by decide +kernel) (by decide +kernel)
set_option maxRecDepth 20000 in
theorem gX8_order_X8_waits : GoodIn wsX8_order (wsV RX8 130 RX8 yX8_waits wsX8_waits) := goodIn_app (goodIn_of _ (by decide +kernel)) ggX8_order_X8_waits
theorem dX8_order_0 : decode cX8_order 0 = .ok (.aload_n 0, 1) := by decide +kernel
theorem dX8_order_1 : decode cX8_order 1 = .ok (.getfield 141, 3) := by decide +kernel
theorem dX8_order_4 : decode cX8_order 4 = .ok (.aload_n 0, 1) := by decide +kernel
theorem dX8_order_5 : decode cX8_order 5 = .ok (.getfield 136, 3) := by decide +kernel
theorem dX8_order_8 : decode cX8_order 8 = .ok (.if_icmp .ge 15, 3) := by decide +kernel
theorem dX8_order_11 : decode cX8_order 11 = .ok (.aload_n 0, 1) := by decide +kernel
theorem dX8_order_12 : decode cX8_order 12 = .ok (.getfield 29, 3) := by decide +kernel
theorem dX8_order_15 : decode cX8_order 15 = .ok (.aload_n 0, 1) := by decide +kernel
theorem dX8_order_16 : decode cX8_order 16 = .ok (.getfield 141, 3) := by decide +kernel
theorem dX8_order_19 : decode cX8_order 19 = .ok (.iaload, 1) := by decide +kernel
theorem dX8_order_20 : decode cX8_order 20 = .ok (.goto 4, 3) := by decide +kernel
theorem dX8_order_23 : decode cX8_order 23 = .ok (.iconst 0, 1) := by decide +kernel
theorem dX8_order_24 : decode cX8_order 24 = .ok (.istore_n 2, 1) := by decide +kernel
theorem dX8_order_25 : decode cX8_order 25 = .ok (.iload_n 2, 1) := by decide +kernel
theorem dX8_order_26 : decode cX8_order 26 = .ok (.bipush 114, 2) := by decide +kernel
theorem dX8_order_28 : decode cX8_order 28 = .ok (.if_icmp .eq 24, 3) := by decide +kernel
theorem dX8_order_31 : decode cX8_order 31 = .ok (.iload_n 2, 1) := by decide +kernel
theorem dX8_order_32 : decode cX8_order 32 = .ok (.bipush 119, 2) := by decide +kernel
theorem dX8_order_34 : decode cX8_order 34 = .ok (.if_icmp .eq 18, 3) := by decide +kernel
theorem dX8_order_37 : decode cX8_order 37 = .ok (.iload_n 2, 1) := by decide +kernel
theorem dX8_order_38 : decode cX8_order 38 = .ok (.bipush 115, 2) := by decide +kernel
theorem dX8_order_40 : decode cX8_order 40 = .ok (.if_icmp .eq 12, 3) := by decide +kernel
theorem dX8_order_43 : decode cX8_order 43 = .ok (.iload_n 2, 1) := by decide +kernel
theorem dX8_order_44 : decode cX8_order 44 = .ok (.bipush 116, 2) := by decide +kernel
theorem dX8_order_46 : decode cX8_order 46 = .ok (.if_icmp .eq 6, 3) := by decide +kernel
theorem dX8_order_49 : decode cX8_order 49 = .ok (.bipush (-3), 2) := by decide +kernel
theorem dX8_order_51 : decode cX8_order 51 = .ok (.ireturn, 1) := by decide +kernel
theorem dX8_order_52 : decode cX8_order 52 = .ok (.aload_n 0, 1) := by decide +kernel
theorem dX8_order_53 : decode cX8_order 53 = .ok (.dup, 1) := by decide +kernel
theorem dX8_order_54 : decode cX8_order 54 = .ok (.getfield 141, 3) := by decide +kernel
theorem dX8_order_57 : decode cX8_order 57 = .ok (.iconst 1, 1) := by decide +kernel
theorem dX8_order_58 : decode cX8_order 58 = .ok (.iadd, 1) := by decide +kernel
theorem dX8_order_59 : decode cX8_order 59 = .ok (.putfield 141, 3) := by decide +kernel
theorem dX8_order_62 : decode cX8_order 62 = .ok (.aload_n 0, 1) := by decide +kernel
theorem dX8_order_63 : decode cX8_order 63 = .ok (.bipush 48, 2) := by decide +kernel
theorem dX8_order_65 : decode cX8_order 65 = .ok (.bipush 57, 2) := by decide +kernel
theorem dX8_order_67 : decode cX8_order 67 = .ok (.invokevirtual 144, 3) := by decide +kernel
theorem dX8_order_70 : decode cX8_order 70 = .ok (.ifCond .ne 6, 3) := by decide +kernel
theorem dX8_order_73 : decode cX8_order 73 = .ok (.bipush (-3), 2) := by decide +kernel
theorem dX8_order_75 : decode cX8_order 75 = .ok (.ireturn, 1) := by decide +kernel
theorem dX8_order_76 : decode cX8_order 76 = .ok (.aload_n 0, 1) := by decide +kernel
theorem dX8_order_77 : decode cX8_order 77 = .ok (.invokevirtual 148, 3) := by decide +kernel
theorem dX8_order_80 : decode cX8_order 80 = .ok (.istore_n 3, 1) := by decide +kernel
theorem dX8_order_81 : decode cX8_order 81 = .ok (.iconst 0, 1) := by decide +kernel
theorem dX8_order_82 : decode cX8_order 82 = .ok (.istore 4, 2) := by decide +kernel
theorem dX8_order_84 : decode cX8_order 84 = .ok (.iload_n 2, 1) := by decide +kernel
theorem dX8_order_85 : decode cX8_order 85 = .ok (.bipush 114, 2) := by decide +kernel
theorem dX8_order_87 : decode cX8_order 87 = .ok (.if_icmp .eq 9, 3) := by decide +kernel
theorem dX8_order_90 : decode cX8_order 90 = .ok (.iload_n 2, 1) := by decide +kernel
theorem dX8_order_91 : decode cX8_order 91 = .ok (.bipush 119, 2) := by decide +kernel
theorem dX8_order_93 : decode cX8_order 93 = .ok (.if_icmp .ne 7, 3) := by decide +kernel
theorem dX8_order_96 : decode cX8_order 96 = .ok (.iconst 1, 1) := by decide +kernel
theorem dX8_order_97 : decode cX8_order 97 = .ok (.goto 4, 3) := by decide +kernel
theorem dX8_order_100 : decode cX8_order 100 = .ok (.iconst 0, 1) := by decide +kernel
theorem dX8_order_101 : decode cX8_order 101 = .ok (.istore 5, 2) := by decide +kernel
theorem dX8_order_103 : decode cX8_order 103 = .ok (.iload 5, 2) := by decide +kernel
theorem dX8_order_105 : decode cX8_order 105 = .ok (.ifCond .eq 62, 3) := by decide +kernel
theorem dX8_order_108 : decode cX8_order 108 = .ok (.aload_n 0, 1) := by decide +kernel
theorem dX8_order_109 : decode cX8_order 109 = .ok (.bipush 43, 2) := by decide +kernel
theorem dX8_order_111 : decode cX8_order 111 = .ok (.bipush 43, 2) := by decide +kernel
theorem dX8_order_113 : decode cX8_order 113 = .ok (.invokevirtual 144, 3) := by decide +kernel
theorem dX8_order_116 : decode cX8_order 116 = .ok (.ifCond .eq 51, 3) := by decide +kernel
theorem dX8_order_119 : decode cX8_order 119 = .ok (.aload_n 0, 1) := by decide +kernel
theorem dX8_order_120 : decode cX8_order 120 = .ok (.dup, 1) := by decide +kernel
theorem dX8_order_121 : decode cX8_order 121 = .ok (.getfield 141, 3) := by decide +kernel
theorem dX8_order_124 : decode cX8_order 124 = .ok (.iconst 1, 1) := by decide +kernel
theorem dX8_order_125 : decode cX8_order 125 = .ok (.iadd, 1) := by decide +kernel
theorem dX8_order_126 : decode cX8_order 126 = .ok (.putfield 141, 3) := by decide +kernel
theorem dX8_order_129 : decode cX8_order 129 = .ok (.aload_n 0, 1) := by decide +kernel
theorem dX8_order_130 : decode cX8_order 130 = .ok (.bipush 48, 2) := by decide +kernel
theorem dX8_order_132 : decode cX8_order 132 = .ok (.bipush 57, 2) := by decide +kernel
theorem dX8_order_134 : decode cX8_order 134 = .ok (.invokevirtual 144, 3) := by decide +kernel
theorem dX8_order_137 : decode cX8_order 137 = .ok (.ifCond .ne 6, 3) := by decide +kernel
theorem dX8_order_140 : decode cX8_order 140 = .ok (.bipush (-3), 2) := by decide +kernel
theorem dX8_order_142 : decode cX8_order 142 = .ok (.ireturn, 1) := by decide +kernel
theorem dX8_order_143 : decode cX8_order 143 = .ok (.aload_n 0, 1) := by decide +kernel
theorem dX8_order_144 : decode cX8_order 144 = .ok (.getfield 29, 3) := by decide +kernel
theorem dX8_order_147 : decode cX8_order 147 = .ok (.aload_n 0, 1) := by decide +kernel
theorem dX8_order_148 : decode cX8_order 148 = .ok (.getfield 141, 3) := by decide +kernel
theorem dX8_order_151 : decode cX8_order 151 = .ok (.iaload, 1) := by decide +kernel
theorem dX8_order_152 : decode cX8_order 152 = .ok (.bipush 48, 2) := by decide +kernel
theorem dX8_order_154 : decode cX8_order 154 = .ok (.isub, 1) := by decide +kernel
theorem dX8_order_155 : decode cX8_order 155 = .ok (.istore 4, 2) := by decide +kernel
theorem dX8_order_157 : decode cX8_order 157 = .ok (.aload_n 0, 1) := by decide +kernel
theorem dX8_order_158 : decode cX8_order 158 = .ok (.dup, 1) := by decide +kernel
theorem dX8_order_159 : decode cX8_order 159 = .ok (.getfield 141, 3) := by decide +kernel
theorem dX8_order_162 : decode cX8_order 162 = .ok (.iconst 1, 1) := by decide +kernel
theorem dX8_order_163 : decode cX8_order 163 = .ok (.iadd, 1) := by decide +kernel
theorem dX8_order_164 : decode cX8_order 164 = .ok (.putfield 141, 3) := by decide +kernel
theorem dX8_order_167 : decode cX8_order 167 = .ok (.iload_n 1, 1) := by decide +kernel
theorem dX8_order_168 : decode cX8_order 168 = .ok (.ifCond .ne 5, 3) := by decide +kernel
theorem dX8_order_171 : decode cX8_order 171 = .ok (.iconst 0, 1) := by decide +kernel
theorem dX8_order_172 : decode cX8_order 172 = .ok (.ireturn, 1) := by decide +kernel
theorem dX8_order_173 : decode cX8_order 173 = .ok (.iload 5, 2) := by decide +kernel
theorem dX8_order_175 : decode cX8_order 175 = .ok (.ifCond .eq 26, 3) := by decide +kernel
theorem dX8_order_178 : decode cX8_order 178 = .ok (.aload_n 0, 1) := by decide +kernel
theorem dX8_order_179 : decode cX8_order 179 = .ok (.iload_n 2, 1) := by decide +kernel
theorem dX8_order_180 : decode cX8_order 180 = .ok (.bipush 119, 2) := by decide +kernel
theorem dX8_order_182 : decode cX8_order 182 = .ok (.if_icmp .ne 7, 3) := by decide +kernel
theorem dX8_order_185 : decode cX8_order 185 = .ok (.iconst 1, 1) := by decide +kernel
theorem dX8_order_186 : decode cX8_order 186 = .ok (.goto 4, 3) := by decide +kernel
theorem dX8_order_189 : decode cX8_order 189 = .ok (.iconst 0, 1) := by decide +kernel
theorem dX8_order_190 : decode cX8_order 190 = .ok (.iload_n 3, 1) := by decide +kernel
theorem dX8_order_191 : decode cX8_order 191 = .ok (.iconst 1, 1) := by decide +kernel
theorem dX8_order_192 : decode cX8_order 192 = .ok (.iload 4, 2) := by decide +kernel
theorem dX8_order_194 : decode cX8_order 194 = .ok (.iadd, 1) := by decide +kernel
theorem dX8_order_195 : decode cX8_order 195 = .ok (.invokevirtual 121, 3) := by decide +kernel
theorem dX8_order_198 : decode cX8_order 198 = .ok (.goto 22, 3) := by decide +kernel
theorem dX8_order_201 : decode cX8_order 201 = .ok (.iload_n 2, 1) := by decide +kernel
theorem dX8_order_202 : decode cX8_order 202 = .ok (.bipush 115, 2) := by decide +kernel
theorem dX8_order_204 : decode cX8_order 204 = .ok (.if_icmp .ne 11, 3) := by decide +kernel
theorem dX8_order_207 : decode cX8_order 207 = .ok (.aload_n 0, 1) := by decide +kernel
theorem dX8_order_208 : decode cX8_order 208 = .ok (.iload_n 3, 1) := by decide +kernel
theorem dX8_order_209 : decode cX8_order 209 = .ok (.invokevirtual 127, 3) := by decide +kernel
theorem dX8_order_212 : decode cX8_order 212 = .ok (.goto 8, 3) := by decide +kernel
theorem dX8_order_215 : decode cX8_order 215 = .ok (.aload_n 0, 1) := by decide +kernel
theorem dX8_order_216 : decode cX8_order 216 = .ok (.iload_n 3, 1) := by decide +kernel
theorem dX8_order_217 : decode cX8_order 217 = .ok (.invokevirtual 130, 3) := by decide +kernel
theorem dX8_order_220 : decode cX8_order 220 = .ok (.ireturn, 1) := by decide +kernel
set_option maxRecDepth 20000 in
theorem ggX8_isWell_X8_order : GoodIn wsX8_isWell wsX8_order := goodIn_r _ [7, 1, 2, 8, 9, 10, 11, 6, 12, 13, 14, 15, 16, 17, 18, 19, 20, 21, 22, 23, 24, 25, 26, 27, 28, 29, 30, 31, 32, 33, 34, 35, 36, 37, 38, 39, 40, 41, 42, 43, 44, 45, 46, 47, 48, 49, 50, 51, 52, 53, 54, 55, 56, 57, 58, 59, 60, 61, 62, 63, 64, 65, 66, 67, 68, 69, 70, 71, 72, 73, 74, 75, 76, 77, 78, 79, 80, 81, 82, 83, 84, 85, 86, 87, 88, 89, 90, 91, 92, 93, 94, 95, 96, 97, 98, 99, 100, 101, 102, 103, 104, 105, 106, 107, 108, 109, 110, 111, 112, 113, 114, 115] (by decide +kernel) (by decide +kernel)
set_option maxRecDepth 20000 in
theorem gX8_isWell_X8_order : GoodIn wsX8_isWell (wsV RX8 151 RX8 yX8_order wsX8_order) := goodIn_app (goodIn_of _ (by decide +kernel)) ggX8_isWell_X8_order
set_option maxRecDepth 20000 in
theorem ggX8_isWell_X8_sees : GoodIn wsX8_isWell wsX8_sees := goodIn_r _ [12, 1, 2, 8, 13, 14, 6, 15, 103, 104, 105, 106, 107, 108, 109, 110, 111, 112, 113, 114, 115] (by decide +kernel) (by decide +kernel)
set_option maxRecDepth 20000 in
theorem gX8_isWell_X8_sees : GoodIn wsX8_isWell (wsV RX8 144 RX8 yX8_sees wsX8_sees) := goodIn_app (goodIn_of _ (by decide +kernel)) ggX8_isWell_X8_sees
theorem dX8_isWell_0 : decode cX8_isWell 0 = .ok (.aload_n 0, 1) := by decide +kernel
theorem dX8_isWell_1 : decode cX8_isWell 1 = .ok (.iconst 0, 1) := by decide +kernel
theorem dX8_isWell_2 : decode cX8_isWell 2 = .ok (.putfield 141, 3) := by decide +kernel
theorem dX8_isWell_5 : decode cX8_isWell 5 = .ok (.aload_n 0, 1) := by decide +kernel
theorem dX8_isWell_6 : decode cX8_isWell 6 = .ok (.iconst 0, 1) := by decide +kernel
theorem dX8_isWell_7 : decode cX8_isWell 7 = .ok (.invokevirtual 151, 3) := by decide +kernel
theorem dX8_isWell_10 : decode cX8_isWell 10 = .ok (.ifCond .ne 7, 3) := by decide +kernel
theorem dX8_isWell_13 : decode cX8_isWell 13 = .ok (.iconst 1, 1) := by decide +kernel
theorem dX8_isWell_14 : decode cX8_isWell 14 = .ok (.goto 4, 3) := by decide +kernel
theorem dX8_isWell_17 : decode cX8_isWell 17 = .ok (.iconst 0, 1) := by decide +kernel
theorem dX8_isWell_18 : decode cX8_isWell 18 = .ok (.istore_n 1, 1) := by decide +kernel
theorem dX8_isWell_19 : decode cX8_isWell 19 = .ok (.iload_n 1, 1) := by decide +kernel
theorem dX8_isWell_20 : decode cX8_isWell 20 = .ok (.ifCond .eq 62, 3) := by decide +kernel
theorem dX8_isWell_23 : decode cX8_isWell 23 = .ok (.aload_n 0, 1) := by decide +kernel
theorem dX8_isWell_24 : decode cX8_isWell 24 = .ok (.getfield 141, 3) := by decide +kernel
theorem dX8_isWell_27 : decode cX8_isWell 27 = .ok (.aload_n 0, 1) := by decide +kernel
theorem dX8_isWell_28 : decode cX8_isWell 28 = .ok (.getfield 136, 3) := by decide +kernel
theorem dX8_isWell_31 : decode cX8_isWell 31 = .ok (.if_icmp .ge 51, 3) := by decide +kernel
theorem dX8_isWell_34 : decode cX8_isWell 34 = .ok (.aload_n 0, 1) := by decide +kernel
theorem dX8_isWell_35 : decode cX8_isWell 35 = .ok (.bipush 59, 2) := by decide +kernel
theorem dX8_isWell_37 : decode cX8_isWell 37 = .ok (.bipush 59, 2) := by decide +kernel
theorem dX8_isWell_39 : decode cX8_isWell 39 = .ok (.invokevirtual 144, 3) := by decide +kernel
theorem dX8_isWell_42 : decode cX8_isWell 42 = .ok (.istore_n 1, 1) := by decide +kernel
theorem dX8_isWell_43 : decode cX8_isWell 43 = .ok (.aload_n 0, 1) := by decide +kernel
theorem dX8_isWell_44 : decode cX8_isWell 44 = .ok (.dup, 1) := by decide +kernel
theorem dX8_isWell_45 : decode cX8_isWell 45 = .ok (.getfield 141, 3) := by decide +kernel
theorem dX8_isWell_48 : decode cX8_isWell 48 = .ok (.iload_n 1, 1) := by decide +kernel
theorem dX8_isWell_49 : decode cX8_isWell 49 = .ok (.ifCond .eq 7, 3) := by decide +kernel
theorem dX8_isWell_52 : decode cX8_isWell 52 = .ok (.iconst 1, 1) := by decide +kernel
theorem dX8_isWell_53 : decode cX8_isWell 53 = .ok (.goto 4, 3) := by decide +kernel
theorem dX8_isWell_56 : decode cX8_isWell 56 = .ok (.iconst 0, 1) := by decide +kernel
theorem dX8_isWell_57 : decode cX8_isWell 57 = .ok (.iadd, 1) := by decide +kernel
theorem dX8_isWell_58 : decode cX8_isWell 58 = .ok (.putfield 141, 3) := by decide +kernel
theorem dX8_isWell_61 : decode cX8_isWell 61 = .ok (.iload_n 1, 1) := by decide +kernel
theorem dX8_isWell_62 : decode cX8_isWell 62 = .ok (.ifCond .eq 15, 3) := by decide +kernel
theorem dX8_isWell_65 : decode cX8_isWell 65 = .ok (.aload_n 0, 1) := by decide +kernel
theorem dX8_isWell_66 : decode cX8_isWell 66 = .ok (.iconst 0, 1) := by decide +kernel
theorem dX8_isWell_67 : decode cX8_isWell 67 = .ok (.invokevirtual 151, 3) := by decide +kernel
theorem dX8_isWell_70 : decode cX8_isWell 70 = .ok (.ifCond .ne 7, 3) := by decide +kernel
theorem dX8_isWell_73 : decode cX8_isWell 73 = .ok (.iconst 1, 1) := by decide +kernel
theorem dX8_isWell_74 : decode cX8_isWell 74 = .ok (.goto 4, 3) := by decide +kernel
theorem dX8_isWell_77 : decode cX8_isWell 77 = .ok (.iconst 0, 1) := by decide +kernel
theorem dX8_isWell_78 : decode cX8_isWell 78 = .ok (.istore_n 1, 1) := by decide +kernel
theorem dX8_isWell_79 : decode cX8_isWell 79 = .ok (.goto (-60), 3) := by decide +kernel
theorem dX8_isWell_82 : decode cX8_isWell 82 = .ok (.iload_n 1, 1) := by decide +kernel
theorem dX8_isWell_83 : decode cX8_isWell 83 = .ok (.ireturn, 1) := by decide +kernel
set_option maxRecDepth 20000 in
theorem ggX8_fault_X8_isWell : GoodIn wsX8_fault wsX8_isWell := goodIn_r _ [6, 1, 7, 8, 9, 10, 5, 11, 12, 13, 14, 15, 16, 17, 18, 19, 20, 21, 22, 23, 24, 25, 26, 27, 28, 29, 30, 31, 32, 33, 34, 35, 36, 37, 38, 39, 40, 41, 42, 43, 44, 45, 46, 47, 48, 49, 50, 51, 52, 53, 54, 55, 56, 57, 58, 59, 60, 61, 62, 63, 64, 65, 66, 67, 68, 69, 70, 71, 72, 73, 74, 75, 76, 77, 78, 79, 80, 81, 82, 83, 84, 85, 86, 87, 88, 89, 90, 91, 92, 93, 94, 95, 96, 97, 98, 99, 100, 101, 102, 103, 104, 105, 106, 107, 108, 109, 110, 111, 112, 113, 114, 115, 116, 117, 118, 119] (by decide +kernel) (by decide +kernel)
set_option maxRecDepth 20000 in
theorem gX8_fault_X8_isWell : GoodIn wsX8_fault (wsV RX8 155 RX8 yX8_isWell wsX8_isWell) := goodIn_app (goodIn_of _ (by decide +kernel)) ggX8_fault_X8_isWell
theorem dX8_fault_0 : decode cX8_fault 0 = .ok (.aload_n 0, 1) := by decide +kernel
theorem dX8_fault_1 : decode cX8_fault 1 = .ok (.invokevirtual 155, 3) := by decide +kernel
theorem dX8_fault_4 : decode cX8_fault 4 = .ok (.ifCond .eq 8, 3) := by decide +kernel
theorem dX8_fault_7 : decode cX8_fault 7 = .ok (.bipush (-6), 2) := by decide +kernel
theorem dX8_fault_9 : decode cX8_fault 9 = .ok (.goto 7, 3) := by decide +kernel
theorem dX8_fault_12 : decode cX8_fault 12 = .ok (.aload_n 0, 1) := by decide +kernel
theorem dX8_fault_13 : decode cX8_fault 13 = .ok (.getfield 141, 3) := by decide +kernel
theorem dX8_fault_16 : decode cX8_fault 16 = .ok (.ireturn, 1) := by decide +kernel
set_option maxRecDepth 20000 in
theorem ggX8_carryOut_X8_isWell : GoodIn wsX8_carryOut wsX8_isWell := goodIn_r _ [7, 1, 2, 8, 9, 10, 6, 11, 12, 13, 14, 15, 16, 17, 18, 19, 20, 21, 22, 23, 24, 25, 26, 27, 28, 29, 30, 31, 32, 33, 34, 35, 36, 37, 38, 39, 40, 41, 42, 43, 44, 45, 46, 47, 48, 49, 50, 51, 52, 53, 54, 55, 56, 57, 58, 59, 60, 61, 62, 63, 64, 65, 66, 67, 68, 69, 70, 71, 72, 73, 74, 75, 76, 77, 78, 79, 80, 81, 82, 83, 84, 85, 86, 87, 88, 89, 90, 91, 92, 93, 94, 95, 96, 97, 98, 99, 100, 101, 102, 103, 104, 105, 106, 118, 119, 120, 121, 122, 123, 124, 125, 126, 127, 128, 129, 130] (by decide +kernel) (by decide +kernel)
set_option maxRecDepth 20000 in
theorem gX8_carryOut_X8_isWell : GoodIn wsX8_carryOut (wsV RX8 155 RX8 yX8_isWell wsX8_isWell) := goodIn_app (goodIn_of _ (by decide +kernel)) ggX8_carryOut_X8_isWell
set_option maxRecDepth 20000 in
theorem ggX8_carryOut_X8_remember : GoodIn wsX8_carryOut wsX8_remember := goodIn_r _ [110, 111, 28, 118, 119, 120, 121, 122, 123, 124, 125, 126, 127, 128, 129, 130] (by decide +kernel) (by decide +kernel)
set_option maxRecDepth 20000 in
theorem gX8_carryOut_X8_remember : GoodIn wsX8_carryOut (wsV RX8 47 RX8 yX8_remember wsX8_remember) := goodIn_app (goodIn_of _ (by decide +kernel)) ggX8_carryOut_X8_remember
set_option maxRecDepth 20000 in
theorem ggX8_carryOut_X8_order : GoodIn wsX8_carryOut wsX8_order := goodIn_r _ [11, 1, 2, 12, 13, 14, 15, 6, 16, 17, 18, 19, 20, 21, 22, 23, 24, 25, 26, 27, 28, 29, 30, 31, 32, 33, 34, 35, 36, 37, 38, 39, 40, 41, 42, 43, 44, 45, 46, 47, 48, 49, 50, 51, 52, 53, 54, 55, 56, 57, 58, 59, 60, 61, 62, 63, 64, 65, 66, 67, 68, 69, 70, 71, 72, 73, 74, 75, 76, 77, 78, 79, 80, 81, 82, 83, 84, 85, 86, 87, 88, 89, 90, 91, 92, 93, 94, 95, 96, 97, 98, 99, 100, 101, 102, 103, 104, 105, 106, 118, 119, 120, 121, 122, 123, 124, 125, 126, 127, 128, 129, 130] (by decide +kernel) (by decide +kernel)
set_option maxRecDepth 20000 in
theorem gX8_carryOut_X8_order : GoodIn wsX8_carryOut (wsV RX8 151 RX8 yX8_order wsX8_order) := goodIn_app (goodIn_of _ (by decide +kernel)) ggX8_carryOut_X8_order
set_option maxRecDepth 20000 in
theorem ggX8_carryOut_X8_record : GoodIn wsX8_carryOut wsX8_record := goodIn_r _ [115, 116, 117, 111, 118, 119, 120, 121, 122, 123, 124, 125, 126, 127, 128, 129, 130] (by decide +kernel) (by decide +kernel)
set_option maxRecDepth 20000 in
theorem gX8_carryOut_X8_record : GoodIn wsX8_carryOut (wsV RX8 50 RX8 yX8_record wsX8_record) := goodIn_app (goodIn_of _ (by decide +kernel)) ggX8_carryOut_X8_record
theorem dX8_carryOut_0 : decode cX8_carryOut 0 = .ok (.aload_n 0, 1) := by decide +kernel
theorem dX8_carryOut_1 : decode cX8_carryOut 1 = .ok (.invokevirtual 155, 3) := by decide +kernel
theorem dX8_carryOut_4 : decode cX8_carryOut 4 = .ok (.ifCond .ne 6, 3) := by decide +kernel
theorem dX8_carryOut_7 : decode cX8_carryOut 7 = .ok (.bipush (-3), 2) := by decide +kernel
theorem dX8_carryOut_9 : decode cX8_carryOut 9 = .ok (.ireturn, 1) := by decide +kernel
theorem dX8_carryOut_10 : decode cX8_carryOut 10 = .ok (.aload_n 0, 1) := by decide +kernel
theorem dX8_carryOut_11 : decode cX8_carryOut 11 = .ok (.invokevirtual 47, 3) := by decide +kernel
theorem dX8_carryOut_14 : decode cX8_carryOut 14 = .ok (.aload_n 0, 1) := by decide +kernel
theorem dX8_carryOut_15 : decode cX8_carryOut 15 = .ok (.iconst 0, 1) := by decide +kernel
theorem dX8_carryOut_16 : decode cX8_carryOut 16 = .ok (.putfield 141, 3) := by decide +kernel
theorem dX8_carryOut_19 : decode cX8_carryOut 19 = .ok (.iconst 0, 1) := by decide +kernel
theorem dX8_carryOut_20 : decode cX8_carryOut 20 = .ok (.istore_n 1, 1) := by decide +kernel
theorem dX8_carryOut_21 : decode cX8_carryOut 21 = .ok (.iconst 1, 1) := by decide +kernel
theorem dX8_carryOut_22 : decode cX8_carryOut 22 = .ok (.istore_n 2, 1) := by decide +kernel
theorem dX8_carryOut_23 : decode cX8_carryOut 23 = .ok (.iload_n 2, 1) := by decide +kernel
theorem dX8_carryOut_24 : decode cX8_carryOut 24 = .ok (.ifCond .eq 53, 3) := by decide +kernel
theorem dX8_carryOut_27 : decode cX8_carryOut 27 = .ok (.aload_n 0, 1) := by decide +kernel
theorem dX8_carryOut_28 : decode cX8_carryOut 28 = .ok (.getfield 141, 3) := by decide +kernel
theorem dX8_carryOut_31 : decode cX8_carryOut 31 = .ok (.aload_n 0, 1) := by decide +kernel
theorem dX8_carryOut_32 : decode cX8_carryOut 32 = .ok (.getfield 136, 3) := by decide +kernel
theorem dX8_carryOut_35 : decode cX8_carryOut 35 = .ok (.if_icmp .ge 42, 3) := by decide +kernel
theorem dX8_carryOut_38 : decode cX8_carryOut 38 = .ok (.aload_n 0, 1) := by decide +kernel
theorem dX8_carryOut_39 : decode cX8_carryOut 39 = .ok (.iconst 1, 1) := by decide +kernel
theorem dX8_carryOut_40 : decode cX8_carryOut 40 = .ok (.invokevirtual 151, 3) := by decide +kernel
theorem dX8_carryOut_43 : decode cX8_carryOut 43 = .ok (.ifCond .lt 7, 3) := by decide +kernel
theorem dX8_carryOut_46 : decode cX8_carryOut 46 = .ok (.iconst 1, 1) := by decide +kernel
theorem dX8_carryOut_47 : decode cX8_carryOut 47 = .ok (.goto 4, 3) := by decide +kernel
theorem dX8_carryOut_50 : decode cX8_carryOut 50 = .ok (.iconst 0, 1) := by decide +kernel
theorem dX8_carryOut_51 : decode cX8_carryOut 51 = .ok (.istore_n 2, 1) := by decide +kernel
theorem dX8_carryOut_52 : decode cX8_carryOut 52 = .ok (.iload_n 1, 1) := by decide +kernel
theorem dX8_carryOut_53 : decode cX8_carryOut 53 = .ok (.iload_n 2, 1) := by decide +kernel
theorem dX8_carryOut_54 : decode cX8_carryOut 54 = .ok (.ifCond .eq 7, 3) := by decide +kernel
theorem dX8_carryOut_57 : decode cX8_carryOut 57 = .ok (.iconst 1, 1) := by decide +kernel
theorem dX8_carryOut_58 : decode cX8_carryOut 58 = .ok (.goto 4, 3) := by decide +kernel
theorem dX8_carryOut_61 : decode cX8_carryOut 61 = .ok (.iconst 0, 1) := by decide +kernel
theorem dX8_carryOut_62 : decode cX8_carryOut 62 = .ok (.iadd, 1) := by decide +kernel
theorem dX8_carryOut_63 : decode cX8_carryOut 63 = .ok (.istore_n 1, 1) := by decide +kernel
theorem dX8_carryOut_64 : decode cX8_carryOut 64 = .ok (.aload_n 0, 1) := by decide +kernel
theorem dX8_carryOut_65 : decode cX8_carryOut 65 = .ok (.dup, 1) := by decide +kernel
theorem dX8_carryOut_66 : decode cX8_carryOut 66 = .ok (.getfield 141, 3) := by decide +kernel
theorem dX8_carryOut_69 : decode cX8_carryOut 69 = .ok (.iconst 1, 1) := by decide +kernel
theorem dX8_carryOut_70 : decode cX8_carryOut 70 = .ok (.iadd, 1) := by decide +kernel
theorem dX8_carryOut_71 : decode cX8_carryOut 71 = .ok (.putfield 141, 3) := by decide +kernel
theorem dX8_carryOut_74 : decode cX8_carryOut 74 = .ok (.goto (-51), 3) := by decide +kernel
theorem dX8_carryOut_77 : decode cX8_carryOut 77 = .ok (.aload_n 0, 1) := by decide +kernel
theorem dX8_carryOut_78 : decode cX8_carryOut 78 = .ok (.iconst 0, 1) := by decide +kernel
theorem dX8_carryOut_79 : decode cX8_carryOut 79 = .ok (.putfield 136, 3) := by decide +kernel
theorem dX8_carryOut_82 : decode cX8_carryOut 82 = .ok (.aload_n 0, 1) := by decide +kernel
theorem dX8_carryOut_83 : decode cX8_carryOut 83 = .ok (.iload_n 1, 1) := by decide +kernel
theorem dX8_carryOut_84 : decode cX8_carryOut 84 = .ok (.invokevirtual 50, 3) := by decide +kernel
theorem dX8_carryOut_87 : decode cX8_carryOut 87 = .ok (.ireturn, 1) := by decide +kernel
theorem dJ9_abs_0f7a4_0 : decode cJ9_abs_0f7a4 0 = .ok (.iload_n 0, 1) := by decide +kernel
theorem dJ9_abs_0f7a4_1 : decode cJ9_abs_0f7a4 1 = .ok (.ifCond .ge 8, 3) := by decide +kernel
theorem dJ9_abs_0f7a4_4 : decode cJ9_abs_0f7a4 4 = .ok (.iload_n 0, 1) := by decide +kernel
theorem dJ9_abs_0f7a4_5 : decode cJ9_abs_0f7a4 5 = .ok (.ineg, 1) := by decide +kernel
theorem dJ9_abs_0f7a4_6 : decode cJ9_abs_0f7a4 6 = .ok (.goto 4, 3) := by decide +kernel
theorem dJ9_abs_0f7a4_9 : decode cJ9_abs_0f7a4 9 = .ok (.iload_n 0, 1) := by decide +kernel
theorem dJ9_abs_0f7a4_10 : decode cJ9_abs_0f7a4 10 = .ok (.ireturn, 1) := by decide +kernel
theorem dJ9_max_7cf53_0 : decode cJ9_max_7cf53 0 = .ok (.iload_n 0, 1) := by decide +kernel
theorem dJ9_max_7cf53_1 : decode cJ9_max_7cf53 1 = .ok (.iload_n 1, 1) := by decide +kernel
theorem dJ9_max_7cf53_2 : decode cJ9_max_7cf53 2 = .ok (.if_icmp .lt 7, 3) := by decide +kernel
theorem dJ9_max_7cf53_5 : decode cJ9_max_7cf53 5 = .ok (.iload_n 0, 1) := by decide +kernel
theorem dJ9_max_7cf53_6 : decode cJ9_max_7cf53 6 = .ok (.goto 4, 3) := by decide +kernel
theorem dJ9_max_7cf53_9 : decode cJ9_max_7cf53 9 = .ok (.iload_n 1, 1) := by decide +kernel
theorem dJ9_max_7cf53_10 : decode cJ9_max_7cf53 10 = .ok (.ireturn, 1) := by decide +kernel
theorem dJ9_min_7cf53_0 : decode cJ9_min_7cf53 0 = .ok (.iload_n 0, 1) := by decide +kernel
theorem dJ9_min_7cf53_1 : decode cJ9_min_7cf53 1 = .ok (.iload_n 1, 1) := by decide +kernel
theorem dJ9_min_7cf53_2 : decode cJ9_min_7cf53 2 = .ok (.if_icmp .gt 7, 3) := by decide +kernel
theorem dJ9_min_7cf53_5 : decode cJ9_min_7cf53 5 = .ok (.iload_n 0, 1) := by decide +kernel
theorem dJ9_min_7cf53_6 : decode cJ9_min_7cf53 6 = .ok (.goto 4, 3) := by decide +kernel
theorem dJ9_min_7cf53_9 : decode cJ9_min_7cf53 9 = .ok (.iload_n 1, 1) := by decide +kernel
theorem dJ9_min_7cf53_10 : decode cJ9_min_7cf53 10 = .ok (.ireturn, 1) := by decide +kernel
set_option maxRecDepth 20000 in
theorem ggL_law_X7_init : GoodIn wsL_law wsX7_init := goodIn_r _ [9, 10, 11, 12, 13, 14, 15, 16, 17, 18, 19, 20, 21, 22, 23, 24, 25, 26, 27, 28, 29, 30, 31, 32, 33, 34, 35, 36, 37, 38, 39, 40, 41, 42, 43, 44, 45, 46, 47, 48, 49, 50, 51, 52, 53, 54, 2, 55, 56, 57, 58, 59, 60, 61, 62, 63, 64, 65, 66, 67, 68, 69, 70, 71, 72, 73, 74, 75, 76, 77, 645, 646, 647, 648, 649, 650, 651, 652, 653, 654, 655, 656, 657, 658, 625, 626, 627, 628, 629, 630, 631, 659, 660, 661, 662, 663, 664, 665, 666, 667, 668, 669, 670, 671, 672, 673, 674, 675, 676, 677, 678, 679, 680, 681, 682] (by decide +kernel) (by decide +kernel)
set_option maxRecDepth 20000 in
theorem gL_law_X7_init : GoodIn wsL_law (wsX7_init) := ggL_law_X7_init
set_option maxRecDepth 20000 in
theorem ggL_law_X8_init : GoodIn wsL_law wsX8_init := goodIn_r _ [80, 81, 11, 12, 38, 82, 83, 84, 85, 86, 87, 88, 89, 90, 632, 633, 634, 635, 636, 637, 638, 639, 640, 641, 642, 643, 644] (by decide +kernel) (by decide +kernel)
set_option maxRecDepth 20000 in
theorem gL_law_X8_init : GoodIn wsL_law (wsX8_init) := ggL_law_X8_init
set_option maxRecDepth 20000 in
theorem ggL_law_X7_set : GoodIn wsL_law wsX7_set := goodIn_r _ [94, 21, 16, 95, 20, 96, 97, 98, 99, 100, 101, 102, 64, 103, 15, 104, 105, 39, 47, 43, 106, 107, 108, 109, 110, 111, 112, 113, 114, 115, 116, 54, 2, 55, 117, 46, 118, 119, 120, 121, 122, 123, 124, 125, 126, 127, 42, 128, 129, 51, 52, 53, 130, 131, 132, 133, 134, 135, 136, 137, 138, 139, 140, 141, 142, 143, 144, 145, 146, 147, 148, 149, 625, 626, 627, 628, 629, 630, 631, 659, 660, 661, 645, 646, 647, 648, 649, 650, 651, 652, 653, 654, 655, 656, 657, 658, 675, 676, 677, 678, 679, 680, 681, 682, 671, 672, 673, 674] (by decide +kernel) (by decide +kernel)
set_option maxRecDepth 20000 in
theorem gL_law_X7_set : GoodIn wsL_law (wsV RL 13 RX7 yX7_set wsX7_set) := goodIn_app (goodIn_of _ (by decide +kernel)) ggL_law_X7_set
set_option maxRecDepth 20000 in
theorem ggL_law_X8_set : GoodIn wsL_law wsX8_set := goodIn_r _ [153, 82, 154, 155, 5, 156, 157, 158, 159, 160, 161, 162, 163, 164, 165, 166, 84, 167, 168, 169, 170, 171, 83, 632, 633, 634, 635, 636, 637, 638, 639, 640, 641, 642, 643, 644] (by decide +kernel) (by decide +kernel)
set_option maxRecDepth 20000 in
theorem gL_law_X8_set : GoodIn wsL_law (wsV RL 17 RX8 yX8_set wsX8_set) := goodIn_app (goodIn_of _ (by decide +kernel)) ggL_law_X8_set
set_option maxRecDepth 20000 in
theorem ggL_law_X7_slip : GoodIn wsL_law wsX7_slip := goodIn_r _ [175, 21, 16, 95, 20, 96, 97, 98, 99, 100, 101, 102, 64, 103, 15, 104, 105, 39, 47, 43, 106, 107, 108, 109, 110, 111, 112, 113, 114, 115, 116, 54, 2, 55, 117, 46, 118, 119, 120, 121, 122, 123, 124, 125, 126, 127, 42, 128, 129, 51, 52, 53, 130, 176, 177, 178, 179, 180, 181, 182, 183, 184, 185, 186, 187, 188, 189, 190, 191, 192, 193, 194, 195, 196, 197, 198, 138, 139, 140, 141, 142, 143, 144, 145, 146, 147, 148, 149, 625, 626, 627, 628, 629, 630, 631, 659, 660, 661, 645, 646, 647, 648, 649, 650, 651, 652, 653, 654, 655, 656, 657, 658, 675, 676, 677, 678, 679, 680, 681, 682, 671, 672, 673, 674] (by decide +kernel) (by decide +kernel)
set_option maxRecDepth 20000 in
theorem gL_law_X7_slip : GoodIn wsL_law (wsV RL 18 RX7 yX7_slip wsX7_slip) := goodIn_app (goodIn_of _ (by decide +kernel)) ggL_law_X7_slip
set_option maxRecDepth 20000 in
theorem ggL_law_X8_slip : GoodIn wsL_law wsX8_slip := goodIn_r _ [202, 163, 164, 165, 5, 166, 84, 82, 203, 204, 205, 206, 207, 208, 209, 154, 155, 156, 210, 211, 212, 213, 214, 215, 216, 217, 218, 219, 220, 221, 167, 168, 169, 170, 171, 83, 632, 633, 634, 635, 636, 637, 638, 639, 640, 641, 642, 643, 644] (by decide +kernel) (by decide +kernel)
set_option maxRecDepth 20000 in
theorem gL_law_X8_slip : GoodIn wsL_law (wsV RL 22 RX8 yX8_slip wsX8_slip) := goodIn_app (goodIn_of _ (by decide +kernel)) ggL_law_X8_slip
set_option maxRecDepth 20000 in
theorem ggL_law_X7_tear : GoodIn wsL_law wsX7_tear := goodIn_r _ [225, 21, 16, 95, 20, 96, 97, 98, 99, 100, 101, 102, 64, 103, 15, 104, 105, 39, 47, 43, 106, 107, 108, 109, 110, 111, 112, 113, 114, 115, 116, 54, 2, 55, 117, 46, 118, 119, 120, 121, 122, 123, 124, 125, 126, 127, 42, 128, 129, 51, 52, 53, 130, 226, 227, 228, 229, 230, 231, 232, 233, 234, 235, 236, 195, 196, 197, 198, 237, 238, 239, 240, 138, 139, 140, 141, 142, 143, 144, 145, 146, 147, 148, 149, 625, 626, 627, 628, 629, 630, 631, 659, 660, 661, 645, 646, 647, 648, 649, 650, 651, 652, 653, 654, 655, 656, 657, 658, 675, 676, 677, 678, 679, 680, 681, 682, 671, 672, 673, 674] (by decide +kernel) (by decide +kernel)
set_option maxRecDepth 20000 in
theorem gL_law_X7_tear : GoodIn wsL_law (wsV RL 23 RX7 yX7_tear wsX7_tear) := goodIn_app (goodIn_of _ (by decide +kernel)) ggL_law_X7_tear
set_option maxRecDepth 20000 in
theorem ggL_law_X8_tear : GoodIn wsL_law wsX8_tear := goodIn_r _ [244, 82, 245, 246, 247, 5, 248, 214, 215, 216, 217, 163, 164, 165, 166, 84, 249, 250, 251, 252, 167, 168, 169, 170, 171, 83, 632, 633, 634, 635, 636, 637, 638, 639, 640, 641, 642, 643, 644] (by decide +kernel) (by decide +kernel)
set_option maxRecDepth 20000 in
theorem gL_law_X8_tear : GoodIn wsL_law (wsV RL 27 RX8 yX8_tear wsX8_tear) := goodIn_app (goodIn_of _ (by decide +kernel)) ggL_law_X8_tear
set_option maxRecDepth 20000 in
theorem ggL_law_X7_serve : GoodIn wsL_law wsX7_serve := goodIn_r _ [256, 21, 16, 95, 20, 96, 97, 98, 99, 100, 101, 102, 64, 103, 15, 104, 105, 39, 47, 43, 106, 107, 108, 109, 110, 111, 112, 113, 114, 115, 116, 54, 2, 55, 117, 46, 118, 119, 120, 121, 122, 123, 124, 125, 126, 127, 42, 128, 129, 51, 52, 53, 130, 257, 258, 259, 260, 261, 147, 148, 149, 17, 262, 263, 264, 265, 266, 267, 268, 269, 270, 271, 272, 273, 274, 275, 276, 136, 137, 277, 278, 279, 280, 185, 186, 187, 281, 282, 283, 284, 285, 286, 287, 288, 289, 290, 291, 292, 293, 294, 295, 237, 238, 239, 240, 296, 297, 298, 299, 300, 301, 302, 303, 304, 305, 306, 307, 308, 309, 310, 311, 312, 313, 314, 188, 189, 190, 233, 234, 235, 236, 195, 196, 197, 198, 315, 316, 317, 134, 135, 138, 139, 140, 141, 142, 143, 144, 145, 146, 625, 626, 627, 628, 629, 630, 631, 659, 660, 661, 645, 646, 647, 648, 649, 650, 651, 652, 653, 654, 655, 656, 657, 658, 675, 676, 677, 678, 679, 680, 681, 682, 671, 672, 673, 674] (by decide +kernel) (by decide +kernel)
set_option maxRecDepth 20000 in
theorem gL_law_X7_serve : GoodIn wsL_law (wsV RL 28 RX7 yX7_serve wsX7_serve) := goodIn_app (goodIn_of _ (by decide +kernel)) ggL_law_X7_serve
set_option maxRecDepth 20000 in
theorem ggL_law_X8_serve : GoodIn wsL_law wsX8_serve := goodIn_r _ [321, 163, 164, 165, 5, 166, 84, 82, 322, 323, 324, 325, 326, 154, 155, 156, 327, 328, 329, 330, 85, 331, 332, 333, 334, 335, 336, 337, 338, 339, 340, 341, 342, 343, 344, 214, 215, 216, 217, 345, 346, 347, 348, 349, 350, 351, 352, 353, 354, 355, 356, 357, 358, 359, 360, 361, 362, 363, 364, 365, 366, 367, 218, 219, 220, 221, 368, 369, 370, 371, 249, 250, 251, 252, 372, 373, 374, 375, 167, 168, 169, 170, 171, 83, 632, 633, 634, 635, 636, 637, 638, 639, 640, 641, 642, 643, 644] (by decide +kernel) (by decide +kernel)
set_option maxRecDepth 20000 in
theorem gL_law_X8_serve : GoodIn wsL_law (wsV RL 31 RX8 yX8_serve wsX8_serve) := goodIn_app (goodIn_of _ (by decide +kernel)) ggL_law_X8_serve
set_option maxRecDepth 20000 in
theorem ggL_law_X7_pass : GoodIn wsL_law wsX7_pass := goodIn_r _ [379, 21, 16, 95, 20, 96, 97, 98, 99, 100, 101, 102, 64, 103, 15, 104, 105, 39, 47, 43, 106, 107, 108, 109, 110, 111, 112, 113, 114, 115, 116, 54, 2, 55, 117, 46, 118, 119, 120, 121, 122, 123, 124, 125, 126, 127, 42, 128, 129, 51, 52, 53, 130, 380, 381, 382, 383, 138, 139, 140, 141, 142, 143, 144, 145, 146, 147, 148, 149, 625, 626, 627, 628, 629, 630, 631, 659, 660, 661, 645, 646, 647, 648, 649, 650, 651, 652, 653, 654, 655, 656, 657, 658, 675, 676, 677, 678, 679, 680, 681, 682, 671, 672, 673, 674] (by decide +kernel) (by decide +kernel)
set_option maxRecDepth 20000 in
theorem gL_law_X7_pass : GoodIn wsL_law (wsV RL 32 RX7 yX7_pass wsX7_pass) := goodIn_app (goodIn_of _ (by decide +kernel)) ggL_law_X7_pass
set_option maxRecDepth 20000 in
theorem ggL_law_X8_pass : GoodIn wsL_law wsX8_pass := goodIn_r _ [387, 163, 164, 165, 5, 166, 84, 82, 388, 389, 390, 391, 326, 154, 155, 156, 167, 168, 169, 170, 171, 83, 632, 633, 634, 635, 636, 637, 638, 639, 640, 641, 642, 643, 644] (by decide +kernel) (by decide +kernel)
set_option maxRecDepth 20000 in
theorem gL_law_X8_pass : GoodIn wsL_law (wsV RL 35 RX8 yX8_pass wsX8_pass) := goodIn_app (goodIn_of _ (by decide +kernel)) ggL_law_X8_pass
set_option maxRecDepth 20000 in
theorem ggL_law_X7_of : GoodIn wsL_law wsX7_of := goodIn_r _ [395, 16, 230, 15, 231, 232, 47, 188, 46, 189, 190, 123, 124, 238, 239, 240, 109, 293, 294, 295, 39, 237, 136, 2, 137, 625, 626, 627, 628, 629, 630, 631, 675, 676, 677, 678, 679, 680, 681, 682, 645, 646, 647, 648, 649, 650, 651, 652, 653, 654, 655, 656, 657, 658] (by decide +kernel) (by decide +kernel)
set_option maxRecDepth 20000 in
theorem gL_law_X7_of : GoodIn wsL_law (wsV RL 36 RX7 yX7_of wsX7_of) := goodIn_app (goodIn_of _ (by decide +kernel)) ggL_law_X7_of
set_option maxRecDepth 20000 in
theorem ggL_law_X8_of : GoodIn wsL_law wsX8_of := goodIn_r _ [399, 82, 245, 246, 247, 5, 248, 214, 215, 216, 217, 218, 219, 220, 221, 357, 358, 359, 360, 632, 633, 634, 635, 636, 637, 638, 639, 640, 641, 642, 643, 644] (by decide +kernel) (by decide +kernel)
set_option maxRecDepth 20000 in
theorem gL_law_X8_of : GoodIn wsL_law (wsV RL 39 RX8 yX8_of wsX8_of) := goodIn_app (goodIn_of _ (by decide +kernel)) ggL_law_X8_of
set_option maxRecDepth 20000 in
theorem ggL_law_X7_waiting : GoodIn wsL_law wsX7_waiting := goodIn_r _ [403, 16, 404, 15, 405, 406, 47, 185, 46, 186, 187, 120, 122, 407, 408, 409, 410, 281, 282, 283, 123, 121, 625, 626, 627, 628, 629, 630, 631, 675, 676, 677, 678, 679, 680, 681, 682, 645, 646, 647, 648, 649, 650, 651, 652, 653, 654, 655, 656, 657, 658] (by decide +kernel) (by decide +kernel)
set_option maxRecDepth 20000 in
theorem gL_law_X7_waiting : GoodIn wsL_law (wsV RL 40 RX7 yX7_waiting wsX7_waiting) := goodIn_app (goodIn_of _ (by decide +kernel)) ggL_law_X7_waiting
set_option maxRecDepth 20000 in
theorem ggL_law_X8_waiting : GoodIn wsL_law wsX8_waiting := goodIn_r _ [414, 82, 154, 155, 5, 156, 214, 215, 216, 217, 415, 416, 417, 418, 632, 633, 634, 635, 636, 637, 638, 639, 640, 641, 642, 643, 644] (by decide +kernel) (by decide +kernel)
set_option maxRecDepth 20000 in
theorem gL_law_X8_waiting : GoodIn wsL_law (wsV RL 43 RX8 yX8_waiting wsX8_waiting) := goodIn_app (goodIn_of _ (by decide +kernel)) ggL_law_X8_waiting
set_option maxRecDepth 20000 in
theorem ggL_law_X7_log : GoodIn wsL_law wsX7_log := goodIn_r _ [422, 16, 423, 42, 424, 425, 130, 426, 427, 428, 51, 429, 430, 431, 432, 136, 2, 137, 433, 434, 435, 52, 436, 437, 438, 53, 625, 626, 627, 628, 629, 630, 631, 645, 646, 647, 648, 649, 650, 651, 652, 653, 654, 655, 656, 657, 658, 671, 672, 673, 674] (by decide +kernel) (by decide +kernel)
set_option maxRecDepth 20000 in
theorem gL_law_X7_log : GoodIn wsL_law (wsV RL 44 RX7 yX7_log wsX7_log) := goodIn_app (goodIn_of _ (by decide +kernel)) ggL_law_X7_log
set_option maxRecDepth 20000 in
theorem ggL_law_X8_log : GoodIn wsL_law wsX8_log := goodIn_r _ [442, 82, 154, 155, 5, 156, 632, 633, 634, 635, 636, 637, 638, 639, 640, 641, 642, 643, 644] (by decide +kernel) (by decide +kernel)
set_option maxRecDepth 20000 in
theorem gL_law_X8_log : GoodIn wsL_law (wsV RL 47 RX8 yX8_log wsX8_log) := goodIn_app (goodIn_of _ (by decide +kernel)) ggL_law_X8_log
set_option maxRecDepth 20000 in
theorem ggL_law_X7_count : GoodIn wsL_law wsX7_count := goodIn_r _ [446, 30, 21, 16, 447, 15, 448, 449, 109, 106, 107, 110, 43, 111, 112, 113, 115, 116, 39, 134, 2, 135, 136, 137, 625, 626, 627, 628, 629, 630, 631, 664, 665, 659, 660, 661, 645, 646, 647, 648, 649, 650, 651, 652, 653, 654, 655, 656, 657, 658, 671, 672, 673, 674] (by decide +kernel) (by decide +kernel)
set_option maxRecDepth 20000 in
theorem gL_law_X7_count : GoodIn wsL_law (wsV RL 48 RX7 yX7_count wsX7_count) := goodIn_app (goodIn_of _ (by decide +kernel)) ggL_law_X7_count
set_option maxRecDepth 20000 in
theorem ggL_law_X8_count : GoodIn wsL_law wsX8_count := goodIn_r _ [453, 82, 454, 171, 154, 155, 5, 156, 349, 350, 351, 352, 214, 215, 216, 217, 632, 633, 634, 635, 636, 637, 638, 639, 640, 641, 642, 643, 644] (by decide +kernel) (by decide +kernel)
set_option maxRecDepth 20000 in
theorem gL_law_X8_count : GoodIn wsL_law (wsV RL 51 RX8 yX8_count wsX8_count) := goodIn_app (goodIn_of _ (by decide +kernel)) ggL_law_X8_count
set_option maxRecDepth 20000 in
theorem ggL_law_X7_next : GoodIn wsL_law wsX7_next := goodIn_r _ [458, 16, 274, 15, 275, 276, 113, 115, 39, 114, 110, 136, 2, 137, 277, 278, 279, 280, 47, 185, 46, 186, 187, 120, 122, 281, 282, 283, 123, 121, 284, 285, 286, 287, 107, 106, 116, 288, 289, 290, 291, 292, 293, 294, 295, 237, 238, 239, 240, 109, 297, 298, 299, 305, 306, 307, 308, 309, 310, 311, 312, 313, 148, 314, 625, 626, 627, 628, 629, 630, 631, 675, 676, 677, 678, 679, 680, 681, 682, 645, 646, 647, 648, 649, 650, 651, 652, 653, 654, 655, 656, 657, 658] (by decide +kernel) (by decide +kernel)
set_option maxRecDepth 20000 in
theorem gL_law_X7_next : GoodIn wsL_law (wsV RL 52 RX7 yX7_next wsX7_next) := goodIn_app (goodIn_of _ (by decide +kernel)) ggL_law_X7_next
set_option maxRecDepth 20000 in
theorem ggL_law_X8_next : GoodIn wsL_law wsX8_next := goodIn_r _ [462, 82, 335, 336, 154, 155, 5, 156, 337, 338, 339, 340, 341, 342, 343, 344, 214, 215, 216, 217, 345, 346, 347, 348, 349, 350, 351, 352, 353, 354, 355, 356, 357, 358, 359, 360, 361, 362, 363, 364, 365, 366, 367, 632, 633, 634, 635, 636, 637, 638, 639, 640, 641, 642, 643, 644] (by decide +kernel) (by decide +kernel)
set_option maxRecDepth 20000 in
theorem gL_law_X8_next : GoodIn wsL_law (wsV RL 55 RX8 yX8_next wsX8_next) := goodIn_app (goodIn_of _ (by decide +kernel)) ggL_law_X8_next
set_option maxRecDepth 20000 in
theorem ggL_law_X7_servedIn : GoodIn wsL_law wsX7_servedIn := goodIn_r _ [466, 16, 17, 230, 15, 231, 232, 47, 103, 104, 105, 39, 43, 106, 107, 108, 109, 110, 111, 112, 113, 114, 115, 116, 54, 2, 55, 117, 46, 118, 119, 120, 121, 122, 123, 124, 125, 126, 127, 42, 128, 129, 51, 52, 53, 130, 266, 267, 268, 269, 147, 148, 149, 270, 271, 272, 273, 274, 275, 276, 136, 137, 277, 278, 279, 280, 185, 186, 187, 281, 282, 283, 284, 285, 286, 287, 288, 289, 290, 291, 292, 293, 294, 295, 237, 238, 239, 240, 296, 297, 298, 299, 300, 301, 302, 303, 304, 305, 306, 307, 308, 309, 310, 311, 312, 313, 314, 188, 189, 190, 233, 234, 235, 236, 195, 196, 197, 198, 315, 316, 317, 134, 135, 625, 626, 627, 628, 629, 630, 631, 645, 646, 647, 648, 649, 650, 651, 652, 653, 654, 655, 656, 657, 658, 675, 676, 677, 678, 679, 680, 681, 682, 671, 672, 673, 674] (by decide +kernel) (by decide +kernel)
set_option maxRecDepth 20000 in
theorem gL_law_X7_servedIn : GoodIn wsL_law (wsV RL 56 RX7 yX7_servedIn wsX7_servedIn) := goodIn_app (goodIn_of _ (by decide +kernel)) ggL_law_X7_servedIn
set_option maxRecDepth 20000 in
theorem ggL_law_X8_servedIn : GoodIn wsL_law wsX8_servedIn := goodIn_r _ [470, 82, 245, 246, 247, 5, 248, 214, 215, 216, 217, 327, 328, 329, 330, 85, 331, 332, 333, 334, 335, 336, 337, 338, 339, 340, 341, 342, 343, 344, 345, 346, 347, 348, 349, 350, 351, 352, 353, 354, 355, 356, 357, 358, 359, 360, 361, 362, 363, 364, 365, 366, 367, 218, 219, 220, 221, 368, 369, 370, 371, 249, 250, 251, 252, 372, 373, 374, 375, 632, 633, 634, 635, 636, 637, 638, 639, 640, 641, 642, 643, 644] (by decide +kernel) (by decide +kernel)
set_option maxRecDepth 20000 in
theorem gL_law_X8_servedIn : GoodIn wsL_law (wsV RL 59 RX8 yX8_servedIn wsX8_servedIn) := goodIn_app (goodIn_of _ (by decide +kernel)) ggL_law_X8_servedIn
set_option maxRecDepth 20000 in
theorem ggL_law_X7_all : GoodIn wsL_law wsX7_all := goodIn_r _ [474, 16, 17, 263, 15, 264, 265, 106, 107, 103, 104, 105, 39, 47, 43, 108, 109, 110, 111, 112, 113, 114, 115, 116, 54, 2, 55, 117, 46, 118, 119, 120, 121, 122, 123, 124, 125, 126, 127, 42, 128, 129, 51, 52, 53, 130, 266, 267, 268, 269, 147, 148, 149, 270, 271, 272, 273, 274, 275, 276, 136, 137, 277, 278, 279, 280, 185, 186, 187, 281, 282, 283, 284, 285, 286, 287, 288, 289, 290, 291, 292, 293, 294, 295, 237, 238, 239, 240, 296, 297, 298, 299, 300, 301, 302, 303, 304, 305, 306, 307, 308, 309, 310, 311, 312, 313, 314, 188, 189, 190, 233, 234, 235, 236, 195, 196, 197, 198, 315, 316, 317, 134, 135, 625, 626, 627, 628, 629, 630, 631, 645, 646, 647, 648, 649, 650, 651, 652, 653, 654, 655, 656, 657, 658, 675, 676, 677, 678, 679, 680, 681, 682, 671, 672, 673, 674] (by decide +kernel) (by decide +kernel)
set_option maxRecDepth 20000 in
theorem gL_law_X7_all : GoodIn wsL_law (wsV RL 60 RX7 yX7_all wsX7_all) := goodIn_app (goodIn_of _ (by decide +kernel)) ggL_law_X7_all
set_option maxRecDepth 20000 in
theorem ggL_law_X8_all : GoodIn wsL_law wsX8_all := goodIn_r _ [478, 82, 154, 155, 5, 156, 327, 328, 329, 330, 85, 331, 332, 333, 334, 335, 336, 337, 338, 339, 340, 341, 342, 343, 344, 214, 215, 216, 217, 345, 346, 347, 348, 349, 350, 351, 352, 353, 354, 355, 356, 357, 358, 359, 360, 361, 362, 363, 364, 365, 366, 367, 218, 219, 220, 221, 368, 369, 370, 371, 249, 250, 251, 252, 372, 373, 374, 375, 632, 633, 634, 635, 636, 637, 638, 639, 640, 641, 642, 643, 644] (by decide +kernel) (by decide +kernel)
set_option maxRecDepth 20000 in
theorem gL_law_X8_all : GoodIn wsL_law (wsV RL 63 RX8 yX8_all wsX8_all) := goodIn_app (goodIn_of _ (by decide +kernel)) ggL_law_X8_all
set_option maxRecDepth 20000 in
theorem ggL_law_X7_joined : GoodIn wsL_law wsX7_joined := goodIn_r _ [482, 16, 483, 179, 2, 180, 182, 15, 183, 184, 47, 185, 46, 186, 187, 120, 122, 188, 189, 190, 123, 124, 625, 626, 627, 628, 629, 630, 631, 675, 676, 677, 678, 679, 680, 681, 682, 645, 646, 647, 648, 649, 650, 651, 652, 653, 654, 655, 656, 657, 658] (by decide +kernel) (by decide +kernel)
set_option maxRecDepth 20000 in
theorem gL_law_X7_joined : GoodIn wsL_law (wsV RL 64 RX7 yX7_joined wsX7_joined) := goodIn_app (goodIn_of _ (by decide +kernel)) ggL_law_X7_joined
set_option maxRecDepth 20000 in
theorem ggL_law_X8_joined : GoodIn wsL_law wsX8_joined := goodIn_r _ [487, 207, 208, 5, 209, 154, 155, 156, 210, 211, 212, 213, 82, 214, 215, 216, 217, 218, 219, 220, 221, 632, 633, 634, 635, 636, 637, 638, 639, 640, 641, 642, 643, 644] (by decide +kernel) (by decide +kernel)
set_option maxRecDepth 20000 in
theorem gL_law_X8_joined : GoodIn wsL_law (wsV RL 67 RX8 yX8_joined wsX8_joined) := goodIn_app (goodIn_of _ (by decide +kernel)) ggL_law_X8_joined
set_option maxRecDepth 20000 in
theorem ggL_law_X7_put : GoodIn wsL_law wsX7_put := goodIn_r _ [491, 30, 492, 29, 493, 494, 495, 496, 497, 498, 499, 500, 501, 502, 73, 134, 2, 135, 625, 626, 627, 628, 629, 630, 631, 664, 665] (by decide +kernel) (by decide +kernel)
set_option maxRecDepth 20000 in
theorem gL_law_X7_put : GoodIn wsL_law (wsV RL 70 RX7 yX7_put wsX7_put) := goodIn_app (goodIn_of _ (by decide +kernel)) ggL_law_X7_put
set_option maxRecDepth 20000 in
theorem ggL_law_X8_put : GoodIn wsL_law wsX8_put := goodIn_r _ [506, 90, 507, 454, 89, 154, 155, 5, 156, 632, 633, 634, 635, 636, 637, 638, 639, 640, 641, 642, 643, 644] (by decide +kernel) (by decide +kernel)
set_option maxRecDepth 20000 in
theorem gL_law_X8_put : GoodIn wsL_law (wsV RL 74 RX8 yX8_put wsX8_put) := goodIn_app (goodIn_of _ (by decide +kernel)) ggL_law_X8_put
set_option maxRecDepth 20000 in
theorem ggL_law_X7_wipe : GoodIn wsL_law wsX7_wipe := goodIn_r _ [511, 30, 512, 29, 513, 514, 495, 625, 626, 627, 628, 629, 630, 631, 664, 665] (by decide +kernel) (by decide +kernel)
set_option maxRecDepth 20000 in
theorem gL_law_X7_wipe : GoodIn wsL_law (wsV RL 75 RX7 yX7_wipe wsX7_wipe) := goodIn_app (goodIn_of _ (by decide +kernel)) ggL_law_X7_wipe
set_option maxRecDepth 20000 in
theorem ggL_law_X8_wipe : GoodIn wsL_law wsX8_wipe := goodIn_r _ [518, 454, 632, 633, 634, 635, 636, 637, 638, 639, 640, 641, 642, 643, 644] (by decide +kernel) (by decide +kernel)
set_option maxRecDepth 20000 in
theorem gL_law_X8_wipe : GoodIn wsL_law (wsV RL 79 RX8 yX8_wipe wsX8_wipe) := goodIn_app (goodIn_of _ (by decide +kernel)) ggL_law_X8_wipe
set_option maxRecDepth 20000 in
theorem ggL_law_X7_fault : GoodIn wsL_law wsX7_fault := goodIn_r _ [522, 34, 523, 33, 524, 525, 526, 77, 527, 528, 529, 530, 531, 532, 533, 534, 535, 536, 537, 29, 538, 539, 495, 73, 136, 2, 137, 540, 541, 542, 543, 544, 545, 546, 547, 548, 549, 550, 551, 552, 553, 554, 555, 556, 557, 558, 559, 560, 625, 626, 627, 628, 629, 630, 631, 666, 667, 668, 669, 670, 664, 665] (by decide +kernel) (by decide +kernel)
set_option maxRecDepth 20000 in
theorem gL_law_X7_fault : GoodIn wsL_law (wsV RL 80 RX7 yX7_fault wsX7_fault) := goodIn_app (goodIn_of _ (by decide +kernel)) ggL_law_X7_fault
set_option maxRecDepth 20000 in
theorem ggL_law_X8_fault : GoodIn wsL_law wsX8_fault := goodIn_r _ [564, 565, 566, 567, 568, 5, 569, 454, 570, 571, 572, 573, 89, 574, 575, 576, 577, 154, 155, 156, 578, 579, 580, 581, 203, 204, 205, 206, 82, 207, 208, 209, 210, 211, 212, 213, 214, 215, 216, 217, 218, 219, 220, 221, 322, 323, 324, 325, 326, 327, 328, 329, 330, 85, 331, 332, 333, 334, 335, 336, 337, 338, 339, 340, 341, 342, 343, 344, 345, 346, 347, 348, 349, 350, 351, 352, 353, 354, 355, 356, 357, 358, 359, 360, 361, 362, 363, 364, 365, 366, 367, 368, 369, 370, 371, 249, 250, 251, 252, 372, 373, 374, 375, 388, 389, 390, 391, 632, 633, 634, 635, 636, 637, 638, 639, 640, 641, 642, 643, 644] (by decide +kernel) (by decide +kernel)
set_option maxRecDepth 20000 in
theorem gL_law_X8_fault : GoodIn wsL_law (wsV RL 83 RX8 yX8_fault wsX8_fault) := goodIn_app (goodIn_of _ (by decide +kernel)) ggL_law_X8_fault
set_option maxRecDepth 20000 in
theorem ggL_law_X7_carryOut : GoodIn wsL_law wsX7_carryOut := goodIn_r _ [585, 34, 21, 16, 30, 523, 33, 524, 525, 526, 77, 527, 528, 529, 530, 531, 532, 533, 534, 535, 536, 537, 29, 538, 539, 495, 73, 136, 2, 137, 540, 541, 542, 543, 544, 545, 546, 547, 548, 549, 550, 551, 552, 553, 554, 555, 556, 557, 558, 559, 560, 95, 20, 96, 97, 98, 99, 100, 101, 102, 64, 103, 15, 104, 105, 39, 47, 43, 106, 107, 108, 109, 110, 111, 112, 113, 114, 115, 116, 54, 55, 117, 46, 118, 119, 120, 121, 122, 123, 124, 125, 126, 127, 42, 128, 129, 51, 52, 53, 130, 586, 587, 588, 589, 176, 177, 178, 179, 180, 181, 182, 183, 184, 185, 186, 187, 188, 189, 190, 191, 192, 193, 194, 195, 196, 197, 198, 257, 258, 259, 260, 261, 147, 148, 149, 17, 262, 263, 264, 265, 266, 267, 268, 269, 270, 271, 272, 273, 274, 275, 276, 277, 278, 279, 280, 281, 282, 283, 284, 285, 286, 287, 288, 289, 290, 291, 292, 293, 294, 295, 237, 238, 239, 240, 296, 297, 298, 299, 300, 301, 302, 303, 304, 305, 306, 307, 308, 309, 310, 311, 312, 313, 314, 233, 234, 235, 236, 315, 316, 317, 134, 135, 380, 381, 382, 383, 512, 513, 514, 138, 139, 140, 141, 142, 143, 144, 145, 146, 625, 626, 627, 628, 629, 630, 631, 666, 667, 668, 669, 670, 664, 665, 659, 660, 661, 645, 646, 647, 648, 649, 650, 651, 652, 653, 654, 655, 656, 657, 658, 675, 676, 677, 678, 679, 680, 681, 682, 671, 672, 673, 674] (by decide +kernel) (by decide +kernel)
set_option maxRecDepth 20000 in
theorem gL_law_X7_carryOut : GoodIn wsL_law (wsV RL 84 RX7 yX7_carryOut wsX7_carryOut) := goodIn_app (goodIn_of _ (by decide +kernel)) ggL_law_X7_carryOut
set_option maxRecDepth 20000 in
theorem ggL_law_X8_carryOut : GoodIn wsL_law wsX8_carryOut := goodIn_r _ [593, 565, 454, 566, 567, 568, 5, 569, 570, 571, 572, 573, 89, 574, 575, 576, 577, 154, 155, 156, 578, 579, 580, 581, 203, 204, 205, 206, 82, 207, 208, 209, 210, 211, 212, 213, 214, 215, 216, 217, 218, 219, 220, 221, 322, 323, 324, 325, 326, 327, 328, 329, 330, 85, 331, 332, 333, 334, 335, 336, 337, 338, 339, 340, 341, 342, 343, 344, 345, 346, 347, 348, 349, 350, 351, 352, 353, 354, 355, 356, 357, 358, 359, 360, 361, 362, 363, 364, 365, 366, 367, 368, 369, 370, 371, 249, 250, 251, 252, 372, 373, 374, 375, 388, 389, 390, 391, 163, 164, 165, 166, 84, 167, 168, 169, 170, 171, 83, 632, 633, 634, 635, 636, 637, 638, 639, 640, 641, 642, 643, 644] (by decide +kernel) (by decide +kernel)
set_option maxRecDepth 20000 in
theorem gL_law_X8_carryOut : GoodIn wsL_law (wsV RL 87 RX8 yX8_carryOut wsX8_carryOut) := goodIn_app (goodIn_of _ (by decide +kernel)) ggL_law_X8_carryOut
set_option maxRecDepth 20000 in
theorem ggL_law_X7_undo : GoodIn wsL_law wsX7_undo := goodIn_r _ [597, 21, 16, 598, 20, 599, 600, 98, 145, 99, 100, 101, 102, 64, 103, 15, 104, 105, 39, 47, 43, 106, 107, 108, 109, 110, 111, 112, 113, 114, 115, 116, 54, 2, 55, 117, 46, 118, 119, 120, 121, 122, 123, 124, 125, 126, 127, 42, 128, 129, 51, 52, 53, 130, 625, 626, 627, 628, 629, 630, 631, 659, 660, 661, 645, 646, 647, 648, 649, 650, 651, 652, 653, 654, 655, 656, 657, 658, 675, 676, 677, 678, 679, 680, 681, 682, 671, 672, 673, 674] (by decide +kernel) (by decide +kernel)
set_option maxRecDepth 20000 in
theorem gL_law_X7_undo : GoodIn wsL_law (wsV RL 88 RX7 yX7_undo wsX7_undo) := goodIn_app (goodIn_of _ (by decide +kernel)) ggL_law_X7_undo
set_option maxRecDepth 20000 in
theorem ggL_law_X8_undo : GoodIn wsL_law wsX8_undo := goodIn_r _ [604, 171, 82, 83, 632, 633, 634, 635, 636, 637, 638, 639, 640, 641, 642, 643, 644] (by decide +kernel) (by decide +kernel)
set_option maxRecDepth 20000 in
theorem gL_law_X8_undo : GoodIn wsL_law (wsV RL 91 RX8 yX8_undo wsX8_undo) := goodIn_app (goodIn_of _ (by decide +kernel)) ggL_law_X8_undo
set_option maxRecDepth 20000 in
theorem ggL_law_X7_save : GoodIn wsL_law wsX7_save := goodIn_r _ [608, 16, 609, 610, 611, 2, 612, 25, 26, 103, 15, 104, 105, 39, 47, 43, 106, 107, 108, 109, 110, 111, 112, 113, 114, 115, 116, 54, 55, 117, 46, 118, 119, 120, 121, 122, 123, 124, 125, 126, 127, 42, 128, 129, 51, 52, 53, 130, 263, 264, 265, 662, 663, 625, 626, 627, 628, 629, 630, 631, 645, 646, 647, 648, 649, 650, 651, 652, 653, 654, 655, 656, 657, 658, 675, 676, 677, 678, 679, 680, 681, 682, 671, 672, 673, 674] (by decide +kernel) (by decide +kernel)
set_option maxRecDepth 20000 in
theorem gL_law_X7_save : GoodIn wsL_law (wsV RL 92 RX7 yX7_save wsX7_save) := goodIn_app (goodIn_of _ (by decide +kernel)) ggL_law_X7_save
set_option maxRecDepth 20000 in
theorem ggL_law_X8_save : GoodIn wsL_law wsX8_save := goodIn_r _ [616, 86, 82, 88, 154, 155, 5, 156, 632, 633, 634, 635, 636, 637, 638, 639, 640, 641, 642, 643, 644] (by decide +kernel) (by decide +kernel)
set_option maxRecDepth 20000 in
theorem gL_law_X8_save : GoodIn wsL_law (wsV RL 95 RX8 yX8_save wsX8_save) := goodIn_app (goodIn_of _ (by decide +kernel)) ggL_law_X8_save
set_option maxRecDepth 20000 in
theorem ggL_law_X7_restore : GoodIn wsL_law wsX7_restore := goodIn_r _ [620, 21, 16, 609, 610, 611, 2, 612, 25, 26, 95, 20, 96, 97, 98, 99, 100, 101, 102, 64, 103, 15, 104, 105, 39, 47, 43, 106, 107, 108, 109, 110, 111, 112, 113, 114, 115, 116, 54, 55, 117, 46, 118, 119, 120, 121, 122, 123, 124, 125, 126, 127, 42, 128, 129, 51, 52, 53, 130, 263, 264, 265, 138, 139, 140, 141, 142, 143, 144, 145, 146, 147, 148, 149, 662, 663, 625, 626, 627, 628, 629, 630, 631, 659, 660, 661, 645, 646, 647, 648, 649, 650, 651, 652, 653, 654, 655, 656, 657, 658, 675, 676, 677, 678, 679, 680, 681, 682, 671, 672, 673, 674] (by decide +kernel) (by decide +kernel)
set_option maxRecDepth 20000 in
theorem gL_law_X7_restore : GoodIn wsL_law (wsV RL 96 RX7 yX7_restore wsX7_restore) := goodIn_app (goodIn_of _ (by decide +kernel)) ggL_law_X7_restore
set_option maxRecDepth 20000 in
theorem ggL_law_X8_restore : GoodIn wsL_law wsX8_restore := goodIn_r _ [624, 88, 82, 86, 154, 155, 5, 156, 163, 164, 165, 166, 84, 167, 168, 169, 170, 171, 83, 632, 633, 634, 635, 636, 637, 638, 639, 640, 641, 642, 643, 644] (by decide +kernel) (by decide +kernel)
set_option maxRecDepth 20000 in
theorem gL_law_X8_restore : GoodIn wsL_law (wsV RL 99 RX8 yX8_restore wsX8_restore) := goodIn_app (goodIn_of _ (by decide +kernel)) ggL_law_X8_restore
theorem dL_law_0 : decode cL_law 0 = .ok (.new 7, 3) := by decide +kernel
theorem dL_law_3 : decode cL_law 3 = .ok (.dup, 1) := by decide +kernel
theorem dL_law_4 : decode cL_law 4 = .ok (.invokespecial 9, 3) := by decide +kernel
theorem dL_law_7 : decode cL_law 7 = .ok (.astore_n 1, 1) := by decide +kernel
theorem dL_law_8 : decode cL_law 8 = .ok (.new 10, 3) := by decide +kernel
theorem dL_law_11 : decode cL_law 11 = .ok (.dup, 1) := by decide +kernel
theorem dL_law_12 : decode cL_law 12 = .ok (.invokespecial 12, 3) := by decide +kernel
theorem dL_law_15 : decode cL_law 15 = .ok (.astore_n 2, 1) := by decide +kernel
theorem dL_law_16 : decode cL_law 16 = .ok (.iconst 0, 1) := by decide +kernel
theorem dL_law_17 : decode cL_law 17 = .ok (.istore_n 3, 1) := by decide +kernel
theorem dL_law_18 : decode cL_law 18 = .ok (.iload_n 3, 1) := by decide +kernel
theorem dL_law_19 : decode cL_law 19 = .ok (.aload_n 0, 1) := by decide +kernel
theorem dL_law_20 : decode cL_law 20 = .ok (.arraylength, 1) := by decide +kernel
theorem dL_law_21 : decode cL_law 21 = .ok (.iconst 4, 1) := by decide +kernel
theorem dL_law_22 : decode cL_law 22 = .ok (.isub, 1) := by decide +kernel
theorem dL_law_23 : decode cL_law 23 = .ok (.if_icmp .gt 641, 3) := by decide +kernel
theorem dL_law_26 : decode cL_law 26 = .ok (.aload_n 0, 1) := by decide +kernel
theorem dL_law_27 : decode cL_law 27 = .ok (.iload_n 3, 1) := by decide +kernel
theorem dL_law_28 : decode cL_law 28 = .ok (.iaload, 1) := by decide +kernel
theorem dL_law_29 : decode cL_law 29 = .ok (.bipush 31, 2) := by decide +kernel
theorem dL_law_31 : decode cL_law 31 = .ok (.iand, 1) := by decide +kernel
theorem dL_law_32 : decode cL_law 32 = .ok (.tableswitch 626 0 19 #[96, 129, 172, 195, 218, 241, 274, 307, 340, 363, 386, 409, 432, 475, 528, 541, 554, 567, 580, 603], 96) := by decide +kernel
theorem dL_law_128 : decode cL_law 128 = .ok (.aload_n 1, 1) := by decide +kernel
theorem dL_law_129 : decode cL_law 129 = .ok (.aload_n 0, 1) := by decide +kernel
theorem dL_law_130 : decode cL_law 130 = .ok (.iload_n 3, 1) := by decide +kernel
theorem dL_law_131 : decode cL_law 131 = .ok (.iconst 1, 1) := by decide +kernel
theorem dL_law_132 : decode cL_law 132 = .ok (.iadd, 1) := by decide +kernel
theorem dL_law_133 : decode cL_law 133 = .ok (.iaload, 1) := by decide +kernel
theorem dL_law_134 : decode cL_law 134 = .ok (.aload_n 0, 1) := by decide +kernel
theorem dL_law_135 : decode cL_law 135 = .ok (.iload_n 3, 1) := by decide +kernel
theorem dL_law_136 : decode cL_law 136 = .ok (.iconst 2, 1) := by decide +kernel
theorem dL_law_137 : decode cL_law 137 = .ok (.iadd, 1) := by decide +kernel
theorem dL_law_138 : decode cL_law 138 = .ok (.iaload, 1) := by decide +kernel
theorem dL_law_139 : decode cL_law 139 = .ok (.invokevirtual 13, 3) := by decide +kernel
theorem dL_law_142 : decode cL_law 142 = .ok (.aload_n 2, 1) := by decide +kernel
theorem dL_law_143 : decode cL_law 143 = .ok (.aload_n 0, 1) := by decide +kernel
theorem dL_law_144 : decode cL_law 144 = .ok (.iload_n 3, 1) := by decide +kernel
theorem dL_law_145 : decode cL_law 145 = .ok (.iconst 1, 1) := by decide +kernel
theorem dL_law_146 : decode cL_law 146 = .ok (.iadd, 1) := by decide +kernel
theorem dL_law_147 : decode cL_law 147 = .ok (.iaload, 1) := by decide +kernel
theorem dL_law_148 : decode cL_law 148 = .ok (.aload_n 0, 1) := by decide +kernel
theorem dL_law_149 : decode cL_law 149 = .ok (.iload_n 3, 1) := by decide +kernel
theorem dL_law_150 : decode cL_law 150 = .ok (.iconst 2, 1) := by decide +kernel
theorem dL_law_151 : decode cL_law 151 = .ok (.iadd, 1) := by decide +kernel
theorem dL_law_152 : decode cL_law 152 = .ok (.iaload, 1) := by decide +kernel
theorem dL_law_153 : decode cL_law 153 = .ok (.invokevirtual 17, 3) := by decide +kernel
theorem dL_law_156 : decode cL_law 156 = .ok (.if_icmp .eq 502, 3) := by decide +kernel
theorem dL_law_159 : decode cL_law 159 = .ok (.iconst 0, 1) := by decide +kernel
theorem dL_law_160 : decode cL_law 160 = .ok (.ireturn, 1) := by decide +kernel
theorem dL_law_161 : decode cL_law 161 = .ok (.aload_n 1, 1) := by decide +kernel
theorem dL_law_162 : decode cL_law 162 = .ok (.aload_n 0, 1) := by decide +kernel
theorem dL_law_163 : decode cL_law 163 = .ok (.iload_n 3, 1) := by decide +kernel
theorem dL_law_164 : decode cL_law 164 = .ok (.iconst 1, 1) := by decide +kernel
theorem dL_law_165 : decode cL_law 165 = .ok (.iadd, 1) := by decide +kernel
theorem dL_law_166 : decode cL_law 166 = .ok (.iaload, 1) := by decide +kernel
theorem dL_law_167 : decode cL_law 167 = .ok (.aload_n 0, 1) := by decide +kernel
theorem dL_law_168 : decode cL_law 168 = .ok (.iload_n 3, 1) := by decide +kernel
theorem dL_law_169 : decode cL_law 169 = .ok (.iconst 2, 1) := by decide +kernel
theorem dL_law_170 : decode cL_law 170 = .ok (.iadd, 1) := by decide +kernel
theorem dL_law_171 : decode cL_law 171 = .ok (.iaload, 1) := by decide +kernel
theorem dL_law_172 : decode cL_law 172 = .ok (.aload_n 0, 1) := by decide +kernel
theorem dL_law_173 : decode cL_law 173 = .ok (.iload_n 3, 1) := by decide +kernel
theorem dL_law_174 : decode cL_law 174 = .ok (.iconst 3, 1) := by decide +kernel
theorem dL_law_175 : decode cL_law 175 = .ok (.iadd, 1) := by decide +kernel
theorem dL_law_176 : decode cL_law 176 = .ok (.iaload, 1) := by decide +kernel
theorem dL_law_177 : decode cL_law 177 = .ok (.invokevirtual 18, 3) := by decide +kernel
theorem dL_law_180 : decode cL_law 180 = .ok (.aload_n 2, 1) := by decide +kernel
theorem dL_law_181 : decode cL_law 181 = .ok (.aload_n 0, 1) := by decide +kernel
theorem dL_law_182 : decode cL_law 182 = .ok (.iload_n 3, 1) := by decide +kernel
theorem dL_law_183 : decode cL_law 183 = .ok (.iconst 1, 1) := by decide +kernel
theorem dL_law_184 : decode cL_law 184 = .ok (.iadd, 1) := by decide +kernel
theorem dL_law_185 : decode cL_law 185 = .ok (.iaload, 1) := by decide +kernel
theorem dL_law_186 : decode cL_law 186 = .ok (.aload_n 0, 1) := by decide +kernel
theorem dL_law_187 : decode cL_law 187 = .ok (.iload_n 3, 1) := by decide +kernel
theorem dL_law_188 : decode cL_law 188 = .ok (.iconst 2, 1) := by decide +kernel
theorem dL_law_189 : decode cL_law 189 = .ok (.iadd, 1) := by decide +kernel
theorem dL_law_190 : decode cL_law 190 = .ok (.iaload, 1) := by decide +kernel
theorem dL_law_191 : decode cL_law 191 = .ok (.aload_n 0, 1) := by decide +kernel
theorem dL_law_192 : decode cL_law 192 = .ok (.iload_n 3, 1) := by decide +kernel
theorem dL_law_193 : decode cL_law 193 = .ok (.iconst 3, 1) := by decide +kernel
theorem dL_law_194 : decode cL_law 194 = .ok (.iadd, 1) := by decide +kernel
theorem dL_law_195 : decode cL_law 195 = .ok (.iaload, 1) := by decide +kernel
theorem dL_law_196 : decode cL_law 196 = .ok (.invokevirtual 22, 3) := by decide +kernel
theorem dL_law_199 : decode cL_law 199 = .ok (.if_icmp .eq 459, 3) := by decide +kernel
theorem dL_law_202 : decode cL_law 202 = .ok (.iconst 0, 1) := by decide +kernel
theorem dL_law_203 : decode cL_law 203 = .ok (.ireturn, 1) := by decide +kernel
theorem dL_law_204 : decode cL_law 204 = .ok (.aload_n 1, 1) := by decide +kernel
theorem dL_law_205 : decode cL_law 205 = .ok (.aload_n 0, 1) := by decide +kernel
theorem dL_law_206 : decode cL_law 206 = .ok (.iload_n 3, 1) := by decide +kernel
theorem dL_law_207 : decode cL_law 207 = .ok (.iconst 1, 1) := by decide +kernel
theorem dL_law_208 : decode cL_law 208 = .ok (.iadd, 1) := by decide +kernel
theorem dL_law_209 : decode cL_law 209 = .ok (.iaload, 1) := by decide +kernel
theorem dL_law_210 : decode cL_law 210 = .ok (.invokevirtual 23, 3) := by decide +kernel
theorem dL_law_213 : decode cL_law 213 = .ok (.aload_n 2, 1) := by decide +kernel
theorem dL_law_214 : decode cL_law 214 = .ok (.aload_n 0, 1) := by decide +kernel
theorem dL_law_215 : decode cL_law 215 = .ok (.iload_n 3, 1) := by decide +kernel
theorem dL_law_216 : decode cL_law 216 = .ok (.iconst 1, 1) := by decide +kernel
theorem dL_law_217 : decode cL_law 217 = .ok (.iadd, 1) := by decide +kernel
theorem dL_law_218 : decode cL_law 218 = .ok (.iaload, 1) := by decide +kernel
theorem dL_law_219 : decode cL_law 219 = .ok (.invokevirtual 27, 3) := by decide +kernel
theorem dL_law_222 : decode cL_law 222 = .ok (.if_icmp .eq 436, 3) := by decide +kernel
theorem dL_law_225 : decode cL_law 225 = .ok (.iconst 0, 1) := by decide +kernel
theorem dL_law_226 : decode cL_law 226 = .ok (.ireturn, 1) := by decide +kernel
theorem dL_law_227 : decode cL_law 227 = .ok (.aload_n 1, 1) := by decide +kernel
theorem dL_law_228 : decode cL_law 228 = .ok (.aload_n 0, 1) := by decide +kernel
theorem dL_law_229 : decode cL_law 229 = .ok (.iload_n 3, 1) := by decide +kernel
theorem dL_law_230 : decode cL_law 230 = .ok (.iconst 1, 1) := by decide +kernel
theorem dL_law_231 : decode cL_law 231 = .ok (.iadd, 1) := by decide +kernel
theorem dL_law_232 : decode cL_law 232 = .ok (.iaload, 1) := by decide +kernel
theorem dL_law_233 : decode cL_law 233 = .ok (.invokevirtual 28, 3) := by decide +kernel
theorem dL_law_236 : decode cL_law 236 = .ok (.aload_n 2, 1) := by decide +kernel
theorem dL_law_237 : decode cL_law 237 = .ok (.aload_n 0, 1) := by decide +kernel
theorem dL_law_238 : decode cL_law 238 = .ok (.iload_n 3, 1) := by decide +kernel
theorem dL_law_239 : decode cL_law 239 = .ok (.iconst 1, 1) := by decide +kernel
theorem dL_law_240 : decode cL_law 240 = .ok (.iadd, 1) := by decide +kernel
theorem dL_law_241 : decode cL_law 241 = .ok (.iaload, 1) := by decide +kernel
theorem dL_law_242 : decode cL_law 242 = .ok (.invokevirtual 31, 3) := by decide +kernel
theorem dL_law_245 : decode cL_law 245 = .ok (.if_icmp .eq 413, 3) := by decide +kernel
theorem dL_law_248 : decode cL_law 248 = .ok (.iconst 0, 1) := by decide +kernel
theorem dL_law_249 : decode cL_law 249 = .ok (.ireturn, 1) := by decide +kernel
theorem dL_law_250 : decode cL_law 250 = .ok (.aload_n 1, 1) := by decide +kernel
theorem dL_law_251 : decode cL_law 251 = .ok (.aload_n 0, 1) := by decide +kernel
theorem dL_law_252 : decode cL_law 252 = .ok (.iload_n 3, 1) := by decide +kernel
theorem dL_law_253 : decode cL_law 253 = .ok (.iconst 1, 1) := by decide +kernel
theorem dL_law_254 : decode cL_law 254 = .ok (.iadd, 1) := by decide +kernel
theorem dL_law_255 : decode cL_law 255 = .ok (.iaload, 1) := by decide +kernel
theorem dL_law_256 : decode cL_law 256 = .ok (.invokevirtual 32, 3) := by decide +kernel
theorem dL_law_259 : decode cL_law 259 = .ok (.aload_n 2, 1) := by decide +kernel
theorem dL_law_260 : decode cL_law 260 = .ok (.aload_n 0, 1) := by decide +kernel
theorem dL_law_261 : decode cL_law 261 = .ok (.iload_n 3, 1) := by decide +kernel
theorem dL_law_262 : decode cL_law 262 = .ok (.iconst 1, 1) := by decide +kernel
theorem dL_law_263 : decode cL_law 263 = .ok (.iadd, 1) := by decide +kernel
theorem dL_law_264 : decode cL_law 264 = .ok (.iaload, 1) := by decide +kernel
theorem dL_law_265 : decode cL_law 265 = .ok (.invokevirtual 35, 3) := by decide +kernel
theorem dL_law_268 : decode cL_law 268 = .ok (.if_icmp .eq 390, 3) := by decide +kernel
theorem dL_law_271 : decode cL_law 271 = .ok (.iconst 0, 1) := by decide +kernel
theorem dL_law_272 : decode cL_law 272 = .ok (.ireturn, 1) := by decide +kernel
theorem dL_law_273 : decode cL_law 273 = .ok (.aload_n 1, 1) := by decide +kernel
theorem dL_law_274 : decode cL_law 274 = .ok (.aload_n 0, 1) := by decide +kernel
theorem dL_law_275 : decode cL_law 275 = .ok (.iload_n 3, 1) := by decide +kernel
theorem dL_law_276 : decode cL_law 276 = .ok (.iconst 1, 1) := by decide +kernel
theorem dL_law_277 : decode cL_law 277 = .ok (.iadd, 1) := by decide +kernel
theorem dL_law_278 : decode cL_law 278 = .ok (.iaload, 1) := by decide +kernel
theorem dL_law_279 : decode cL_law 279 = .ok (.aload_n 0, 1) := by decide +kernel
theorem dL_law_280 : decode cL_law 280 = .ok (.iload_n 3, 1) := by decide +kernel
theorem dL_law_281 : decode cL_law 281 = .ok (.iconst 2, 1) := by decide +kernel
theorem dL_law_282 : decode cL_law 282 = .ok (.iadd, 1) := by decide +kernel
theorem dL_law_283 : decode cL_law 283 = .ok (.iaload, 1) := by decide +kernel
theorem dL_law_284 : decode cL_law 284 = .ok (.invokevirtual 36, 3) := by decide +kernel
theorem dL_law_287 : decode cL_law 287 = .ok (.aload_n 2, 1) := by decide +kernel
theorem dL_law_288 : decode cL_law 288 = .ok (.aload_n 0, 1) := by decide +kernel
theorem dL_law_289 : decode cL_law 289 = .ok (.iload_n 3, 1) := by decide +kernel
theorem dL_law_290 : decode cL_law 290 = .ok (.iconst 1, 1) := by decide +kernel
theorem dL_law_291 : decode cL_law 291 = .ok (.iadd, 1) := by decide +kernel
theorem dL_law_292 : decode cL_law 292 = .ok (.iaload, 1) := by decide +kernel
theorem dL_law_293 : decode cL_law 293 = .ok (.aload_n 0, 1) := by decide +kernel
theorem dL_law_294 : decode cL_law 294 = .ok (.iload_n 3, 1) := by decide +kernel
theorem dL_law_295 : decode cL_law 295 = .ok (.iconst 2, 1) := by decide +kernel
theorem dL_law_296 : decode cL_law 296 = .ok (.iadd, 1) := by decide +kernel
theorem dL_law_297 : decode cL_law 297 = .ok (.iaload, 1) := by decide +kernel
theorem dL_law_298 : decode cL_law 298 = .ok (.invokevirtual 39, 3) := by decide +kernel
theorem dL_law_301 : decode cL_law 301 = .ok (.if_icmp .eq 357, 3) := by decide +kernel
theorem dL_law_304 : decode cL_law 304 = .ok (.iconst 0, 1) := by decide +kernel
theorem dL_law_305 : decode cL_law 305 = .ok (.ireturn, 1) := by decide +kernel
theorem dL_law_306 : decode cL_law 306 = .ok (.aload_n 1, 1) := by decide +kernel
theorem dL_law_307 : decode cL_law 307 = .ok (.aload_n 0, 1) := by decide +kernel
theorem dL_law_308 : decode cL_law 308 = .ok (.iload_n 3, 1) := by decide +kernel
theorem dL_law_309 : decode cL_law 309 = .ok (.iconst 1, 1) := by decide +kernel
theorem dL_law_310 : decode cL_law 310 = .ok (.iadd, 1) := by decide +kernel
theorem dL_law_311 : decode cL_law 311 = .ok (.iaload, 1) := by decide +kernel
theorem dL_law_312 : decode cL_law 312 = .ok (.aload_n 0, 1) := by decide +kernel
theorem dL_law_313 : decode cL_law 313 = .ok (.iload_n 3, 1) := by decide +kernel
theorem dL_law_314 : decode cL_law 314 = .ok (.iconst 2, 1) := by decide +kernel
theorem dL_law_315 : decode cL_law 315 = .ok (.iadd, 1) := by decide +kernel
theorem dL_law_316 : decode cL_law 316 = .ok (.iaload, 1) := by decide +kernel
theorem dL_law_317 : decode cL_law 317 = .ok (.invokevirtual 40, 3) := by decide +kernel
theorem dL_law_320 : decode cL_law 320 = .ok (.aload_n 2, 1) := by decide +kernel
theorem dL_law_321 : decode cL_law 321 = .ok (.aload_n 0, 1) := by decide +kernel
theorem dL_law_322 : decode cL_law 322 = .ok (.iload_n 3, 1) := by decide +kernel
theorem dL_law_323 : decode cL_law 323 = .ok (.iconst 1, 1) := by decide +kernel
theorem dL_law_324 : decode cL_law 324 = .ok (.iadd, 1) := by decide +kernel
theorem dL_law_325 : decode cL_law 325 = .ok (.iaload, 1) := by decide +kernel
theorem dL_law_326 : decode cL_law 326 = .ok (.aload_n 0, 1) := by decide +kernel
theorem dL_law_327 : decode cL_law 327 = .ok (.iload_n 3, 1) := by decide +kernel
theorem dL_law_328 : decode cL_law 328 = .ok (.iconst 2, 1) := by decide +kernel
theorem dL_law_329 : decode cL_law 329 = .ok (.iadd, 1) := by decide +kernel
theorem dL_law_330 : decode cL_law 330 = .ok (.iaload, 1) := by decide +kernel
theorem dL_law_331 : decode cL_law 331 = .ok (.invokevirtual 43, 3) := by decide +kernel
theorem dL_law_334 : decode cL_law 334 = .ok (.if_icmp .eq 324, 3) := by decide +kernel
theorem dL_law_337 : decode cL_law 337 = .ok (.iconst 0, 1) := by decide +kernel
theorem dL_law_338 : decode cL_law 338 = .ok (.ireturn, 1) := by decide +kernel
theorem dL_law_339 : decode cL_law 339 = .ok (.aload_n 1, 1) := by decide +kernel
theorem dL_law_340 : decode cL_law 340 = .ok (.aload_n 0, 1) := by decide +kernel
theorem dL_law_341 : decode cL_law 341 = .ok (.iload_n 3, 1) := by decide +kernel
theorem dL_law_342 : decode cL_law 342 = .ok (.iconst 1, 1) := by decide +kernel
theorem dL_law_343 : decode cL_law 343 = .ok (.iadd, 1) := by decide +kernel
theorem dL_law_344 : decode cL_law 344 = .ok (.iaload, 1) := by decide +kernel
theorem dL_law_345 : decode cL_law 345 = .ok (.aload_n 0, 1) := by decide +kernel
theorem dL_law_346 : decode cL_law 346 = .ok (.iload_n 3, 1) := by decide +kernel
theorem dL_law_347 : decode cL_law 347 = .ok (.iconst 2, 1) := by decide +kernel
theorem dL_law_348 : decode cL_law 348 = .ok (.iadd, 1) := by decide +kernel
theorem dL_law_349 : decode cL_law 349 = .ok (.iaload, 1) := by decide +kernel
theorem dL_law_350 : decode cL_law 350 = .ok (.invokevirtual 44, 3) := by decide +kernel
theorem dL_law_353 : decode cL_law 353 = .ok (.aload_n 2, 1) := by decide +kernel
theorem dL_law_354 : decode cL_law 354 = .ok (.aload_n 0, 1) := by decide +kernel
theorem dL_law_355 : decode cL_law 355 = .ok (.iload_n 3, 1) := by decide +kernel
theorem dL_law_356 : decode cL_law 356 = .ok (.iconst 1, 1) := by decide +kernel
theorem dL_law_357 : decode cL_law 357 = .ok (.iadd, 1) := by decide +kernel
theorem dL_law_358 : decode cL_law 358 = .ok (.iaload, 1) := by decide +kernel
theorem dL_law_359 : decode cL_law 359 = .ok (.aload_n 0, 1) := by decide +kernel
theorem dL_law_360 : decode cL_law 360 = .ok (.iload_n 3, 1) := by decide +kernel
theorem dL_law_361 : decode cL_law 361 = .ok (.iconst 2, 1) := by decide +kernel
theorem dL_law_362 : decode cL_law 362 = .ok (.iadd, 1) := by decide +kernel
theorem dL_law_363 : decode cL_law 363 = .ok (.iaload, 1) := by decide +kernel
theorem dL_law_364 : decode cL_law 364 = .ok (.invokevirtual 47, 3) := by decide +kernel
theorem dL_law_367 : decode cL_law 367 = .ok (.if_icmp .eq 291, 3) := by decide +kernel
theorem dL_law_370 : decode cL_law 370 = .ok (.iconst 0, 1) := by decide +kernel
theorem dL_law_371 : decode cL_law 371 = .ok (.ireturn, 1) := by decide +kernel
theorem dL_law_372 : decode cL_law 372 = .ok (.aload_n 1, 1) := by decide +kernel
theorem dL_law_373 : decode cL_law 373 = .ok (.aload_n 0, 1) := by decide +kernel
theorem dL_law_374 : decode cL_law 374 = .ok (.iload_n 3, 1) := by decide +kernel
theorem dL_law_375 : decode cL_law 375 = .ok (.iconst 1, 1) := by decide +kernel
theorem dL_law_376 : decode cL_law 376 = .ok (.iadd, 1) := by decide +kernel
theorem dL_law_377 : decode cL_law 377 = .ok (.iaload, 1) := by decide +kernel
theorem dL_law_378 : decode cL_law 378 = .ok (.invokevirtual 48, 3) := by decide +kernel
theorem dL_law_381 : decode cL_law 381 = .ok (.aload_n 2, 1) := by decide +kernel
theorem dL_law_382 : decode cL_law 382 = .ok (.aload_n 0, 1) := by decide +kernel
theorem dL_law_383 : decode cL_law 383 = .ok (.iload_n 3, 1) := by decide +kernel
theorem dL_law_384 : decode cL_law 384 = .ok (.iconst 1, 1) := by decide +kernel
theorem dL_law_385 : decode cL_law 385 = .ok (.iadd, 1) := by decide +kernel
theorem dL_law_386 : decode cL_law 386 = .ok (.iaload, 1) := by decide +kernel
theorem dL_law_387 : decode cL_law 387 = .ok (.invokevirtual 51, 3) := by decide +kernel
theorem dL_law_390 : decode cL_law 390 = .ok (.if_icmp .eq 268, 3) := by decide +kernel
theorem dL_law_393 : decode cL_law 393 = .ok (.iconst 0, 1) := by decide +kernel
theorem dL_law_394 : decode cL_law 394 = .ok (.ireturn, 1) := by decide +kernel
theorem dL_law_395 : decode cL_law 395 = .ok (.aload_n 1, 1) := by decide +kernel
theorem dL_law_396 : decode cL_law 396 = .ok (.aload_n 0, 1) := by decide +kernel
theorem dL_law_397 : decode cL_law 397 = .ok (.iload_n 3, 1) := by decide +kernel
theorem dL_law_398 : decode cL_law 398 = .ok (.iconst 1, 1) := by decide +kernel
theorem dL_law_399 : decode cL_law 399 = .ok (.iadd, 1) := by decide +kernel
theorem dL_law_400 : decode cL_law 400 = .ok (.iaload, 1) := by decide +kernel
theorem dL_law_401 : decode cL_law 401 = .ok (.invokevirtual 52, 3) := by decide +kernel
theorem dL_law_404 : decode cL_law 404 = .ok (.aload_n 2, 1) := by decide +kernel
theorem dL_law_405 : decode cL_law 405 = .ok (.aload_n 0, 1) := by decide +kernel
theorem dL_law_406 : decode cL_law 406 = .ok (.iload_n 3, 1) := by decide +kernel
theorem dL_law_407 : decode cL_law 407 = .ok (.iconst 1, 1) := by decide +kernel
theorem dL_law_408 : decode cL_law 408 = .ok (.iadd, 1) := by decide +kernel
theorem dL_law_409 : decode cL_law 409 = .ok (.iaload, 1) := by decide +kernel
theorem dL_law_410 : decode cL_law 410 = .ok (.invokevirtual 55, 3) := by decide +kernel
theorem dL_law_413 : decode cL_law 413 = .ok (.if_icmp .eq 245, 3) := by decide +kernel
theorem dL_law_416 : decode cL_law 416 = .ok (.iconst 0, 1) := by decide +kernel
theorem dL_law_417 : decode cL_law 417 = .ok (.ireturn, 1) := by decide +kernel
theorem dL_law_418 : decode cL_law 418 = .ok (.aload_n 1, 1) := by decide +kernel
theorem dL_law_419 : decode cL_law 419 = .ok (.aload_n 0, 1) := by decide +kernel
theorem dL_law_420 : decode cL_law 420 = .ok (.iload_n 3, 1) := by decide +kernel
theorem dL_law_421 : decode cL_law 421 = .ok (.iconst 1, 1) := by decide +kernel
theorem dL_law_422 : decode cL_law 422 = .ok (.iadd, 1) := by decide +kernel
theorem dL_law_423 : decode cL_law 423 = .ok (.iaload, 1) := by decide +kernel
theorem dL_law_424 : decode cL_law 424 = .ok (.invokevirtual 56, 3) := by decide +kernel
theorem dL_law_427 : decode cL_law 427 = .ok (.aload_n 2, 1) := by decide +kernel
theorem dL_law_428 : decode cL_law 428 = .ok (.aload_n 0, 1) := by decide +kernel
theorem dL_law_429 : decode cL_law 429 = .ok (.iload_n 3, 1) := by decide +kernel
theorem dL_law_430 : decode cL_law 430 = .ok (.iconst 1, 1) := by decide +kernel
theorem dL_law_431 : decode cL_law 431 = .ok (.iadd, 1) := by decide +kernel
theorem dL_law_432 : decode cL_law 432 = .ok (.iaload, 1) := by decide +kernel
theorem dL_law_433 : decode cL_law 433 = .ok (.invokevirtual 59, 3) := by decide +kernel
theorem dL_law_436 : decode cL_law 436 = .ok (.if_icmp .eq 222, 3) := by decide +kernel
theorem dL_law_439 : decode cL_law 439 = .ok (.iconst 0, 1) := by decide +kernel
theorem dL_law_440 : decode cL_law 440 = .ok (.ireturn, 1) := by decide +kernel
theorem dL_law_441 : decode cL_law 441 = .ok (.aload_n 1, 1) := by decide +kernel
theorem dL_law_442 : decode cL_law 442 = .ok (.aload_n 0, 1) := by decide +kernel
theorem dL_law_443 : decode cL_law 443 = .ok (.iload_n 3, 1) := by decide +kernel
theorem dL_law_444 : decode cL_law 444 = .ok (.iconst 1, 1) := by decide +kernel
theorem dL_law_445 : decode cL_law 445 = .ok (.iadd, 1) := by decide +kernel
theorem dL_law_446 : decode cL_law 446 = .ok (.iaload, 1) := by decide +kernel
theorem dL_law_447 : decode cL_law 447 = .ok (.invokevirtual 60, 3) := by decide +kernel
theorem dL_law_450 : decode cL_law 450 = .ok (.aload_n 2, 1) := by decide +kernel
theorem dL_law_451 : decode cL_law 451 = .ok (.aload_n 0, 1) := by decide +kernel
theorem dL_law_452 : decode cL_law 452 = .ok (.iload_n 3, 1) := by decide +kernel
theorem dL_law_453 : decode cL_law 453 = .ok (.iconst 1, 1) := by decide +kernel
theorem dL_law_454 : decode cL_law 454 = .ok (.iadd, 1) := by decide +kernel
theorem dL_law_455 : decode cL_law 455 = .ok (.iaload, 1) := by decide +kernel
theorem dL_law_456 : decode cL_law 456 = .ok (.invokevirtual 63, 3) := by decide +kernel
theorem dL_law_459 : decode cL_law 459 = .ok (.if_icmp .eq 199, 3) := by decide +kernel
theorem dL_law_462 : decode cL_law 462 = .ok (.iconst 0, 1) := by decide +kernel
theorem dL_law_463 : decode cL_law 463 = .ok (.ireturn, 1) := by decide +kernel
theorem dL_law_464 : decode cL_law 464 = .ok (.aload_n 1, 1) := by decide +kernel
theorem dL_law_465 : decode cL_law 465 = .ok (.aload_n 0, 1) := by decide +kernel
theorem dL_law_466 : decode cL_law 466 = .ok (.iload_n 3, 1) := by decide +kernel
theorem dL_law_467 : decode cL_law 467 = .ok (.iconst 1, 1) := by decide +kernel
theorem dL_law_468 : decode cL_law 468 = .ok (.iadd, 1) := by decide +kernel
theorem dL_law_469 : decode cL_law 469 = .ok (.iaload, 1) := by decide +kernel
theorem dL_law_470 : decode cL_law 470 = .ok (.aload_n 0, 1) := by decide +kernel
theorem dL_law_471 : decode cL_law 471 = .ok (.iload_n 3, 1) := by decide +kernel
theorem dL_law_472 : decode cL_law 472 = .ok (.iconst 2, 1) := by decide +kernel
theorem dL_law_473 : decode cL_law 473 = .ok (.iadd, 1) := by decide +kernel
theorem dL_law_474 : decode cL_law 474 = .ok (.iaload, 1) := by decide +kernel
theorem dL_law_475 : decode cL_law 475 = .ok (.aload_n 0, 1) := by decide +kernel
theorem dL_law_476 : decode cL_law 476 = .ok (.iload_n 3, 1) := by decide +kernel
theorem dL_law_477 : decode cL_law 477 = .ok (.iconst 3, 1) := by decide +kernel
theorem dL_law_478 : decode cL_law 478 = .ok (.iadd, 1) := by decide +kernel
theorem dL_law_479 : decode cL_law 479 = .ok (.iaload, 1) := by decide +kernel
theorem dL_law_480 : decode cL_law 480 = .ok (.invokevirtual 64, 3) := by decide +kernel
theorem dL_law_483 : decode cL_law 483 = .ok (.aload_n 2, 1) := by decide +kernel
theorem dL_law_484 : decode cL_law 484 = .ok (.aload_n 0, 1) := by decide +kernel
theorem dL_law_485 : decode cL_law 485 = .ok (.iload_n 3, 1) := by decide +kernel
theorem dL_law_486 : decode cL_law 486 = .ok (.iconst 1, 1) := by decide +kernel
theorem dL_law_487 : decode cL_law 487 = .ok (.iadd, 1) := by decide +kernel
theorem dL_law_488 : decode cL_law 488 = .ok (.iaload, 1) := by decide +kernel
theorem dL_law_489 : decode cL_law 489 = .ok (.aload_n 0, 1) := by decide +kernel
theorem dL_law_490 : decode cL_law 490 = .ok (.iload_n 3, 1) := by decide +kernel
theorem dL_law_491 : decode cL_law 491 = .ok (.iconst 2, 1) := by decide +kernel
theorem dL_law_492 : decode cL_law 492 = .ok (.iadd, 1) := by decide +kernel
theorem dL_law_493 : decode cL_law 493 = .ok (.iaload, 1) := by decide +kernel
theorem dL_law_494 : decode cL_law 494 = .ok (.aload_n 0, 1) := by decide +kernel
theorem dL_law_495 : decode cL_law 495 = .ok (.iload_n 3, 1) := by decide +kernel
theorem dL_law_496 : decode cL_law 496 = .ok (.iconst 3, 1) := by decide +kernel
theorem dL_law_497 : decode cL_law 497 = .ok (.iadd, 1) := by decide +kernel
theorem dL_law_498 : decode cL_law 498 = .ok (.iaload, 1) := by decide +kernel
theorem dL_law_499 : decode cL_law 499 = .ok (.invokevirtual 67, 3) := by decide +kernel
theorem dL_law_502 : decode cL_law 502 = .ok (.if_icmp .eq 156, 3) := by decide +kernel
theorem dL_law_505 : decode cL_law 505 = .ok (.iconst 0, 1) := by decide +kernel
theorem dL_law_506 : decode cL_law 506 = .ok (.ireturn, 1) := by decide +kernel
theorem dL_law_507 : decode cL_law 507 = .ok (.aload_n 1, 1) := by decide +kernel
theorem dL_law_508 : decode cL_law 508 = .ok (.aload_n 0, 1) := by decide +kernel
theorem dL_law_509 : decode cL_law 509 = .ok (.iload_n 3, 1) := by decide +kernel
theorem dL_law_510 : decode cL_law 510 = .ok (.iconst 1, 1) := by decide +kernel
theorem dL_law_511 : decode cL_law 511 = .ok (.iadd, 1) := by decide +kernel
theorem dL_law_512 : decode cL_law 512 = .ok (.iaload, 1) := by decide +kernel
theorem dL_law_513 : decode cL_law 513 = .ok (.i2l, 1) := by decide +kernel
theorem dL_law_514 : decode cL_law 514 = .ok (.bipush 32, 2) := by decide +kernel
theorem dL_law_516 : decode cL_law 516 = .ok (.lshl, 1) := by decide +kernel
theorem dL_law_517 : decode cL_law 517 = .ok (.aload_n 0, 1) := by decide +kernel
theorem dL_law_518 : decode cL_law 518 = .ok (.iload_n 3, 1) := by decide +kernel
theorem dL_law_519 : decode cL_law 519 = .ok (.iconst 2, 1) := by decide +kernel
theorem dL_law_520 : decode cL_law 520 = .ok (.iadd, 1) := by decide +kernel
theorem dL_law_521 : decode cL_law 521 = .ok (.iaload, 1) := by decide +kernel
theorem dL_law_522 : decode cL_law 522 = .ok (.i2l, 1) := by decide +kernel
theorem dL_law_523 : decode cL_law 523 = .ok (.ldc2_w 68, 3) := by decide +kernel
theorem dL_law_526 : decode cL_law 526 = .ok (.land, 1) := by decide +kernel
theorem dL_law_527 : decode cL_law 527 = .ok (.lor, 1) := by decide +kernel
theorem dL_law_528 : decode cL_law 528 = .ok (.invokevirtual 70, 3) := by decide +kernel
theorem dL_law_531 : decode cL_law 531 = .ok (.aload_n 2, 1) := by decide +kernel
theorem dL_law_532 : decode cL_law 532 = .ok (.aload_n 0, 1) := by decide +kernel
theorem dL_law_533 : decode cL_law 533 = .ok (.iload_n 3, 1) := by decide +kernel
theorem dL_law_534 : decode cL_law 534 = .ok (.iconst 1, 1) := by decide +kernel
theorem dL_law_535 : decode cL_law 535 = .ok (.iadd, 1) := by decide +kernel
theorem dL_law_536 : decode cL_law 536 = .ok (.iaload, 1) := by decide +kernel
theorem dL_law_537 : decode cL_law 537 = .ok (.i2l, 1) := by decide +kernel
theorem dL_law_538 : decode cL_law 538 = .ok (.bipush 32, 2) := by decide +kernel
theorem dL_law_540 : decode cL_law 540 = .ok (.lshl, 1) := by decide +kernel
theorem dL_law_541 : decode cL_law 541 = .ok (.aload_n 0, 1) := by decide +kernel
theorem dL_law_542 : decode cL_law 542 = .ok (.iload_n 3, 1) := by decide +kernel
theorem dL_law_543 : decode cL_law 543 = .ok (.iconst 2, 1) := by decide +kernel
theorem dL_law_544 : decode cL_law 544 = .ok (.iadd, 1) := by decide +kernel
theorem dL_law_545 : decode cL_law 545 = .ok (.iaload, 1) := by decide +kernel
theorem dL_law_546 : decode cL_law 546 = .ok (.i2l, 1) := by decide +kernel
theorem dL_law_547 : decode cL_law 547 = .ok (.ldc2_w 68, 3) := by decide +kernel
theorem dL_law_550 : decode cL_law 550 = .ok (.land, 1) := by decide +kernel
theorem dL_law_551 : decode cL_law 551 = .ok (.lor, 1) := by decide +kernel
theorem dL_law_552 : decode cL_law 552 = .ok (.invokevirtual 74, 3) := by decide +kernel
theorem dL_law_555 : decode cL_law 555 = .ok (.if_icmp .eq 103, 3) := by decide +kernel
theorem dL_law_558 : decode cL_law 558 = .ok (.iconst 0, 1) := by decide +kernel
theorem dL_law_559 : decode cL_law 559 = .ok (.ireturn, 1) := by decide +kernel
theorem dL_law_560 : decode cL_law 560 = .ok (.aload_n 1, 1) := by decide +kernel
theorem dL_law_561 : decode cL_law 561 = .ok (.invokevirtual 75, 3) := by decide +kernel
theorem dL_law_564 : decode cL_law 564 = .ok (.aload_n 2, 1) := by decide +kernel
theorem dL_law_565 : decode cL_law 565 = .ok (.invokevirtual 79, 3) := by decide +kernel
theorem dL_law_568 : decode cL_law 568 = .ok (.if_icmp .eq 90, 3) := by decide +kernel
theorem dL_law_571 : decode cL_law 571 = .ok (.iconst 0, 1) := by decide +kernel
theorem dL_law_572 : decode cL_law 572 = .ok (.ireturn, 1) := by decide +kernel
theorem dL_law_573 : decode cL_law 573 = .ok (.aload_n 1, 1) := by decide +kernel
theorem dL_law_574 : decode cL_law 574 = .ok (.invokevirtual 80, 3) := by decide +kernel
theorem dL_law_577 : decode cL_law 577 = .ok (.aload_n 2, 1) := by decide +kernel
theorem dL_law_578 : decode cL_law 578 = .ok (.invokevirtual 83, 3) := by decide +kernel
theorem dL_law_581 : decode cL_law 581 = .ok (.if_icmp .eq 77, 3) := by decide +kernel
theorem dL_law_584 : decode cL_law 584 = .ok (.iconst 0, 1) := by decide +kernel
theorem dL_law_585 : decode cL_law 585 = .ok (.ireturn, 1) := by decide +kernel
theorem dL_law_586 : decode cL_law 586 = .ok (.aload_n 1, 1) := by decide +kernel
theorem dL_law_587 : decode cL_law 587 = .ok (.invokevirtual 84, 3) := by decide +kernel
theorem dL_law_590 : decode cL_law 590 = .ok (.aload_n 2, 1) := by decide +kernel
theorem dL_law_591 : decode cL_law 591 = .ok (.invokevirtual 87, 3) := by decide +kernel
theorem dL_law_594 : decode cL_law 594 = .ok (.if_icmp .eq 64, 3) := by decide +kernel
theorem dL_law_597 : decode cL_law 597 = .ok (.iconst 0, 1) := by decide +kernel
theorem dL_law_598 : decode cL_law 598 = .ok (.ireturn, 1) := by decide +kernel
theorem dL_law_599 : decode cL_law 599 = .ok (.aload_n 1, 1) := by decide +kernel
theorem dL_law_600 : decode cL_law 600 = .ok (.invokevirtual 88, 3) := by decide +kernel
theorem dL_law_603 : decode cL_law 603 = .ok (.aload_n 2, 1) := by decide +kernel
theorem dL_law_604 : decode cL_law 604 = .ok (.invokevirtual 91, 3) := by decide +kernel
theorem dL_law_607 : decode cL_law 607 = .ok (.if_icmp .eq 51, 3) := by decide +kernel
theorem dL_law_610 : decode cL_law 610 = .ok (.iconst 0, 1) := by decide +kernel
theorem dL_law_611 : decode cL_law 611 = .ok (.ireturn, 1) := by decide +kernel
theorem dL_law_612 : decode cL_law 612 = .ok (.aload_n 1, 1) := by decide +kernel
theorem dL_law_613 : decode cL_law 613 = .ok (.aload_n 0, 1) := by decide +kernel
theorem dL_law_614 : decode cL_law 614 = .ok (.iload_n 3, 1) := by decide +kernel
theorem dL_law_615 : decode cL_law 615 = .ok (.iconst 1, 1) := by decide +kernel
theorem dL_law_616 : decode cL_law 616 = .ok (.iadd, 1) := by decide +kernel
theorem dL_law_617 : decode cL_law 617 = .ok (.iaload, 1) := by decide +kernel
theorem dL_law_618 : decode cL_law 618 = .ok (.invokevirtual 92, 3) := by decide +kernel
theorem dL_law_621 : decode cL_law 621 = .ok (.aload_n 2, 1) := by decide +kernel
theorem dL_law_622 : decode cL_law 622 = .ok (.aload_n 0, 1) := by decide +kernel
theorem dL_law_623 : decode cL_law 623 = .ok (.iload_n 3, 1) := by decide +kernel
theorem dL_law_624 : decode cL_law 624 = .ok (.iconst 1, 1) := by decide +kernel
theorem dL_law_625 : decode cL_law 625 = .ok (.iadd, 1) := by decide +kernel
theorem dL_law_626 : decode cL_law 626 = .ok (.iaload, 1) := by decide +kernel
theorem dL_law_627 : decode cL_law 627 = .ok (.invokevirtual 95, 3) := by decide +kernel
theorem dL_law_630 : decode cL_law 630 = .ok (.if_icmp .eq 28, 3) := by decide +kernel
theorem dL_law_633 : decode cL_law 633 = .ok (.iconst 0, 1) := by decide +kernel
theorem dL_law_634 : decode cL_law 634 = .ok (.ireturn, 1) := by decide +kernel
theorem dL_law_635 : decode cL_law 635 = .ok (.aload_n 1, 1) := by decide +kernel
theorem dL_law_636 : decode cL_law 636 = .ok (.aload_n 0, 1) := by decide +kernel
theorem dL_law_637 : decode cL_law 637 = .ok (.iload_n 3, 1) := by decide +kernel
theorem dL_law_638 : decode cL_law 638 = .ok (.iconst 1, 1) := by decide +kernel
theorem dL_law_639 : decode cL_law 639 = .ok (.iadd, 1) := by decide +kernel
theorem dL_law_640 : decode cL_law 640 = .ok (.iaload, 1) := by decide +kernel
theorem dL_law_641 : decode cL_law 641 = .ok (.invokevirtual 96, 3) := by decide +kernel
theorem dL_law_644 : decode cL_law 644 = .ok (.aload_n 2, 1) := by decide +kernel
theorem dL_law_645 : decode cL_law 645 = .ok (.aload_n 0, 1) := by decide +kernel
theorem dL_law_646 : decode cL_law 646 = .ok (.iload_n 3, 1) := by decide +kernel
theorem dL_law_647 : decode cL_law 647 = .ok (.iconst 1, 1) := by decide +kernel
theorem dL_law_648 : decode cL_law 648 = .ok (.iadd, 1) := by decide +kernel
theorem dL_law_649 : decode cL_law 649 = .ok (.iaload, 1) := by decide +kernel
theorem dL_law_650 : decode cL_law 650 = .ok (.invokevirtual 99, 3) := by decide +kernel
theorem dL_law_653 : decode cL_law 653 = .ok (.if_icmp .eq 5, 3) := by decide +kernel
theorem dL_law_656 : decode cL_law 656 = .ok (.iconst 0, 1) := by decide +kernel
theorem dL_law_657 : decode cL_law 657 = .ok (.ireturn, 1) := by decide +kernel
theorem dL_law_658 : decode cL_law 658 = .ok (.iinc 3 4, 3) := by decide +kernel
theorem dL_law_661 : decode cL_law 661 = .ok (.goto (-643), 3) := by decide +kernel
theorem dL_law_664 : decode cL_law 664 = .ok (.iconst 1, 1) := by decide +kernel
theorem dL_law_665 : decode cL_law 665 = .ok (.ireturn, 1) := by decide +kernel
abbrev vwCl : List vw_C := [(RX0, TX0, 14), (RX1, TX1, 3), (RX2, TX2, 4), (RX3, TX3, 2), (RX4, TX4, 5), (RX5, TX5, 8), (RX6, TX6, 2), (RX7, TX7, 7), (RX8, TX8, 13)]
end
section
theorem zz_probe : (1 : Nat) = 1 := rfl
end
